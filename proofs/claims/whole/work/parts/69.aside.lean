/-! PART aside: both Markets are the same: minutes aside -/
theorem tNear_lt {g : cm_g2} {sp gd ot : Int32} : ∀ {n k : Nat}, tNear g sp gd ot n = some k → k < n
  | 0, k, h => by cases h
  | n + 1, k, h => by
    unfold tNear at h
    split at h
    · cases h; exact Nat.lt_succ_self _
    · have := tNear_lt h; omega
theorem tNear_cg {g g' : cm_g2} {sp gd ot : Int32} : ∀ n, n ≤ 6 → (∀ c, c = 1 ∨ c = 2 → ∀ i, i < 6 → g' c i = g c i) → tNear g' sp gd ot n = tNear g sp gd ot n
  | 0, _, _ => rfl
  | n + 1, h, e => by
    unfold tNear
    rw [tNear_cg n (by omega) e, e 2 (.inr rfl) n (by omega)]
    have hk : tNearer g' sp n (tNear g sp gd ot n) = tNearer g sp n (tNear g sp gd ot n) := by
      cases hq : tNear g sp gd ot n with
      | none => rfl
      | some b =>
        have hb := tNear_lt hq
        unfold tNearer
        dsimp only
        rw [e 1 (.inl rfl) n (by omega), e 1 (.inl rfl) b (by omega)]
    rw [hk]
theorem tWay_cg {g g' : cm_g2} {ns : Nat} {sp gd ot : Int32} (h : ns ≤ 6) (e : ∀ c, c = 1 ∨ c = 2 → ∀ i, i < 6 → g' c i = g c i) : tWay g' ns sp gd ot = tWay g ns sp gd ot := by
  unfold tWay
  rw [tNear_cg ns h e]
  cases hq : tNear g sp gd ot ns with
  | none => rfl
  | some b =>
    have hb := tNear_lt hq
    show uSgn (g' 1 b - sp) = uSgn (g 1 b - sp)
    rw [e 1 (.inl rfl) b (by omega)]
theorem mR.cg {g g' u u' : cm_g2} {nb ns B : Nat} (h : mR g u nb ns B) (e : mEq g' g) (f : uEq u u') : mR g' u' nb ns B := by
  obtain ⟨ho, hu, hr, hm, hb, hs, hg, hl, ht⟩ := h
  have hnb := ho.1.2.1
  have hns := ho.1.2.2.2
  have f7 := fun c (h1 : 7 ≤ c) (h2 : c ≤ 14) i (hi : i < 6) => f.2.2 c h1 h2 i hi
  refine ⟨ho.congr e, ⟨by rw [f.1 9 (by decide), f.1 10 (by decide)]; exact hu.1, fun i hi => by rw [f7 8 (by decide) (by decide) i (by omega)]; exact hu.2.1 i hi, fun k hk => by rw [f7 11 (by decide) (by decide) k (by omega)]; exact hu.2.2 k hk⟩, ?_, ?_, fun i hi => ?_, fun k hk => ?_, fun k hk => ?_, fun i h0 hi => ?_, fun w s hw hs => ?_⟩
  · rw [f.1 8 (by decide), e.1 0 (by decide)]; exact hr
  · rw [f.1 19 (by decide), e.1 1 (by decide)]; exact hm
  · rw [f7 7 (by decide) (by decide) i (by omega), f7 8 (by decide) (by decide) i (by omega), f7 9 (by decide) (by decide) i (by omega), f7 10 (by decide) (by decide) i (by omega), e.2.1 5 (by decide) (by decide) i (by omega), e.2.1 6 (by decide) (by decide) i (by omega), e.2.1 7 (by decide) (by decide) i (by omega), e.2.1 8 (by decide) (by decide) i (by omega)]
    exact hb i hi
  · rw [f7 11 (by decide) (by decide) k (by omega), f7 12 (by decide) (by decide) k (by omega), f7 13 (by decide) (by decide) k (by omega), f7 14 (by decide) (by decide) k (by omega), e.2.1 1 (by decide) (by decide) k (by omega), e.2.1 2 (by decide) (by decide) k (by omega), e.2.1 3 (by decide) (by decide) k (by omega), e.2.1 4 (by decide) (by decide) k (by omega)]
    exact hs k hk
  · rw [e.2.1 2 (by decide) (by decide) k (by omega)]; exact hg k hk
  · rw [e.2.1 9 (by decide) (by decide) i (by omega), e.2.1 5 (by decide) (by decide) i (by omega), e.2.1 5 (by decide) (by decide) (i - 1) (by omega), e.1 0 (by decide)]; exact hl i h0 hi
  · have hc : ∀ c, c = 1 ∨ c = 2 → ∀ i, i < 6 → g' c i = g c i := fun c hc i hi => e.2.1 c (by omega) (by omega) i hi
    rw [e.2.2 _ (by omega), e.2.2 _ (by omega), tWay_cg hns hc, tWay_cg hns hc]
    exact ht w s hw hs
theorem mR.mono {g u : cm_g2} {nb ns B C : Nat} (h : mR g u nb ns B) (hc : B ≤ C) : mR g u nb ns C := by
  obtain ⟨ho, hu, hr, hm, hb⟩ := h
  exact ⟨ho, hu, hr, ⟨hm.1, hm.2.1, by have := hm.2.2; omega⟩, hb⟩
theorem mSell1_w {g : cm_g2} {nb ns i j : Nat} {mv : Int32} : (mSell1 g nb ns mv i).1 7 j = g 7 j ∨ (mSell1 g nb ns mv i).1 7 j = 4 := by
  unfold mSell1
  split
  · exact .inl rfl
  · split
    · cases hq : mHere g (g 6 i) (g 7 i) ns 0 with
      | none => exact .inl rfl
      | some k =>
        dsimp only
        rw [va_up_self]
        unfold upd
        split
        · exact .inr rfl
        · exact .inl rfl
    · exact .inl rfl
theorem mSell_w {g : cm_g2} {nb ns j : Nat} {mv : Int32} : ∀ i, (mSell g nb ns mv i).1 7 j = g 7 j ∨ (mSell g nb ns mv i).1 7 j = 4
  | 0 => .inl rfl
  | i + 1 => by
    show (mSell1 (mSell g nb ns mv i).1 nb ns mv i).1 7 j = g 7 j ∨ (mSell1 (mSell g nb ns mv i).1 nb ns mv i).1 7 j = 4
    rcases mSell1_w (g := (mSell g nb ns mv i).1) (nb := nb) (ns := ns) (i := i) (j := j) (mv := mv) with w | w
    · rw [w]; exact mSell_w i
    · exact .inr w
theorem mPass_w {g : cm_g2} {nb ns j : Nat} {w : Int32} : (mPass g nb ns w).1 7 j = g 7 j ∨ (mPass g nb ns w).1 7 j = 4 := by
  unfold mPass
  have := mSell_w (g := mTick (mPlains (mRichs g nb nb) nb nb)) (nb := nb) (ns := ns) (j := j) (mv := mSun (mTick (mPlains (mRichs g nb nb) nb nb)) + w) nb
  have e : mTick (mPlains (mRichs g nb nb) nb nb) 7 = g 7 := by
    unfold mTick
    rw [va_up_ne _ _ (by decide), mPlains_c (by decide), mRichs_c (by decide)]
  rw [e] at this
  exact this
theorem mItW_w {g : cm_g2} {nb ns j : Nat} {w : Nat → Int32} : ∀ m, (mItW g nb ns w m).1 7 j = g 7 j ∨ (mItW g nb ns w m).1 7 j = 4
  | 0 => .inl rfl
  | m + 1 => by
    show (mPass _ nb ns (w m)).1 7 j = _ ∨ (mPass _ nb ns (w m)).1 7 j = _
    rcases mPass_w (g := (mItW g nb ns w m).1) (nb := nb) (ns := ns) (j := j) (w := w m) with q | q
    · rw [q]; exact mItW_w m
    · exact .inr q
theorem mItW_4 {g : cm_g2} {nb ns j : Nat} {w : Nat → Int32} (h : g 7 j = 4) (m : Nat) : (mItW g nb ns w m).1 7 j = 4 := by
  rcases mItW_w (g := g) (nb := nb) (ns := ns) (j := j) (w := w) m with q | q
  · rw [q, h]
  · exact q
theorem pc6_dis : ∀ n, n < 64 → ∀ m, m < 64 → n &&& m = 0 → pc6 (n ||| m) = pc6 n + pc6 m ∧ nI n ||| nI m = nI (n ||| m) ∧ n ||| m < 64 := by decide +kernel
theorem bit_sep : ∀ n, n < 64 → ∀ m, m < 64 → (∀ j, j < 6 → n.testBit j = true → m.testBit j = false) → n &&& m = 0 := by decide +kernel
theorem uSz_pc : ∀ n, n < 64 → uSz (nI n) 10 = nI (pc6 n) ∧ pc6 n ≤ 6 := by decide +kernel
theorem uHas_bit : ∀ n, n < 64 → ∀ j, j < 6 → uHas (nI n) (nI j) = n.testBit j := by decide +kernel
theorem mR.pass {g u : cm_g2} {nb ns B : Nat} {w lk : Int32} (h : mR g u nb ns B) (hB : B ≤ 100000) (hw : -1 ≤ w.toInt ∧ w.toInt ≤ 1) : mR (mPass g nb ns w).1 (uPass u nb ns w lk) nb ns (B + 1) := (pass_same h hB hw).1
theorem mR.itw {g u : cm_g2} {nb ns B : Nat} {w : Nat → Int32} {lk : Int32} (h : mR g u nb ns B) (hw : ∀ k, -1 ≤ (w k).toInt ∧ (w k).toInt ≤ 1) : ∀ m, B + m ≤ 100000 → mR (mItW g nb ns w m).1 (uItW u nb ns w lk m) nb ns (B + m)
  | 0, _ => h
  | m + 1, hm => (mR.itw h hw m (by omega)).pass (by omega) (hw m)
theorem z01 : -1 ≤ (0 : Int32).toInt ∧ (0 : Int32).toInt ≤ 1 := by decide

