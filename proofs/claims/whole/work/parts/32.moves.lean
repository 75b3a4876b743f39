/-! PART moves: wishes, pulls and walks are the same on both sides (pure) -/
theorem tNear_g {g g' : cm_g2} (h1 : g' 1 = g 1) (h2 : g' 2 = g 2) (sp gd ot : Int32) : ∀ n, tNear g' sp gd ot n = tNear g sp gd ot n
  | 0 => rfl
  | n + 1 => by
    unfold tNear
    rw [tNear_g h1 h2 sp gd ot n, h2]
    have : ∀ o, tNearer g' sp n o = tNearer g sp n o := by
      intro o
      cases o <;> simp [tNearer, h1]
    rw [this]
theorem tWay_g {g g' : cm_g2} (h1 : g' 1 = g 1) (h2 : g' 2 = g 2) (ns : Nat) (sp gd ot : Int32) : tWay g' ns sp gd ot = tWay g ns sp gd ot := by
  unfold tWay
  rw [tNear_g h1 h2, h1]
theorem mTab.keep {g g' : cm_g2} {ns : Nat} (h : mTab g ns) (h1 : g' 1 = g 1) (h2 : g' 2 = g 2) (h3 : g' 10 = g 10) : mTab g' ns := fun w s hw hs => by
  rw [h3, tWay_g h1 h2, tWay_g h1 h2]
  exact h w s hw hs
theorem tNear_congr {g : cm_g2} {sp gd ot gd' ot' : Int32} : ∀ n, (∀ k, k < n → ((g 2 k = gd ∨ g 2 k = ot) ↔ (g 2 k = gd' ∨ g 2 k = ot'))) → tNear g sp gd ot n = tNear g sp gd' ot' n
  | 0, _ => rfl
  | n + 1, h => by
    unfold tNear
    rw [tNear_congr n (fun k hk => h k (by omega))]
    have := h n (by omega)
    simp only [this]
theorem uNear_eq {g u : cm_g2} {nb ns B i : Nat} {gd ot : Int32} (h : mR g u nb ns B) (hi : i < nb) : ∀ n, n ≤ ns → uNear u i gd ot n = tNear g (g 6 i) gd ot n
  | 0, _ => rfl
  | n + 1, hn => by
    unfold uNear tNear
    have ih := uNear_eq (gd := gd) (ot := ot) h hi n (by omega)
    rw [ih]
    have e1 := h.2.2.2.2.2.1 n (by omega)
    have e2 := (h.2.2.2.2.1 i hi).2.1
    have : uNearer u i n (tNear g (g 6 i) gd ot n) = tNearer g (g 6 i) n (tNear g (g 6 i) gd ot n) := by
      cases hb : tNear g (g 6 i) gd ot n with
      | none => rfl
      | some b =>
        rw [hb] at ih
        have hlt := uNear_lt ih
        have e3 := h.2.2.2.2.2.1 b (by omega)
        simp only [uNearer, tNearer, e1.1, e2, e3.1]
    rw [this, e1.2.1]
theorem way_same {g u : cm_g2} {nb ns B i : Nat} (h : mR g u nb ns B) (hi : i < nb) : mWay g i = uWish u ns i := by
  have hk := (h.2.2.2.2.1 i hi).1
  have hw := (h.2.2.2.2.1 i hi).2.2.1
  have hsp := (h.2.2.2.2.1 i hi).2.1
  have b6 := h.1.2.1 i hi
  have b7 := h.1.2.2.1 i hi
  have hgood := h.2.2.2.2.2.2.1
  have htab := h.2.2.2.2.2.2.2.2 (g 7 i).toInt.toNat (g 6 i).toInt.toNat (by omega) (by omega)
  rw [← z_of b7.1, ← z_of b6.1] at htab
  have n4 : ∀ k, k < ns → ¬ g 2 k = 4 := fun k hk q => by
    have := hgood k hk
    rw [q] at this
    have z : (4 : Int32).toInt = 4 := by decide
    omega
  have n9 : ∀ k, k < ns → ¬ g 2 k = -9 := fun k hk q => by
    have := hgood k hk
    rw [q] at this
    have z : (-9 : Int32).toInt = -9 := by decide
    omega
  have hu : ∀ ot, (match uNear u i (uWant u i) ot ns with
      | none => 0
      | some k => uSgn (u 11 k - u 8 i)) = tWay g ns (g 6 i) (uWant u i) ot := by
    intro ot
    unfold tWay
    rw [uNear_eq h hi ns (Nat.le_refl _)]
    cases hb : tNear g (g 6 i) (uWant u i) ot ns with
    | none => rfl
    | some k =>
      rw [← uNear_eq h hi ns (Nat.le_refl _)] at hb
      have hlt := uNear_lt hb
      have e3 := h.2.2.2.2.2.1 k hlt
      simp only [e3.1, hsp]
  have hA : uA u i 2 = true ↔ g 5 i = 2 ∨ g 5 i = 4 := by
    unfold uA
    rw [hk]
    simp
  unfold mWay uWish
  by_cases hq : g 5 i = 2 ∨ g 5 i = 4
  · rw [if_pos hq, if_pos (hA.mpr hq)]
  · rw [if_neg hq, if_neg (fun q => hq (hA.mp q))]
    refine Eq.trans ?_ (hu (if u 7 i = 3 then 3 else uWant u i)).symm
    rw [z_cl, z_cl, hk]
    by_cases h3 : g 5 i = 3
    · rw [if_pos h3, if_pos h3, htab.2]
      unfold tWay
      rw [tNear_congr ns (gd' := uWant u i) (ot' := 3) (fun k hk => by
        unfold uWant
        rw [hw]
        by_cases h4 : g 7 i = 4
        · rw [if_pos h4, h4]
          simp [n4 k hk, n9 k hk]
        · rw [if_neg h4])]
    · rw [if_neg h3, if_neg h3, Nat.zero_add, htab.1]
      unfold tWay
      rw [tNear_congr ns (gd' := uWant u i) (ot' := uWant u i) (fun k hk => by
        unfold uWant
        rw [hw]
        by_cases h4 : g 7 i = 4
        · rw [if_pos h4, h4]
          simp [n4 k hk, n9 k hk]
        · rw [if_neg h4])]
theorem mR.spots {g u g' u' : cm_g2} {nb ns B : Nat} (h : mR g u nb ns B) (hg : ∀ c, c ≠ 6 → g' c = g c) (hu : ∀ c, c ≠ 8 → u' c = u c) (hs : ∀ x, x < nb → u' 8 x = g' 6 x) (ho : mOk g' nb ns) (ho2 : uOk u' nb ns) : mR g' u' nb ns B := by
  obtain ⟨h1, h2, h3, h4, h5, h6, h7, h8, h9⟩ := h
  refine ⟨ho, ho2, ?_, ?_, fun i hi => ?_, fun k hk => ?_, fun k hk => ?_, fun i h0 hi => ?_, h9.keep (hg 1 (by decide)) (hg 2 (by decide)) (hg 10 (by decide))⟩
  · rw [hu 0 (by decide), hg 0 (by decide)]; exact h3
  · rw [hu 0 (by decide), hg 0 (by decide)]; exact h4
  · rw [hu 7 (by decide), hu 9 (by decide), hu 10 (by decide), hg 5 (by decide), hg 7 (by decide), hg 8 (by decide)]
    exact ⟨(h5 i hi).1, hs i hi, (h5 i hi).2.2.1, (h5 i hi).2.2.2⟩
  · rw [hu 11 (by decide), hu 12 (by decide), hu 13 (by decide), hu 14 (by decide), hg 1 (by decide), hg 2 (by decide), hg 3 (by decide), hg 4 (by decide)]
    exact h6 k hk
  · rw [hg 2 (by decide)]; exact h7 k hk
  · rw [hg 9 (by decide), hg 5 (by decide), hg 0 (by decide)]; exact h8 i h0 hi
theorem mPull_c {g : cm_g2} {nb i c : Nat} {way : Int32} (h : c ≠ 6) : mPull g nb i way c = g c := by
  unfold mPull
  split
  · rfl
  · split
    · exact mMv_c h
    · rfl
theorem mWalk_c {g : cm_g2} {nb i c : Nat} {way : Int32} (h : c ≠ 6) : mWalk g nb i way c = g c := by
  unfold mWalk
  split
  · rfl
  · split
    · split
      · rfl
      · split
        · rfl
        · exact va_up_ne _ _ h
    · rfl
theorem uStep_c {u : cm_g2} {nb i c : Nat} {way : Int32} (h : c ≠ 8) : uStep u nb i way c = u c := by
  unfold uStep
  split
  · exact va_up_ne _ _ h
  · rfl
theorem mR.rich {g u : cm_g2} {nb ns B i : Nat} (h : mR g u nb ns B) (hi : i < nb) : mR (mPull g nb i (mWay g i)) (uRich u nb ns i) nb ns B := by
  have hw := mWay_in h.1 hi
  refine h.spots (fun c hc => mPull_c hc) (fun c hc => uMv_c hc) ?_ (h.1.pull hi hw) h.2.1.rich
  unfold uRich
  rw [← way_same h hi]
  exact pull_same h hi hw
theorem walk_same {g u : cm_g2} {nb ns B i : Nat} {way : Int32} (h : mR g u nb ns B) (hi : i < nb) (hw : -1 ≤ way.toInt ∧ way.toInt ≤ 1) (h0 : ¬ way = 0) : ∀ x, x < nb → uStep u nb i way 8 x = mWalk g nb i way 6 x := by
  intro x hx
  have e8 := (h.2.2.2.2.1 i hi).2.1
  have ex := (h.2.2.2.2.1 x hx).2.1
  have z20 : (20 : Int32).toInt = 20 := by decide
  have hin : uIn (u 8 i + way) 0 19 = isW (g 6 i + way) 20 := by
    rw [Bool.eq_iff_iff, uIn_iff, isW_z, e8, z20]
  have hl : (i = 0 ∨ uHeld u (i - 1) (u 8 (i - 1)) (u 8 i + way) = true) ↔ ¬ (0 < i ∧ mHolds g i 0 way = false) := by
    by_cases q : i = 0
    · subst q
      simp
    · have := uF_held (j := i - 1) h (by omega) hw
      rw [show i - 1 + 1 = i by omega] at this
      rw [this]
      have : 0 < i := by omega
      simp [q, this]
  have hr : (i + 1 = nb ∨ uHeld u i (u 8 i + way) (u 8 (i + 1)) = true) ↔ ¬ (i + 1 < nb ∧ mHolds g (i + 1) way 0 = false) := by
    by_cases q : i + 1 = nb
    · have : ¬ i + 1 < nb := by omega
      simp [q]
    · have hlt : i + 1 < nb := by omega
      rw [uT_held h hlt hw]
      simp [q, hlt]
  unfold mWalk
  rw [if_neg h0]
  cases hc : isW (g 6 i + way) 20 with
  | false =>
    rw [uStep_no (fun q => by
      have := q.1
      rw [hin, hc] at this
      cases this), if_neg (by decide)]
    exact ex
  | true =>
    by_cases q1 : 0 < i ∧ mHolds g i 0 way = false
    · rw [uStep_no (fun q => hl.mp q.2.1 q1), if_pos rfl, if_pos q1]
      exact ex
    · by_cases q2 : i + 1 < nb ∧ mHolds g (i + 1) way 0 = false
      · rw [uStep_no (fun q => hr.mp q.2.2 q2), if_pos rfl, if_neg q1, if_pos q2]
        exact ex
      · rw [uStep_yes ⟨by rw [hin, hc], hl.mpr q1, hr.mpr q2⟩, if_pos rfl, if_neg q1, if_neg q2, va_up_self, va_up_self]
        unfold upd
        split
        · rw [e8]
        · exact ex
theorem mR.walk {g u : cm_g2} {nb ns B i : Nat} (h : mR g u nb ns B) (hi : i < nb) : mR (mWalk g nb i (mWay g i)) (if uWish u ns i = 0 then u else uStep u nb i (uWish u ns i)) nb ns B := by
  have hw := mWay_in h.1 hi
  rw [← way_same h hi]
  by_cases h0 : mWay g i = 0
  · rw [if_pos h0, h0]
    exact h
  · rw [if_neg h0]
    exact h.spots (fun c hc => mWalk_c hc) (fun c hc => uStep_c hc) (walk_same h hi hw h0) (h.1.walk hi hw) h.2.1.step
theorem mR.richs {g u : cm_g2} {nb ns B : Nat} (h : mR g u nb ns B) : ∀ i, i ≤ nb → mR (mRichs g nb i) (uRichs u nb ns i) nb ns B
  | 0, _ => h
  | i + 1, hi => by
    have ih := mR.richs h i (by omega)
    unfold mRichs uRichs
    rw [mRich_eq ih (by omega)]
    have h1 := ih.rich (i := i) (by omega)
    have hk := (h1.2.2.2.2.1 i (by omega)).1
    rw [hk]
    split
    · split
      · exact h1.rich (by omega)
      · exact h1
    · exact ih
theorem mR.plains {g u : cm_g2} {nb ns B : Nat} (h : mR g u nb ns B) : ∀ i, i ≤ nb → mR (mPlains g nb i) (uPlains u nb ns i) nb ns B
  | 0, _ => h
  | i + 1, hi => by
    have ih := mR.plains h i (by omega)
    unfold mPlains uPlains
    rw [mRich_eq ih (by omega)]
    split
    · exact ih
    · exact ih.walk (by omega)
theorem mR.tick {g u : cm_g2} {nb ns B : Nat} (h : mR g u nb ns B) (hB : B ≤ 100000) : mR (mTick g) (uTick u) nb ns (B + 1) := by
  have o1 := h.1.tick
  have o2 := h.2.1.tick
  obtain ⟨h1, h2, h3, h4, h5, h6, h7, h8, h9⟩ := h
  have z1 : (1 : Int32).toInt = 1 := by decide
  have e : (g 0 1 + 1).toInt = (g 0 1).toInt + 1 := by rw [zadd (by rw [z1]; omega), z1]
  refine ⟨o1, o2, ?_, ?_, fun i hi => ?_, fun k hk => ?_, fun k hk => ?_, fun i h0 hi => ?_, h9.keep rfl rfl rfl⟩
  · simpa [mTick, uTick, va_up, upd] using h3
  · have a1 : uTick u 0 19 = u 0 19 + 1 := by simp [uTick, va_up, upd]
    have a2 : mTick g 0 1 = g 0 1 + 1 := by simp [mTick, va_up, upd]
    rw [a1, a2, h4.1, e]
    exact ⟨rfl, by omega, by omega⟩
  · simpa [mTick, uTick, va_up, upd] using h5 i hi
  · simpa [mTick, uTick, va_up, upd] using h6 k hk
  · simpa [mTick, va_up] using h7 k hk
  · simpa [mTick, va_up, upd] using h8 i h0 hi
