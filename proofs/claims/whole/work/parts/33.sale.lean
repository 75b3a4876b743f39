/-! PART sale: the sale, and a whole MINUTE, are the same on both sides (pure) -/
theorem mSun_z {g : cm_g2} (h : 0 ≤ (g 0 1).toInt) : -3 ≤ (mSun g).toInt ∧ (mSun g).toInt ≤ 3 := by
  have e : mSun g = nI ((g 0 1).toInt.toNat % 7) - 3 := by
    unfold mSun
    rw [z_of h]
    have hb : (g 0 1).toInt.toNat < 2 ^ 31 := by
      have := Int32.toInt_lt (g 0 1)
      omega
    have := pk_rem (a := (g 0 1).toInt.toNat) (d := 7) hb (by omega) (by omega)
    rw [show (7 : Int32) = nI 7 from rfl, this, nI_toInt hb]
    rfl
  have hm : (g 0 1).toInt.toNat % 7 < 7 := Nat.mod_lt _ (by omega)
  have z3 : (3 : Int32).toInt = 3 := by decide
  rw [e, zsub (by rw [nI_toInt (by omega), z3]; omega), nI_toInt (by omega), z3]
  omega
theorem uSun_eq {g u : cm_g2} {nb ns B : Nat} (h : mR g u nb ns B) : uSun u = mSun g := by
  unfold uSun mSun
  rw [h.2.2.2.1.1]
theorem shaded_same {g u : cm_g2} {nb ns B : Nat} {at_ mv : Int32} (h : mR g u nb ns B) (ha : 0 ≤ at_.toInt ∧ at_.toInt < 20) (hmv : -50 ≤ mv.toInt ∧ mv.toInt ≤ 50) : uShaded u nb at_ mv = mShaded g nb at_ mv := by
  unfold uShaded mShaded
  by_cases h0 : 0 < nb
  · have e0 := (h.2.2.2.2.1 0 h0).2.1
    have e1 := (h.2.2.2.2.1 (nb - 1) (by omega)).2.1
    have b0 := h.1.2.1 0 h0
    have b1 := h.1.2.1 (nb - 1) (by omega)
    have z1 : (at_ - mv).toInt = at_.toInt - mv.toInt := zsub (by omega)
    have z2 : (g 6 0 + mv).toInt = (g 6 0).toInt + mv.toInt := zadd (by omega)
    have z3 : (g 6 (nb - 1) + mv).toInt = (g 6 (nb - 1)).toInt + mv.toInt := zadd (by omega)
    unfold uIn mLastSpot
    rw [if_neg (by omega), e0, e1, Bool.eq_iff_iff]
    simp only [Bool.and_eq_true, Bool.not_eq_true', decide_eq_false_iff_not, decide_eq_true_eq, Int32.lt_iff_toInt_lt, z1, z2, z3]
    omega
  · simp [h0]
theorem uBuy_eq {g u : cm_g2} {nb ns B i : Nat} {mv : Int32} (h : mR g u nb ns B) (hi : i < nb) (hmv : -50 ≤ mv.toInt ∧ mv.toInt ≤ 50) : ∀ n k, k + n ≤ ns → uBuy u nb i mv n k = if mShaded g nb (g 6 i) mv then mHere g (g 6 i) (g 7 i) n k else none
  | 0, k, _ => by
    unfold uBuy mHere
    split <;> rfl
  | n + 1, k, hk => by
    have e := h.2.2.2.2.1 i hi
    have e2 := h.2.2.2.2.2.1 k (by omega)
    have hs := shaded_same (at_ := g 6 i) h (h.1.2.1 i hi) hmv
    unfold uBuy mHere
    rw [uBuy_eq h hi hmv n (k + 1) (by omega), e.2.1, e.2.2.1, e2.1, e2.2.1, hs]
    cases mShaded g nb (g 6 i) mv
    · simp
    · by_cases q : g 1 k = g 6 i ∧ g 2 k = g 7 i
      · simp [q.1, q.2]
      · rw [if_neg (fun z => q ⟨z.1, z.2.1⟩)]
        simp only [if_true]
        rw [if_neg q]
theorem mHere_4 {g : cm_g2} {at_ : Int32} {ns : Nat} (hg : ∀ k, k < ns → 0 ≤ (g 2 k).toInt ∧ (g 2 k).toInt < 4) : ∀ n k, k + n ≤ ns → mHere g at_ 4 n k = none
  | 0, _, _ => rfl
  | n + 1, k, hk => by
    unfold mHere
    rw [if_neg (fun q => by
      have := hg k (by omega)
      rw [q.2] at this
      have z : (4 : Int32).toInt = 4 := by decide
      omega)]
    exact mHere_4 hg n (k + 1) (by omega)
def mSold (g : cm_g2) (i k : Nat) : cm_g2 := va_up (va_up (va_up g 8 (upd (g 8) i (g 8 i + g 3 k))) 4 (upd (g 4) k (g 4 k + 1))) 7 (upd (g 7) i 4)
def uSold (u : cm_g2) (lk : Int32) (i k : Nat) : cm_g2 := va_up (va_up (va_up (va_up u 0 (upd (upd (upd (u 0) 25 (u 0 25 ||| (1 <<< (nI i &&& 31)))) 26 (u 0 26 + u 13 k)) 27 (if nI i = lk then nI k else u 0 27))) 10 (upd (u 10) i (u 10 i + u 13 k))) 14 (upd (u 14) k (u 14 k + 1))) 9 (upd (u 9) i 4)
theorem buy1_cases {g u : cm_g2} {nb ns B i : Nat} {mv wind lk : Int32} (h : mR g u nb ns B) (hi : i < nb) (hmv : -50 ≤ mv.toInt ∧ mv.toInt ≤ 50) (hs : uSun u + wind = mv) : (mSell1 g nb ns mv i = (g, 0) ∧ uBuy1 u nb ns wind lk i = u) ∨ ∃ k, k < ns ∧ ¬ g 7 i = 4 ∧ mHere g (g 6 i) (g 7 i) ns 0 = some k ∧ mSell1 g nb ns mv i = (mSold g i k, 1) ∧ uBuy1 u nb ns wind lk i = uSold u lk i k := by
  have hb := uBuy_eq h hi hmv ns 0 (by omega)
  unfold mSell1 uBuy1
  rw [hs, hb]
  by_cases h4 : g 7 i = 4
  · left
    rw [if_pos h4, h4, mHere_4 h.2.2.2.2.2.2.1 ns 0 (by omega)]
    exact ⟨rfl, by split <;> simp_all⟩
  · rw [if_neg h4]
    cases hsd : mShaded g nb (g 6 i) mv with
    | false => left; exact ⟨by simp, by simp⟩
    | true =>
      cases hh : mHere g (g 6 i) (g 7 i) ns 0 with
      | none => left; exact ⟨by simp, by simp⟩
      | some k =>
        right
        have := mHere_lt hh
        exact ⟨k, by omega, h4, rfl, by simp [mSold], by simp [uSold]⟩
theorem mR.sold {g u : cm_g2} {nb ns B i k : Nat} {lk : Int32} (h : mR g u nb ns B) (hi : i < nb) (hk : k < ns) : mR (mSold g i k) (uSold u lk i k) nb ns B := by
  obtain ⟨h1, h2, h3, h4, h5, h6, h7, h8, h9⟩ := h
  have ei := h5 i hi
  have ek := h6 k hk
  refine ⟨?_, ?_, ?_, ?_, fun x hx => ?_, fun x hx => ?_, fun x hx => by simpa [mSold, va_up] using h7 x hx, fun x h0 hx => by simpa [mSold, va_up] using h8 x h0 hx, h9.keep rfl rfl rfl⟩
  · refine ⟨by simpa [mSold, va_up] using h1.1, fun x hx => by simpa [mSold, va_up] using h1.2.1 x hx, fun x hx => ?_, fun x hx => by simpa [mSold, va_up] using h1.2.2.2.1 x hx, fun x hx => by simpa [mSold, va_up] using h1.2.2.2.2 x hx⟩
    unfold mSold
    rw [va_up_self]
    unfold upd
    split
    · decide
    · exact h1.2.2.1 x hx
  · exact ⟨by simpa [uSold, va_up, upd] using h2.1, fun x hx => by simpa [uSold, va_up] using h2.2.1 x hx, fun x hx => by simpa [uSold, va_up] using h2.2.2 x hx⟩
  · simpa [mSold, uSold, va_up, upd] using h3
  · simpa [mSold, uSold, va_up, upd] using h4
  · have ex := h5 x hx
    refine ⟨by simpa [mSold, uSold, va_up] using ex.1, by simpa [mSold, uSold, va_up] using ex.2.1, ?_, ?_⟩
    · simp only [mSold, uSold, va_up_self, upd]
      split
      · rfl
      · exact ex.2.2.1
    · have a1 : uSold u lk i k 10 = upd (u 10) i (u 10 i + u 13 k) := by simp [uSold, va_up]
      have a2 : mSold g i k 8 = upd (g 8) i (g 8 i + g 3 k) := by simp [mSold, va_up]
      rw [a1, a2]
      unfold upd
      split
      · rw [ei.2.2.2, ek.2.2.1]
      · exact ex.2.2.2
  · have ex := h6 x hx
    refine ⟨by simpa [mSold, uSold, va_up] using ex.1, by simpa [mSold, uSold, va_up] using ex.2.1, by simpa [mSold, uSold, va_up] using ex.2.2.1, ?_⟩
    have a1 : uSold u lk i k 14 = upd (u 14) k (u 14 k + 1) := by simp [uSold, va_up]
    have a2 : mSold g i k 4 = upd (g 4) k (g 4 k + 1) := by simp [mSold, va_up]
    rw [a1, a2]
    unfold upd
    split
    · rw [ek.2.2.2]
    · exact ex.2.2.2
/-- how many of the six -/
def pc6 (n : Nat) : Nat := (n.testBit 0).toNat + (n.testBit 1).toNat + (n.testBit 2).toNat + (n.testBit 3).toNat + (n.testBit 4).toNat + (n.testBit 5).toNat
theorem pc6_or : ∀ i, i < 6 → ∀ n, n < 2 ^ i → pc6 (n ||| 2 ^ i) = pc6 n + 1 ∧ n ||| 2 ^ i < 2 ^ (i + 1) ∧ nI n ||| (1 <<< (nI i &&& 31)) = nI (n ||| 2 ^ i) ∧ ∀ j, j < 6 → (n ||| 2 ^ i).testBit j = (n.testBit j || decide (j = i)) := by
  have key : ∀ i, i < 6 → ∀ n, n < 32 → n < 2 ^ i → pc6 (n ||| 2 ^ i) = pc6 n + 1 ∧ n ||| 2 ^ i < 2 ^ (i + 1) ∧ nI n ||| (1 <<< (nI i &&& 31)) = nI (n ||| 2 ^ i) ∧ ∀ j, j < 6 → (n ||| 2 ^ i).testBit j = (n.testBit j || decide (j = i)) := by decide +kernel
  intro i hi n hn
  refine key i hi n ?_ hn
  have : 2 ^ i ≤ 2 ^ 5 := Nat.pow_le_pow_right (by omega) (by omega)
  omega
def sumP (f : Nat → Int32) : Nat → Int32
  | 0 => 0
  | n + 1 => sumP f n + f n
theorem sumP_out {f : Nat → Int32} {i : Nat} {x : Int32} : ∀ n, n ≤ i → sumP (upd f i x) n = sumP f n
  | 0, _ => rfl
  | n + 1, h => by
    unfold sumP
    rw [sumP_out n (by omega)]
    unfold upd
    rw [if_neg (by omega)]
theorem sumP_upd {f : Nat → Int32} {i : Nat} {x : Int32} : ∀ n, i < n → sumP (upd f i (f i + x)) n = sumP f n + x
  | 0, h => by omega
  | n + 1, h => by
    unfold sumP
    by_cases e : i = n
    · subst e
      rw [sumP_out i (Nat.le_refl _)]
      unfold upd
      rw [if_pos rfl, Int32.add_assoc]
    · rw [sumP_upd n (by omega)]
      have : upd f i (f i + x) n = f n := by unfold upd; rw [if_neg (by omega)]
      rw [this, Int32.add_assoc, Int32.add_comm x, ← Int32.add_assoc]
theorem sale_same {g u : cm_g2} {nb ns B : Nat} {mv wind lk : Int32} (h : mR g u nb ns B) (hmv : -50 ≤ mv.toInt ∧ mv.toInt ≤ 50) (hs : uSun u + wind = mv) (h25 : u 0 25 = 0) (h26 : u 0 26 = 0) : ∀ i, i ≤ nb → mR (mSell g nb ns mv i).1 (uBuys u nb ns wind lk i) nb ns B ∧ (∃ n, n < 2 ^ i ∧ uBuys u nb ns wind lk i 0 25 = nI n ∧ pc6 n = (mSell g nb ns mv i).2 ∧ ∀ j, j < 6 → (n.testBit j = true ↔ j < i ∧ ¬ (mSell g nb ns mv i).1 7 j = g 7 j)) ∧ sumP ((mSell g nb ns mv i).1 8) nb = sumP (g 8) nb + uBuys u nb ns wind lk i 0 26 ∧ (∀ j, i ≤ j → (mSell g nb ns mv i).1 7 j = g 7 j)
  | 0, _ => ⟨h, ⟨0, by decide, h25, (by show pc6 0 = 0; decide), fun j hj => by simp⟩, by
      show sumP (g 8) nb = sumP (g 8) nb + u 0 26
      rw [h26]
      simp, fun _ _ => rfl⟩
  | i + 1, hi => by
    obtain ⟨ih, ⟨n, hn, h25', hpc, hbit⟩, hsum, hrest⟩ := sale_same h hmv hs h25 h26 i (by omega)
    have hnb := h.1.1.2.1
    have hs2 : uSun (uBuys u nb ns wind lk i) + wind = mv := by
      have k1 := uSun_eq ih
      have k2 := uSun_eq h
      have k3 := (mSell_keep g nb ns mv i).1
      rw [k1]
      rw [k2] at hs
      unfold mSun at hs ⊢
      rw [k3]
      exact hs
    show mR (mSell1 (mSell g nb ns mv i).1 nb ns mv i).1 (uBuy1 (uBuys u nb ns wind lk i) nb ns wind lk i) nb ns B ∧ (∃ m, m < 2 ^ (i + 1) ∧ uBuy1 (uBuys u nb ns wind lk i) nb ns wind lk i 0 25 = nI m ∧ pc6 m = (mSell g nb ns mv i).2 + (mSell1 (mSell g nb ns mv i).1 nb ns mv i).2 ∧ ∀ j, j < 6 → (m.testBit j = true ↔ j < i + 1 ∧ ¬ (mSell1 (mSell g nb ns mv i).1 nb ns mv i).1 7 j = g 7 j)) ∧ sumP ((mSell1 (mSell g nb ns mv i).1 nb ns mv i).1 8) nb = sumP (g 8) nb + uBuy1 (uBuys u nb ns wind lk i) nb ns wind lk i 0 26 ∧ (∀ j, i + 1 ≤ j → (mSell1 (mSell g nb ns mv i).1 nb ns mv i).1 7 j = g 7 j)
    generalize (mSell g nb ns mv i).1 = G at ih hbit hsum hrest ⊢
    generalize (mSell g nb ns mv i).2 = S at hpc ⊢
    generalize uBuys u nb ns wind lk i = U at ih h25' hsum hs2 ⊢
    rcases buy1_cases (lk := lk) (i := i) ih (by omega) hmv hs2 with ⟨e1, e2⟩ | ⟨k, hk, hn4, -, e1, e2⟩
    · rw [e1, e2]
      refine ⟨ih, ⟨n, ?_, h25', by omega, fun j hj => ?_⟩, hsum, fun j hj => hrest j (by omega)⟩
      · have : 2 ^ i ≤ 2 ^ (i + 1) := Nat.pow_le_pow_right (by omega) (by omega)
        omega
      · rw [hbit j hj]
        constructor
        · rintro ⟨a, b⟩; exact ⟨by omega, b⟩
        · rintro ⟨a, b⟩
          refine ⟨?_, b⟩
          rcases Nat.lt_or_ge j i with q | q
          · exact q
          · exact absurd (hrest j q) b
    · rw [e1, e2]
      obtain ⟨p1, p2, p3, p4⟩ := pc6_or i (by omega) n hn
      have w7 : mSold G i k 7 = upd (G 7) i 4 := by unfold mSold; rw [va_up_self]
      have w8 : mSold G i k 8 = upd (G 8) i (G 8 i + G 3 k) := by simp [mSold, va_up]
      have w26 : uSold U lk i k 0 26 = U 0 26 + U 13 k := by simp [uSold, va_up, upd]
      refine ⟨ih.sold (by omega) hk, ⟨n ||| 2 ^ i, p2, ?_, ?_, fun j hj => ?_⟩, ?_, fun j hj => ?_⟩
      · rw [← p3, ← h25']
        simp [uSold, va_up, upd]
      · show pc6 (n ||| 2 ^ i) = S + 1
        omega
      · show (n ||| 2 ^ i).testBit j = true ↔ j < i + 1 ∧ ¬ mSold G i k 7 j = g 7 j
        rw [p4 j hj, w7]
        unfold upd
        by_cases e : j = i
        · subst e
          rw [if_pos rfl]
          have := hrest j (Nat.le_refl _)
          rw [this] at hn4
          simp
          exact fun q => hn4 q.symm
        · rw [if_neg e]
          simp only [Bool.or_eq_true, decide_eq_true_eq, e, or_false]
          rw [hbit j hj]
          constructor
          · rintro ⟨a, b⟩; exact ⟨by omega, b⟩
          · rintro ⟨a, b⟩; exact ⟨by omega, b⟩
      · show sumP (mSold G i k 8) nb = sumP (g 8) nb + uSold U lk i k 0 26
        rw [w8, w26, sumP_upd nb (by omega), hsum, (ih.2.2.2.2.2.1 k hk).2.2.1, Int32.add_assoc]
      · show mSold G i k 7 j = g 7 j
        rw [w7]
        unfold upd
        rw [if_neg (by omega)]
        exact hrest j (by omega)

/-- A MINUTE IS THE SAME ON BOTH SIDES -/
theorem pass_same {g u : cm_g2} {nb ns B : Nat} {wind lk : Int32} (h : mR g u nb ns B) (hB : B ≤ 100000) (hw : -1 ≤ wind.toInt ∧ wind.toInt ≤ 1) : mR (mPass g nb ns wind).1 (uPass u nb ns wind lk) nb ns (B + 1) ∧ (∃ n, n < 2 ^ nb ∧ uPass u nb ns wind lk 0 25 = nI n ∧ pc6 n = (mPass g nb ns wind).2 ∧ ∀ j, j < 6 → (n.testBit j = true ↔ j < nb ∧ ¬ (mPass g nb ns wind).1 7 j = g 7 j)) ∧ sumP ((mPass g nb ns wind).1 8) nb = sumP (g 8) nb + uPass u nb ns wind lk 0 26 := by
  have h1 := (h.richs nb (Nat.le_refl _)).plains nb (Nat.le_refl _)
  have h2 := h1.tick hB
  have hsun := mSun_z h2.2.2.2.1.2.1
  have hmv : -50 ≤ (mSun (mTick (mPlains (mRichs g nb nb) nb nb)) + wind).toInt ∧ (mSun (mTick (mPlains (mRichs g nb nb) nb nb)) + wind).toInt ≤ 50 := by
    rw [zadd (by omega)]
    omega
  have h3 := sale_same (lk := lk) h2 hmv (by rw [uSun_eq h2]) (by simp [uTick, va_up, upd]) (by simp [uTick, va_up, upd]) nb (Nat.le_refl _)
  have k7 : mTick (mPlains (mRichs g nb nb) nb nb) 7 = g 7 := by
    have a1 : ∀ i, mRichs g nb i 7 = g 7 := by
      intro i
      induction i with
      | zero => rfl
      | succ i ih =>
        unfold mRichs
        split
        · split
          · rw [mPull_c (by decide), mPull_c (by decide), ih]
          · rw [mPull_c (by decide), ih]
        · exact ih
    have a2 : ∀ i, mPlains (mRichs g nb nb) nb i 7 = g 7 := by
      intro i
      induction i with
      | zero => exact a1 nb
      | succ i ih =>
        unfold mPlains
        split
        · exact ih
        · rw [mWalk_c (by decide), ih]
    rw [show mTick (mPlains (mRichs g nb nb) nb nb) 7 = mPlains (mRichs g nb nb) nb nb 7 by simp [mTick, va_up]]
    exact a2 nb
  have k8 : mTick (mPlains (mRichs g nb nb) nb nb) 8 = g 8 := by
    have a1 : ∀ i, mRichs g nb i 8 = g 8 := by
      intro i
      induction i with
      | zero => rfl
      | succ i ih =>
        unfold mRichs
        split
        · split
          · rw [mPull_c (by decide), mPull_c (by decide), ih]
          · rw [mPull_c (by decide), ih]
        · exact ih
    have a2 : ∀ i, mPlains (mRichs g nb nb) nb i 8 = g 8 := by
      intro i
      induction i with
      | zero => exact a1 nb
      | succ i ih =>
        unfold mPlains
        split
        · exact ih
        · rw [mWalk_c (by decide), ih]
    rw [show mTick (mPlains (mRichs g nb nb) nb nb) 8 = mPlains (mRichs g nb nb) nb nb 8 by simp [mTick, va_up]]
    exact a2 nb
  rw [k7, k8] at h3
  exact ⟨h3.1, h3.2.1, h3.2.2.1⟩
