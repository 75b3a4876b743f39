/-! PART okm: what stays true of a Market while MINUTES pass (pure) -/
theorem zadd {x y : Int32} (h : -2147483648 ≤ x.toInt + y.toInt ∧ x.toInt + y.toInt < 2147483648) : (x + y).toInt = x.toInt + y.toInt := by
  rw [Int32.toInt_add]
  exact Int.bmod_eq_of_le (by omega) (by omega)
theorem zsub {x y : Int32} (h : -2147483648 ≤ x.toInt - y.toInt ∧ x.toInt - y.toInt < 2147483648) : (x - y).toInt = x.toInt - y.toInt := by
  rw [Int32.toInt_sub]
  exact Int.bmod_eq_of_le (by omega) (by omega)
theorem z_of {x : Int32} (h : 0 ≤ x.toInt) : x = nI x.toInt.toNat := by
  obtain ⟨j, hj, rfl⟩ := nI_of (x := x) (by rw [Int32.lt_iff_toInt_lt]; simpa using h)
  rw [nI_toInt hj]
  rfl
theorem z_cl {x : Int32} : x.toNatClampNeg = x.toInt.toNat := rfl
def mOk (g : cm_g2) (nb ns : Nat) : Prop := (g 0 3 = nI nb ∧ nb ≤ 6 ∧ g 0 2 = nI ns ∧ ns ≤ 6) ∧ (∀ i, i < nb → 0 ≤ (g 6 i).toInt ∧ (g 6 i).toInt < 20) ∧ (∀ i, i < nb → 0 ≤ (g 7 i).toInt ∧ (g 7 i).toInt < 5) ∧ (∀ i, i + 1 < nb → (g 6 i).toInt < (g 6 (i + 1)).toInt) ∧ (∀ x, x < 200 → -1 ≤ (g 10 x).toInt ∧ (g 10 x).toInt ≤ 1)
theorem mGapZ {g : cm_g2} {nb ns i : Nat} {wa wb : Int32} (h : mOk g nb ns) (h0 : 0 < i) (hi : i < nb) (ha : -1 ≤ wa.toInt ∧ wa.toInt ≤ 1) (hb : -1 ≤ wb.toInt ∧ wb.toInt ≤ 1) : (mGap g i wa wb).toInt = (g 6 i).toInt + wb.toInt - (g 6 (i - 1)).toInt - wa.toInt := by
  have h1 := h.2.1 i hi
  have h2 := h.2.1 (i - 1) (by omega)
  unfold mGap
  have e1 : (g 6 i + wb).toInt = (g 6 i).toInt + wb.toInt := zadd (by omega)
  have e2 : (g 6 i + wb - g 6 (i - 1)).toInt = (g 6 i).toInt + wb.toInt - (g 6 (i - 1)).toInt := by rw [zsub (by omega), e1]
  rw [zsub (by omega), e2]
theorem mHolds_pos {g : cm_g2} {nb ns i : Nat} {wa wb : Int32} (h : mOk g nb ns) (h0 : 0 < i) (hi : i < nb) (ha : -1 ≤ wa.toInt ∧ wa.toInt ≤ 1) (hb : -1 ≤ wb.toInt ∧ wb.toInt ≤ 1) (hh : mHolds g i wa wb = true) : 0 < (g 6 i).toInt + wb.toInt - (g 6 (i - 1)).toInt - wa.toInt := by
  unfold mHolds at hh
  simp only [Bool.and_eq_true, Bool.not_eq_true', decide_eq_false_iff_not] at hh
  have h1 := hh.1
  rw [Int32.le_iff_toInt_le, mGapZ h h0 hi ha hb] at h1
  simp at h1
  omega
theorem mFirst_ok {g : cm_g2} {way : Int32} : ∀ {f k : Nat}, mFirst g way f = some k → k = 0 ∨ mHolds g k 0 way = true
  | 0, k, h => by simp [mFirst] at h; omega
  | f + 1, k, h => by
    unfold mFirst at h
    split at h
    · next hq => cases h; exact Or.inr hq
    · split at h
      · cases h
      · exact mFirst_ok h
theorem mLast_ok {g : cm_g2} {nb : Nat} {way : Int32} : ∀ {n t k : Nat}, mLast g nb way n t = some k → nb ≤ t + 1 + n → nb ≤ k + 1 ∨ mHolds g (k + 1) way 0 = true
  | 0, t, k, h, hn => by simp [mLast] at h; omega
  | n + 1, t, k, h, hn => by
    unfold mLast at h
    split at h
    · split at h
      · next hq => cases h; exact Or.inr hq
      · split at h
        · cases h
        · exact mLast_ok h (by omega)
    · next hq => cases h; exact Or.inl (by omega)
theorem mOk.mono {g : cm_g2} {nb ns : Nat} (h : mOk g nb ns) : ∀ (n x : Nat), x + n < nb → (g 6 x).toInt + n ≤ (g 6 (x + n)).toInt
  | 0, x, _ => by simp
  | n + 1, x, hx => by
    have h1 := mOk.mono h n x (by omega)
    have h2 := h.2.2.2.1 (x + n) (by omega)
    rw [show x + (n + 1) = x + n + 1 by omega]
    omega
theorem mMv_in {g : cm_g2} {f j x : Nat} {way : Int32} (h : f ≤ x ∧ x < j) : mMv g f j way 6 x = g 6 x + way := by
  unfold mMv
  rw [va_up_self, if_pos h]
theorem mMv_out {g : cm_g2} {f j x : Nat} {way : Int32} (h : ¬ (f ≤ x ∧ x < j)) : mMv g f j way 6 x = g 6 x := by
  unfold mMv
  rw [va_up_self, if_neg h]
theorem mMv_c {g : cm_g2} {f j c : Nat} {way : Int32} (h : c ≠ 6) : mMv g f j way c = g c := va_up_ne _ _ h
/-- a block of BUYERS goes: all stays well if its ends do -/
theorem mOk.mv {g : cm_g2} {nb ns f t : Nat} {way : Int32} (h : mOk g nb ns) (hw : -1 ≤ way.toInt ∧ way.toInt ≤ 1) (hft : f ≤ t) (ht : t < nb) (h1 : 0 ≤ (g 6 f).toInt + way.toInt) (h2 : (g 6 t).toInt + way.toInt < 20) (h3 : f = 0 ∨ 0 < (g 6 f).toInt + way.toInt - (g 6 (f - 1)).toInt) (h4 : nb ≤ t + 1 ∨ 0 < (g 6 (t + 1)).toInt - (g 6 t).toInt - way.toInt) : mOk (mMv g f (t + 1) way) nb ns := by
  have key : ∀ x, x < nb → (mMv g f (t + 1) way 6 x).toInt = if f ≤ x ∧ x < t + 1 then (g 6 x).toInt + way.toInt else (g 6 x).toInt := by
    intro x hx
    have := h.2.1 x hx
    by_cases q : f ≤ x ∧ x < t + 1
    · rw [mMv_in q, if_pos q, zadd (by omega)]
    · rw [mMv_out q, if_neg q]
  refine ⟨by rw [mMv_c (by decide)]; exact h.1, fun x hx => ?_, fun x hx => by rw [mMv_c (by decide)]; exact h.2.2.1 x hx, fun x hx => ?_, fun x hx => by rw [mMv_c (by decide)]; exact h.2.2.2.2 x hx⟩
  · rw [key x hx]
    have hx2 := h.2.1 x hx
    split
    · next q =>
      have m1 := h.mono (x - f) f (by omega)
      have m2 := h.mono (t - x) x (by omega)
      rw [show f + (x - f) = x by omega] at m1
      rw [show x + (t - x) = t by omega] at m2
      omega
    · exact hx2
  · rw [key x (by omega), key (x + 1) hx]
    have hs := h.2.2.2.1 x hx
    by_cases q1 : f ≤ x ∧ x < t + 1 <;> by_cases q2 : f ≤ x + 1 ∧ x + 1 < t + 1
    · rw [if_pos q1, if_pos q2]; omega
    · have : x = t := by omega
      subst this
      rw [if_pos q1, if_neg q2]
      rcases h4 with h4 | h4
      · omega
      · omega
    · have : x + 1 = f := by omega
      subst this
      rw [if_neg q1, if_pos q2]
      rcases h3 with h3 | h3
      · omega
      · rw [show x + 1 - 1 = x by omega] at h3
        omega
    · rw [if_neg q1, if_neg q2]; exact hs
theorem mOk.pull {g : cm_g2} {nb ns i : Nat} {way : Int32} (h : mOk g nb ns) (hi : i < nb) (hw : -1 ≤ way.toInt ∧ way.toInt ≤ 1) : mOk (mPull g nb i way) nb ns := by
  unfold mPull
  split
  · exact h
  · split
    · next hc =>
      cases hf : mFirst g way i with
      | none => rw [hf] at hc; cases hc
      | some f =>
        cases ht : mLast g nb way nb i with
        | none => rw [hf, ht] at hc; cases hc
        | some t =>
          rw [hf, ht] at hc
          unfold mCan at hc
          simp only [Bool.and_eq_true, Bool.not_eq_true', decide_eq_false_iff_not] at hc
          have hfi := mFirst_le hf
          have hti := mLast_ge ht
          have hf1 := h.2.1 f (by omega)
          have ht1 := h.2.1 t (by omega)
          obtain ⟨c1, c2⟩ := hc
          rw [Int32.lt_iff_toInt_lt, zadd (by omega)] at c1
          rw [Int32.le_iff_toInt_le, zadd (by omega)] at c2
          have e20 : (20 : Int32).toInt = 20 := by decide
          simp at c1
          rw [e20] at c2
          show mOk (mMv g f (t + 1) way) nb ns
          refine h.mv hw (by omega) (by omega) (by simpa using c1) (by simpa using c2) ?_ ?_
          · rcases mFirst_ok hf with q | q
            · exact Or.inl q
            · by_cases h0 : f = 0
              · exact Or.inl h0
              · have := mHolds_pos h (by omega) (by omega) (wa := 0) (wb := way) (by decide) hw q
                have z0 : (0 : Int32).toInt = 0 := by decide
                rw [z0] at this
                exact Or.inr (by omega)
          · rcases mLast_ok ht (by omega) with q | q
            · exact Or.inl q
            · by_cases hlt : t + 1 < nb
              · have := mHolds_pos h (by omega) hlt (wa := way) (wb := 0) hw (by decide) q
                have z0 : (0 : Int32).toInt = 0 := by decide
                rw [z0, show t + 1 - 1 = t by omega] at this
                exact Or.inr (by omega)
              · exact Or.inl (by omega)
    · exact h
theorem mMv_one (g : cm_g2) (i : Nat) (way : Int32) : va_up g 6 (upd (g 6) i (g 6 i + way)) = mMv g i (i + 1) way := by
  unfold mMv
  congr 1
  funext x
  unfold upd
  by_cases h : x = i
  · subst h
    rw [if_pos rfl, if_pos (by omega)]
  · rw [if_neg h, if_neg (by omega)]
theorem isW_z {v b : Int32} : isW v b = true ↔ 0 ≤ v.toInt ∧ v.toInt < b.toInt := by
  unfold isW
  simp only [Bool.and_eq_true, Bool.not_eq_true', decide_eq_false_iff_not, Int32.lt_iff_toInt_lt, Int32.le_iff_toInt_le]
  have z0 : (0 : Int32).toInt = 0 := by decide
  rw [z0]
  omega
theorem mOk.walk {g : cm_g2} {nb ns i : Nat} {way : Int32} (h : mOk g nb ns) (hi : i < nb) (hw : -1 ≤ way.toInt ∧ way.toInt ≤ 1) : mOk (mWalk g nb i way) nb ns := by
  unfold mWalk
  split
  · exact h
  · split
    · next hc =>
      have hi1 := h.2.1 i hi
      rw [isW_z, zadd (by omega)] at hc
      have e20 : (20 : Int32).toInt = 20 := by decide
      rw [e20] at hc
      have z0 : (0 : Int32).toInt = 0 := by decide
      split
      · exact h
      · next q1 =>
        split
        · exact h
        · next q2 =>
          rw [mMv_one]
          refine h.mv hw (Nat.le_refl _) hi hc.1 hc.2 ?_ ?_
          · by_cases h0 : i = 0
            · exact Or.inl h0
            · have hh : mHolds g i 0 way = true := by
                cases hq : mHolds g i 0 way with
                | true => rfl
                | false => exact absurd ⟨by omega, hq⟩ q1
              have := mHolds_pos h (by omega) hi (wa := 0) (wb := way) (by decide) hw hh
              rw [z0] at this
              exact Or.inr (by omega)
          · by_cases hlt : i + 1 < nb
            · have hh : mHolds g (i + 1) way 0 = true := by
                cases hq : mHolds g (i + 1) way 0 with
                | true => rfl
                | false => exact absurd ⟨hlt, hq⟩ q2
              have := mHolds_pos h (by omega) hlt (wa := way) (wb := 0) hw (by decide) hh
              rw [z0, show i + 1 - 1 = i by omega] at this
              exact Or.inr (by omega)
            · exact Or.inl (by omega)
    · exact h
theorem mWay_in {g : cm_g2} {nb ns i : Nat} (h : mOk g nb ns) (hi : i < nb) : -1 ≤ (mWay g i).toInt ∧ (mWay g i).toInt ≤ 1 := by
  have h1 := h.2.1 i hi
  have h2 := h.2.2.1 i hi
  unfold mWay
  split
  · decide
  · refine h.2.2.2.2 _ ?_
    rw [z_cl, z_cl]
    split <;> omega
theorem mOk.sell1 {g : cm_g2} {nb ns i : Nat} {mv : Int32} (h : mOk g nb ns) : mOk (mSell1 g nb ns mv i).1 nb ns := by
  unfold mSell1
  split
  · exact h
  · split
    · split
      · exact h
      · refine ⟨by simpa [va_up] using h.1, fun x hx => by simpa [va_up] using h.2.1 x hx, fun x hx => ?_, fun x hx => by simpa [va_up] using h.2.2.2.1 x hx, fun x hx => by simpa [va_up] using h.2.2.2.2 x hx⟩
        simp only [va_up_self]
        unfold upd
        split
        · decide
        · exact h.2.2.1 x hx
    · exact h
theorem mOk.sell {g : cm_g2} {nb ns : Nat} {mv : Int32} (h : mOk g nb ns) : ∀ i : Nat, mOk (mSell g nb ns mv i).1 nb ns
  | 0 => h
  | i + 1 => (mOk.sell h i).sell1
/-- a MINUTE: those who pull, those who walk, the sale -/
def mRichs (g : cm_g2) (nb : Nat) : Nat → cm_g2
  | 0 => g
  | i + 1 => if mRich (mRichs g nb i) i then (if mPull (mRichs g nb i) nb i (mWay (mRichs g nb i) i) 5 i = 5 then mPull (mPull (mRichs g nb i) nb i (mWay (mRichs g nb i) i)) nb i (mWay (mPull (mRichs g nb i) nb i (mWay (mRichs g nb i) i)) i) else mPull (mRichs g nb i) nb i (mWay (mRichs g nb i) i)) else mRichs g nb i
def mPlains (g : cm_g2) (nb : Nat) : Nat → cm_g2
  | 0 => g
  | i + 1 => if mRich (mPlains g nb i) i then mPlains g nb i else mWalk (mPlains g nb i) nb i (mWay (mPlains g nb i) i)
def mTick (g : cm_g2) : cm_g2 := va_up g 0 (upd (g 0) 1 (g 0 1 + 1))
def mPass (g : cm_g2) (nb ns : Nat) (wind : Int32) : cm_g2 × Nat := mSell (mTick (mPlains (mRichs g nb nb) nb nb)) nb ns (mSun (mTick (mPlains (mRichs g nb nb) nb nb)) + wind) nb
theorem mOk.richs {g : cm_g2} {nb ns : Nat} (h : mOk g nb ns) : ∀ i : Nat, i ≤ nb → mOk (mRichs g nb i) nb ns
  | 0, _ => h
  | i + 1, hi => by
    have h1 := mOk.richs h i (by omega)
    unfold mRichs
    have h2 := h1.pull (i := i) (by omega) (mWay_in (i := i) h1 (by omega))
    split
    · split
      · exact h2.pull (i := i) (by omega) (mWay_in (i := i) h2 (by omega))
      · exact h2
    · exact h1
theorem mOk.plains {g : cm_g2} {nb ns : Nat} (h : mOk g nb ns) : ∀ i : Nat, i ≤ nb → mOk (mPlains g nb i) nb ns
  | 0, _ => h
  | i + 1, hi => by
    have h1 := mOk.plains h i (by omega)
    unfold mPlains
    split
    · exact h1
    · exact h1.walk (by omega) (mWay_in h1 (by omega))
theorem mOk.tick {g : cm_g2} {nb ns : Nat} (h : mOk g nb ns) : mOk (mTick g) nb ns := by
  unfold mTick
  refine ⟨by simpa [va_up, upd] using h.1, fun x hx => by simpa [va_up] using h.2.1 x hx, fun x hx => by simpa [va_up] using h.2.2.1 x hx, fun x hx => by simpa [va_up] using h.2.2.2.1 x hx, fun x hx => by simpa [va_up] using h.2.2.2.2 x hx⟩
theorem mOk.pass {g : cm_g2} {nb ns : Nat} {wind : Int32} (h : mOk g nb ns) : mOk (mPass g nb ns wind).1 nb ns := ((h.richs nb (Nat.le_refl _)).plains nb (Nat.le_refl _)).tick.sell nb
