/-! PART same: a Market and the reference's numbers say the same; who pulls moves the same (pure) -/
def tNearer (g : cm_g2) (sp : Int32) (k : Nat) : Option Nat → Bool
  | none => true
  | some b => decide (uAbs (g 1 k - sp) < uAbs (g 1 b - sp)) || (decide (uAbs (g 1 k - sp) = uAbs (g 1 b - sp)) && !decide (g 1 b ≤ g 1 k))
/-- the nearest STALL of these GOODS -/
def tNear (g : cm_g2) (sp gd ot : Int32) : Nat → Option Nat
  | 0 => none
  | k + 1 => if (g 2 k = gd ∨ g 2 k = ot) ∧ tNearer g sp k (tNear g sp gd ot k) = true then some k else tNear g sp gd ot k
def tWay (g : cm_g2) (ns : Nat) (sp gd ot : Int32) : Int32 := match tNear g sp gd ot ns with
  | none => 0
  | some k => uSgn (g 1 k - sp)
/-- the table of ways is right -/
def mTab (g : cm_g2) (ns : Nat) : Prop := ∀ w s, w < 5 → s < 20 → g 10 (w * 20 + s) = tWay g ns (nI s) (nI w) (nI w) ∧ g 10 ((5 + w) * 20 + s) = tWay g ns (nI s) (nI w) 3
def mR (g u : cm_g2) (nb ns B : Nat) : Prop := mOk g nb ns ∧ uOk u nb ns ∧ (u 0 8 = g 0 0 ∧ 0 ≤ (g 0 0).toInt ∧ (g 0 0).toInt ≤ 4) ∧ (u 0 19 = g 0 1 ∧ 0 ≤ (g 0 1).toInt ∧ (g 0 1).toInt ≤ B) ∧ (∀ i, i < nb → u 7 i = g 5 i ∧ u 8 i = g 6 i ∧ u 9 i = g 7 i ∧ u 10 i = g 8 i) ∧ (∀ k, k < ns → u 11 k = g 1 k ∧ u 12 k = g 2 k ∧ u 13 k = g 3 k ∧ u 14 k = g 4 k) ∧ (∀ k, k < ns → 0 ≤ (g 2 k).toInt ∧ (g 2 k).toInt < 4) ∧ (∀ i, 0 < i → i < nb → g 9 i = if g 5 (i - 1) = 4 ∨ g 5 i = 4 then 20 else g 0 0) ∧ mTab g ns
theorem mHolds_eq {g u : cm_g2} {nb ns B i : Nat} {wa wb : Int32} (h : mR g u nb ns B) (h0 : 0 < i) (hi : i < nb) (ha : -1 ≤ wa.toInt ∧ wa.toInt ≤ 1) (hb : -1 ≤ wb.toInt ∧ wb.toInt ≤ 1) (hz : wa.toInt = 0 ∨ wb.toInt = 0) : mHolds g i wa wb = uHeld u (i - 1) (u 8 (i - 1) + wa) (u 8 i + wb) := by
  obtain ⟨hm, hu, hr, -, hb1, -, -, hsl, -⟩ := h
  have e1 := hb1 i hi
  have e2 := hb1 (i - 1) (by omega)
  have s1 := hm.2.1 i hi
  have s2 := hm.2.1 (i - 1) (by omega)
  have hg := mGapZ hm h0 hi ha hb
  have z1 : (u 8 i + wb).toInt = (g 6 i).toInt + wb.toInt := by rw [e1.2.1]; exact zadd (by omega)
  have z2 : (u 8 (i - 1) + wa).toInt = (g 6 (i - 1)).toInt + wa.toInt := by rw [e2.2.1]; exact zadd (by omega)
  have z3 : (u 8 i + wb - (u 8 (i - 1) + wa)).toInt = (g 6 i).toInt + wb.toInt - ((g 6 (i - 1)).toInt + wa.toInt) := by rw [zsub (by omega), z1, z2]
  have z0 : (0 : Int32).toInt = 0 := by decide
  have z20 : (20 : Int32).toInt = 20 := by decide
  unfold mHolds uHeld
  rw [show i - 1 + 1 = i by omega, e1.1, e2.1, hr.1, hsl i h0 hi]
  rw [Bool.eq_iff_iff]
  simp only [Bool.and_eq_true, Bool.or_eq_true, Bool.not_eq_true', decide_eq_false_iff_not, decide_eq_true_eq, Int32.le_iff_toInt_le, Int32.lt_iff_toInt_lt, z1, z2, z3, hg, z0]
  by_cases hl : g 5 (i - 1) = 4 ∨ g 5 i = 4
  · rw [if_pos hl, z20]
    constructor
    · rintro ⟨h1, h2⟩
      exact ⟨by omega, Or.inl hl⟩
    · rintro ⟨h1, -⟩
      exact ⟨by omega, by omega⟩
  · rw [if_neg hl]
    constructor
    · rintro ⟨h1, h2⟩
      exact ⟨by omega, Or.inr (by omega)⟩
    · rintro ⟨h1, h2 | h2⟩
      · exact absurd h2 hl
      · exact ⟨by omega, by omega⟩
theorem mRich_eq {g u : cm_g2} {nb ns B i : Nat} (h : mR g u nb ns B) (hi : i < nb) : uA u i 1 = mRich g i := by
  have e1 := (h.2.2.2.2.1 i hi).1
  unfold uA mRich
  rw [e1]
  simp
theorem uF_held {g u : cm_g2} {nb ns B j : Nat} {way : Int32} (h : mR g u nb ns B) (hj : j + 1 < nb) (hw : -1 ≤ way.toInt ∧ way.toInt ≤ 1) : uHeld u j (u 8 j) (u 8 (j + 1) + way) = mHolds g (j + 1) 0 way := by
  rw [mHolds_eq h (by omega) hj (by decide) hw (Or.inl (by decide)), show j + 1 - 1 = j by omega]
  simp
theorem uT_held {g u : cm_g2} {nb ns B j : Nat} {way : Int32} (h : mR g u nb ns B) (hj : j + 1 < nb) (hw : -1 ≤ way.toInt ∧ way.toInt ≤ 1) : uHeld u j (u 8 j + way) (u 8 (j + 1)) = mHolds g (j + 1) way 0 := by
  rw [mHolds_eq h (by omega) hj hw (by decide) (Or.inr (by decide)), show j + 1 - 1 = j by omega]
  simp
theorem mFirst_uF {g u : cm_g2} {nb ns B : Nat} {way : Int32} (h : mR g u nb ns B) (hw : -1 ≤ way.toInt ∧ way.toInt ≤ 1) : ∀ f, f < nb → (∀ k, mFirst g way f = some k → k = uF u way f ∧ ∀ j, k ≤ j → j < f → mRich g j = false) ∧ (mFirst g way f = none → ∃ j, uF u way f ≤ j ∧ j < f ∧ mRich g j = true)
  | 0, _ => ⟨fun k hk => by simp [mFirst] at hk; subst hk; exact ⟨rfl, fun j h1 h2 => by omega⟩, fun hk => by simp [mFirst] at hk⟩
  | f + 1, hf => by
    have ih := mFirst_uF h hw f (by omega)
    have he := uF_held h hf hw
    unfold mFirst uF
    rw [he]
    cases hh : mHolds g (f + 1) 0 way with
    | true => exact ⟨fun k hk => by simp at hk; subst hk; exact ⟨by simp, fun j h1 h2 => by omega⟩, fun hk => by simp at hk⟩
    | false =>
      cases hr : mRich g f with
      | true =>
        refine ⟨fun k hk => by simp at hk, fun _ => ⟨f, ?_, by omega, hr⟩⟩
        simp
        exact uF_le f
      | false =>
        simp only [Bool.false_eq_true, if_false]
        refine ⟨fun k hk => ⟨(ih.1 k hk).1, fun j h1 h2 => ?_⟩, fun hk => ?_⟩
        · by_cases e : j = f
          · subst e; exact hr
          · exact (ih.1 k hk).2 j h1 (by omega)
        · obtain ⟨j, h1, h2, h3⟩ := ih.2 hk
          exact ⟨j, h1, by omega, h3⟩
theorem mLast_uT {g u : cm_g2} {nb ns B : Nat} {way : Int32} (h : mR g u nb ns B) (hw : -1 ≤ way.toInt ∧ way.toInt ≤ 1) : ∀ n t, t < nb → (∀ k, mLast g nb way n t = some k → k = uT u nb way n t ∧ ∀ j, t < j → j ≤ k → mRich g j = false) ∧ (mLast g nb way n t = none → ∃ j, t < j ∧ j ≤ uT u nb way n t ∧ mRich g j = true)
  | 0, t, _ => ⟨fun k hk => by simp [mLast] at hk; subst hk; exact ⟨rfl, fun j h1 h2 => by omega⟩, fun hk => by simp [mLast] at hk⟩
  | n + 1, t, ht => by
    unfold mLast uT
    by_cases hlt : t + 1 < nb
    · have ih := mLast_uT h hw n (t + 1) hlt
      rw [if_pos hlt, if_pos hlt, uT_held h hlt hw]
      cases hh : mHolds g (t + 1) way 0 with
      | true => exact ⟨fun k hk => by simp at hk; subst hk; exact ⟨by simp, fun j h1 h2 => by omega⟩, fun hk => by simp at hk⟩
      | false =>
        cases hr : mRich g (t + 1) with
        | true =>
          refine ⟨fun k hk => by simp at hk, fun _ => ⟨t + 1, by omega, ?_, hr⟩⟩
          simp
          exact (uT_ge n (t + 1)).1
        | false =>
          simp only [Bool.false_eq_true, if_false]
          refine ⟨fun k hk => ⟨(ih.1 k hk).1, fun j h1 h2 => ?_⟩, fun hk => ?_⟩
          · by_cases e : j = t + 1
            · subst e; exact hr
            · exact (ih.1 k hk).2 j (by omega) h2
          · obtain ⟨j, h1, h2, h3⟩ := ih.2 hk
            exact ⟨j, by omega, h2, h3⟩
    · rw [if_neg hlt, if_neg hlt]
      exact ⟨fun k hk => by simp at hk; subst hk; exact ⟨rfl, fun j h1 h2 => by omega⟩, fun hk => by simp at hk⟩
theorem uIn_iff {v : Int32} : uIn v 0 19 = true ↔ 0 ≤ v.toInt ∧ v.toInt < 20 := by
  refine ⟨uIn_z, fun h => ?_⟩
  unfold uIn
  simp only [Bool.and_eq_true, Bool.not_eq_true', decide_eq_false_iff_not, Int32.lt_iff_toInt_lt]
  have z0 : (0 : Int32).toInt = 0 := by decide
  have z9 : (19 : Int32).toInt = 19 := by decide
  rw [z0, z9]
  omega
theorem uChk_all {u : cm_g2} {i : Nat} {way s : Int32} : ∀ {n k : Nat}, (∀ j, k ≤ j → j < k + n → uBad u i way s j = false) → uChk u i way s n k = s
  | 0, k, _ => rfl
  | n + 1, k, h => by
    unfold uChk
    rw [h k (by omega) (by omega)]
    exact uChk_all (fun j h1 h2 => h j (by omega) (by omega))
theorem uChk_bad {u : cm_g2} {i : Nat} {way s : Int32} : ∀ {n k : Nat} (j : Nat), k ≤ j → j < k + n → uBad u i way s j = true → uChk u i way s n k = 0
  | 0, k, j, h1, h2, _ => by omega
  | n + 1, k, j, h1, h2, hb => by
    unfold uChk
    by_cases e : j = k
    · subst e; rw [hb]; rfl
    · split
      · rfl
      · exact uChk_bad j (by omega) (by omega) hb
theorem pull_same {g u : cm_g2} {nb ns B i : Nat} {way : Int32} (h : mR g u nb ns B) (hi : i < nb) (hw : -1 ≤ way.toInt ∧ way.toInt ≤ 1) : ∀ x, x < nb → uMv u (if way = 0 then 0 else uGo u nb i way) way nb 8 x = mPull g nb i way 6 x := by
  intro x hx
  have hm := h.1
  have hnb := hm.1.2.1
  have hx8 := (h.2.2.2.2.1 x hx).2.1
  rw [uMv_8 hx, hx8]
  unfold mPull
  by_cases h0 : way = 0
  · rw [if_pos h0, if_pos h0, uHas_0]
    simp
  · rw [if_neg h0, if_neg h0]
    have hset := uSet_spec (u := u) (nb := nb) (i := i) (way := way) hnb hi
    have hF := mFirst_uF h hw i hi
    have hT := mLast_uT h hw nb i hi
    have lF := uF_le (u := u) (way := way) i
    have lT := uT_ge (u := u) (nb := nb) (way := way) nb i
    have bad : ∀ k, k < nb → uBad u i way (uSet u nb i way) k = (decide (uF u way i ≤ k) && decide (k ≤ uT u nb way nb i) && (!uIn (g 6 k + way) 0 19 || (!decide (k = i) && mRich g k))) := by
      intro k hk
      unfold uBad
      rw [hset k (by omega), mRich_eq h hk, (h.2.2.2.2.1 k hk).2.1]
    have hsp : ∀ k, k < nb → (g 6 k + way).toInt = (g 6 k).toInt + way.toInt := fun k hk => by
      have := hm.2.1 k hk
      exact zadd (by omega)
    cases hc : mCan g (mFirst g way i) (mLast g nb way nb i) way with
    | true =>
      cases hf : mFirst g way i with
      | none => rw [hf] at hc; cases hc
      | some f =>
        cases ht : mLast g nb way nb i with
        | none => rw [hf, ht] at hc; cases hc
        | some t =>
          rw [hf, ht] at hc
          have f1 := hF.1 f hf
          have t1 := hT.1 t ht
          unfold mCan at hc
          simp only [Bool.and_eq_true, Bool.not_eq_true', decide_eq_false_iff_not, Int32.lt_iff_toInt_lt, Int32.le_iff_toInt_le] at hc
          have z0 : (0 : Int32).toInt = 0 := by decide
          have z20 : (20 : Int32).toInt = 20 := by decide
          rw [z0, z20, hsp f (by omega), hsp t (by omega)] at hc
          have hgo : uGo u nb i way = uSet u nb i way := by
            unfold uGo
            refine uChk_all (fun k _ hk => ?_)
            rw [bad k (by omega)]
            by_cases hin : uF u way i ≤ k ∧ k ≤ uT u nb way nb i
            · have m1 := hm.mono (k - f) f (by omega)
              have m2 := hm.mono (t - k) k (by omega)
              rw [show f + (k - f) = k by omega] at m1
              rw [show k + (t - k) = t by omega] at m2
              have hi9 : uIn (g 6 k + way) 0 19 = true := uIn_iff.mpr (by rw [hsp k (by omega)]; omega)
              rw [hi9]
              by_cases e : k = i
              · simp [e]
              · have hr : mRich g k = false := by
                  by_cases e2 : k < i
                  · exact f1.2 k (by omega) e2
                  · exact t1.2 k (by omega) (by omega)
                simp [hr]
            · by_cases e3 : uF u way i ≤ k
              · have : ¬ k ≤ uT u nb way nb i := fun q => hin ⟨e3, q⟩
                simp [this]
              · simp [e3]
          rw [hgo, hset x (by omega)]
          show g 6 x + _ = mMv g f (t + 1) way 6 x
          by_cases hin : uF u way i ≤ x ∧ x ≤ uT u nb way nb i
          · rw [mMv_in (by omega)]
            simp [hin.1, hin.2]
          · rw [mMv_out (by omega)]
            have : (decide (uF u way i ≤ x) && decide (x ≤ uT u nb way nb i)) = false := by
              rw [Bool.and_eq_false_iff]
              by_cases e3 : uF u way i ≤ x
              · right; simp; omega
              · left; simp; omega
            rw [this]
            simp
    | false =>
      have hgo : uGo u nb i way = 0 := by
        unfold uGo
        have mk : ∀ k, k < nb → uF u way i ≤ k → k ≤ uT u nb way nb i → (uIn (g 6 k + way) 0 19 = false ∨ (k ≠ i ∧ mRich g k = true)) → uChk u i way (uSet u nb i way) nb 0 = 0 := by
          intro k hk h1 h2 h3
          refine uChk_bad k (by omega) (by omega) ?_
          rw [bad k hk]
          rcases h3 with h3 | ⟨h3, h4⟩
          · simp [h1, h2, h3]
          · simp [h1, h2, h3, h4]
        cases hf : mFirst g way i with
        | none =>
          obtain ⟨j, a1, a2, a3⟩ := hF.2 hf
          exact mk j (by omega) a1 (by omega) (Or.inr ⟨by omega, a3⟩)
        | some f =>
          cases ht : mLast g nb way nb i with
          | none =>
            obtain ⟨j, a1, a2, a3⟩ := hT.2 ht
            exact mk j (by omega) (by omega) a2 (Or.inr ⟨by omega, a3⟩)
          | some t =>
            rw [hf, ht] at hc
            have f1 := hF.1 f hf
            have t1 := hT.1 t ht
            have ff := hm.2.1 f (by omega)
            have tt := hm.2.1 t (by omega)
            have m1 := hm.mono (t - f) f (by omega)
            rw [show f + (t - f) = t by omega] at m1
            unfold mCan at hc
            rw [Bool.and_eq_false_iff] at hc
            simp only [Bool.not_eq_false', decide_eq_true_eq, Int32.lt_iff_toInt_lt, Int32.le_iff_toInt_le] at hc
            have z0 : (0 : Int32).toInt = 0 := by decide
            have z20 : (20 : Int32).toInt = 20 := by decide
            rw [z0, z20, hsp f (by omega), hsp t (by omega)] at hc
            rcases hc with hc | hc
            · refine mk f (by omega) (by omega) (by omega) (Or.inl ?_)
              rw [Bool.eq_false_iff]
              intro q
              have := uIn_iff.mp q
              rw [hsp f (by omega)] at this
              omega
            · refine mk t (by omega) (by omega) (by omega) (Or.inl ?_)
              rw [Bool.eq_false_iff]
              intro q
              have := uIn_iff.mp q
              rw [hsp t (by omega)] at this
              omega
      rw [hgo, uHas_0]
      simp
