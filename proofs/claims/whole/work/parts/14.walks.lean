/-! PART walks: Market's methods that take along, go, sell -/
def mMv (g : cm_g2) (f j : Nat) (way : Int32) : cm_g2 := va_up g 6 (fun x => if f ≤ x ∧ x < j then g 6 x + way else g 6 x)
theorem mMv_0 (g : cm_g2) (f : Nat) (way : Int32) : mMv g f f way = g := by
  funext c x
  unfold mMv va_up
  split
  · next h => subst h; dsimp only; rw [if_neg (by omega)]
  · rfl
theorem mMv_at (g : cm_g2) (f j : Nat) (way : Int32) : mMv g f j way 6 j = g 6 j := by
  unfold mMv
  rw [va_up_self, if_neg (by omega)]
theorem mMv_succ {g : cm_g2} {f j : Nat} {way : Int32} (h : f ≤ j) : va_up (mMv g f j way) 6 (upd (mMv g f j way 6) j (mMv g f j way 6 j + way)) = mMv g f (j + 1) way := by
  rw [mMv_at]
  funext c x
  unfold mMv va_up upd
  by_cases hc : c = 6
  · subst hc
    simp only [if_pos]
    by_cases hx : x = j
    · subst hx
      rw [if_pos rfl, if_pos (by omega)]
    · rw [if_neg hx]
      by_cases h2 : f ≤ x ∧ x < j
      · rw [if_pos h2, if_pos (by omega)]
      · rw [if_neg h2, if_neg (by omega)]
  · simp only [if_neg hc]
theorem mFirst_le {g : cm_g2} {way : Int32} : ∀ {f k : Nat}, mFirst g way f = some k → k ≤ f
  | 0, k, h => by simp [mFirst] at h; omega
  | f + 1, k, h => by
    unfold mFirst at h
    split at h
    · cases h; exact Nat.le_refl _
    · split at h
      · cases h
      · exact Nat.le_succ_of_le (mFirst_le h)
theorem mLast_ge {g : cm_g2} {nb : Nat} {way : Int32} : ∀ {n t k : Nat}, mLast g nb way n t = some k → t ≤ k ∧ (k = t ∨ k < nb)
  | 0, t, k, h => by simp [mLast] at h; omega
  | n + 1, t, k, h => by
    unfold mLast at h
    split at h
    · split at h
      · cases h; exact ⟨Nat.le_refl _, Or.inl rfl⟩
      · split at h
        · cases h
        · have := mLast_ge h; omega
    · cases h; exact ⟨Nat.le_refl _, Or.inl rfl⟩
def mPull (g : cm_g2) (nb i : Nat) (way : Int32) : cm_g2 := if way = 0 then g else if mCan g (mFirst g way i) (mLast g nb way nb i) way then mMv g ((mFirst g way i).getD 0) ((mLast g nb way nb i).getD 0 + 1) way else g
def mWalk (g : cm_g2) (nb i : Nat) (way : Int32) : cm_g2 := if way = 0 then g else if isW (g 6 i + way) 20 then (if 0 < i ∧ mHolds g i 0 way = false then g else if i + 1 < nb ∧ mHolds g (i + 1) way 0 = false then g else va_up g 6 (upd (g 6) i (g 6 i + way))) else g
def mWay (g : cm_g2) (i : Nat) : Int32 := if g 5 i = 2 ∨ g 5 i = 4 then 0 else g 10 (((if g 5 i = 3 then 5 else 0) + (g 7 i).toNatClampNeg) * 20 + (g 6 i).toNatClampNeg)
theorem wix (t w s : Nat) : (nI t + nI w) * nI 20 + nI s = nI ((t + w) * 20 + s) := by rw [nI_add, pk_mul, nI_add]
section MK3
variable {D : cm_D} {d : Nat} {sh : List cm_Sh} {hi g : cm_g2} {hl : Nat → Nat → Int64} {hr : Nat → Nat → Option Nat} {a : Nat}
set_option maxRecDepth 20000 in
theorem k_sun (hM : cm_mkt sh hr a)  : cm_ct D mX2_sun d 0 0 [.ref a] (sh, cm_us hi a g, hl, hr) (fun r9 h9 => r9 = some (.int (mSun g)) ∧ h9 = (sh, cm_us hi a g, hl, hr)) := by
  refine cm_ct_of (ls := [some (.ref a)]) 0 (by decide +kernel) rfl rfl ?_
  refine cm_aload0 (pc := 0) dX2_sun_0 ?_
  refine mk_fld (pc := 1) flX2_46 dX2_sun_1 hM.1 ?_
  refine cm_bipush (pc := 4) (v := 7) dX2_sun_4 (by decide) ?_
  refine cm_irem (pc := 6) dX2_sun_6 (by decide) ?_
  refine cm_iconst (pc := 7) (v := 3) dX2_sun_7 (by decide) ?_
  refine cm_isub (pc := 8) dX2_sun_8 ?_
  exact cm_iret (pc := 9) dX2_sun_9 rfl ⟨rfl, rfl⟩
set_option maxRecDepth 20000 in
theorem l_first (hM : cm_mkt sh hr a) {i : Nat} {way : Int32} : ∀ f : Nat, f < 6 → cm_g D mX2_firstTaken (d + 1) 0 0 (fun r9 h9 => r9 = some (.int (cm_oi (mFirst g way f))) ∧ h9 = (sh, cm_us hi a g, hl, hr)) 0 0 2 [some (.ref a), some (.int (nI i)), some (.int way), some (.int (nI f))] [] (sh, cm_us hi a g, hl, hr) := by
  intro f
  induction f with
  | zero =>
    intro hf
    refine cm_iload3 (pc := 2) dX2_firstTaken_2 ?_
    refine cm_if_le (pc := 3) (tgt := 30) dX2_firstTaken_3 (by decide) (fun c3 => ?_) (fun q => absurd (show nI 0 ≤ 0 by decide) q)
    refine cm_iload3 (pc := 30) dX2_firstTaken_30 ?_
    exact cm_iret (pc := 31) dX2_firstTaken_31 rfl ⟨by simp [mFirst, cm_oi], rfl⟩
  | succ f ih =>
    intro hf
    refine cm_iload3 (pc := 2) dX2_firstTaken_2 ?_
    refine cm_if_le (pc := 3) (tgt := 30) dX2_firstTaken_3 (by decide) (fun q => absurd q (nI_nle (show 0 < f + 1 by omega) (by omega))) (fun c3 => ?_)
    refine cm_aload0 (pc := 6) dX2_firstTaken_6 ?_
    refine cm_iload3 (pc := 7) dX2_firstTaken_7 ?_
    refine cm_iconst (pc := 8) (v := 0) dX2_firstTaken_8 (by decide) ?_
    refine cm_iload2 (pc := 9) dX2_firstTaken_9 ?_
    refine cm_V3 (pc := 10) mX2_holds_v mlX2_113 dX2_firstTaken_10 hM.1 (by omega) (Nat.le_of_ble_eq_true rfl) (Nat.le_refl _) (Nat.le_refl _) (k_holds hM (d := d) (i := f + 1) (by omega) hf) (fun r10 h10 hq10 => ?_)
    obtain ⟨rfl, rfl⟩ := hq10
    refine cm_ifneB (pc := 13) (tgt := 30) dX2_firstTaken_13 (by decide) (fun c13 => ?_) (fun c13 => ?_)
    · refine cm_iload3 (pc := 30) dX2_firstTaken_30 ?_
      exact cm_iret (pc := 31) dX2_firstTaken_31 rfl ⟨by simp [mFirst, cm_oi, *], rfl⟩
    · refine cm_iinc3 (pc := 16) (-1) dX2_firstTaken_16 rfl (by decide) rfl ?_
      rw [pk_m1]
      refine cm_aload0 (pc := 19) dX2_firstTaken_19 ?_
      refine cm_iload3 (pc := 20) dX2_firstTaken_20 ?_
      refine cm_V1 (pc := 21) mX2_isRich_v mlX2_89 dX2_firstTaken_21 hM.1 (by omega) (Nat.le_of_ble_eq_true rfl) (Nat.le_refl _) (Nat.le_refl _) (k_isRich hM (d := d) (i := f) (by omega)) (fun r21 h21 hq21 => ?_)
      obtain ⟨rfl, rfl⟩ := hq21
      refine cm_ifeqB (pc := 24) (tgt := 2) dX2_firstTaken_24 (by decide) (fun c24 => ?_) (fun c24 => ?_)
      · rw [show mFirst g way (f + 1) = mFirst g way f by simp [mFirst, *]]
        exact ih (by omega)
      · refine cm_bipush (pc := 27) (v := -9) dX2_firstTaken_27 (by decide) ?_
        exact cm_iret (pc := 29) dX2_firstTaken_29 rfl ⟨by simp [mFirst, cm_oi, *], rfl⟩
set_option maxRecDepth 20000 in
theorem k_firstTaken (hM : cm_mkt sh hr a) {i : Nat} {way : Int32} (hi6 : i < 6) : cm_ct D mX2_firstTaken (d + 1) 0 0 [.ref a, .int (nI i), .int way] (sh, cm_us hi a g, hl, hr) (fun r9 h9 => r9 = some (.int (cm_oi (mFirst g way i))) ∧ h9 = (sh, cm_us hi a g, hl, hr)) := by
  refine cm_ct_of (ls := [some (.ref a), some (.int (nI i)), some (.int way), none]) 1 (by decide +kernel) rfl rfl ?_
  refine cm_iload1 (pc := 0) dX2_firstTaken_0 ?_
  refine cm_istore3 (pc := 1) dX2_firstTaken_1 (by decide) rfl ?_
  exact l_first hM i hi6
set_option maxRecDepth 20000 in
theorem l_last (hM : cm_mkt sh hr a) {i nb : Nat} {way : Int32} (hb : g 0 3 = nI nb) (hnb : nb ≤ 6) : ∀ n t : Nat, t < 6 → nb ≤ t + 1 + n → cm_g D mX2_lastTaken (d + 1) 0 0 (fun r9 h9 => r9 = some (.int (cm_oi (mLast g nb way n t))) ∧ h9 = (sh, cm_us hi a g, hl, hr)) 0 0 2 [some (.ref a), some (.int (nI i)), some (.int way), some (.int (nI t))] [] (sh, cm_us hi a g, hl, hr) := by
  intro n
  induction n with
  | zero =>
    intro t ht hn
    refine cm_iload3 (pc := 2) dX2_lastTaken_2 ?_
    refine cm_iconst (pc := 3) (v := 1) dX2_lastTaken_3 (by decide) ?_
    refine cm_iadd (pc := 4) dX2_lastTaken_4 ?_
    rw [nI_1]
    refine cm_aload0 (pc := 5) dX2_lastTaken_5 ?_
    refine mk_fld (pc := 6) flX2_52 dX2_lastTaken_6 hM.1 ?_
    rw [hb]
    refine cm_geN (pc := 9) (tgt := 38) dX2_lastTaken_9 (by decide) (by omega) (by omega) (fun c9 => ?_) (fun c9 => ?_)
    · refine cm_iload3 (pc := 38) dX2_lastTaken_38 ?_
      exact cm_iret (pc := 39) dX2_lastTaken_39 rfl ⟨by simp [mLast, cm_oi], rfl⟩
    · exact absurd c9 (by omega)
  | succ n ih =>
    intro t ht hn
    refine cm_iload3 (pc := 2) dX2_lastTaken_2 ?_
    refine cm_iconst (pc := 3) (v := 1) dX2_lastTaken_3 (by decide) ?_
    refine cm_iadd (pc := 4) dX2_lastTaken_4 ?_
    rw [nI_1]
    refine cm_aload0 (pc := 5) dX2_lastTaken_5 ?_
    refine mk_fld (pc := 6) flX2_52 dX2_lastTaken_6 hM.1 ?_
    rw [hb]
    refine cm_geN (pc := 9) (tgt := 38) dX2_lastTaken_9 (by decide) (by omega) (by omega) (fun c9 => ?_) (fun c9 => ?_)
    · have c9b : ¬ t + 1 < nb := by omega
      refine cm_iload3 (pc := 38) dX2_lastTaken_38 ?_
      exact cm_iret (pc := 39) dX2_lastTaken_39 rfl ⟨by simp [mLast, cm_oi, *], rfl⟩
    · refine cm_aload0 (pc := 12) dX2_lastTaken_12 ?_
      refine cm_iload3 (pc := 13) dX2_lastTaken_13 ?_
      refine cm_iconst (pc := 14) (v := 1) dX2_lastTaken_14 (by decide) ?_
      refine cm_iadd (pc := 15) dX2_lastTaken_15 ?_
      rw [nI_1]
      refine cm_iload2 (pc := 16) dX2_lastTaken_16 ?_
      refine cm_iconst (pc := 17) (v := 0) dX2_lastTaken_17 (by decide) ?_
      refine cm_V3 (pc := 18) mX2_holds_v mlX2_113 dX2_lastTaken_18 hM.1 (by omega) (Nat.le_of_ble_eq_true rfl) (Nat.le_refl _) (Nat.le_refl _) (k_holds hM (d := d) (i := t + 1) (by omega) (by omega)) (fun r18 h18 hq18 => ?_)
      obtain ⟨rfl, rfl⟩ := hq18
      refine cm_ifneB (pc := 21) (tgt := 38) dX2_lastTaken_21 (by decide) (fun c21 => ?_) (fun c21 => ?_)
      · refine cm_iload3 (pc := 38) dX2_lastTaken_38 ?_
        exact cm_iret (pc := 39) dX2_lastTaken_39 rfl ⟨by simp [mLast, cm_oi, *], rfl⟩
      · refine cm_incN3 (pc := 24) dX2_lastTaken_24 (by decide) rfl ?_
        refine cm_aload0 (pc := 27) dX2_lastTaken_27 ?_
        refine cm_iload3 (pc := 28) dX2_lastTaken_28 ?_
        refine cm_V1 (pc := 29) mX2_isRich_v mlX2_89 dX2_lastTaken_29 hM.1 (by omega) (Nat.le_of_ble_eq_true rfl) (Nat.le_refl _) (Nat.le_refl _) (k_isRich hM (d := d) (i := t + 1) (by omega)) (fun r29 h29 hq29 => ?_)
        obtain ⟨rfl, rfl⟩ := hq29
        refine cm_ifeqB (pc := 32) (tgt := 2) dX2_lastTaken_32 (by decide) (fun c32 => ?_) (fun c32 => ?_)
        · rw [show mLast g nb way (n + 1) t = mLast g nb way n (t + 1) by simp [mLast, *]]
          exact ih (t + 1) (by omega) (by omega)
        · refine cm_bipush (pc := 35) (v := -9) dX2_lastTaken_35 (by decide) ?_
          exact cm_iret (pc := 37) dX2_lastTaken_37 rfl ⟨by simp [mLast, cm_oi, *], rfl⟩
set_option maxRecDepth 20000 in
theorem k_lastTaken (hM : cm_mkt sh hr a) {i nb : Nat} {way : Int32} (hb : g 0 3 = nI nb) (hnb : nb ≤ 6) (hi6 : i < 6) : cm_ct D mX2_lastTaken (d + 1) 0 0 [.ref a, .int (nI i), .int way] (sh, cm_us hi a g, hl, hr) (fun r9 h9 => r9 = some (.int (cm_oi (mLast g nb way nb i))) ∧ h9 = (sh, cm_us hi a g, hl, hr)) := by
  refine cm_ct_of (ls := [some (.ref a), some (.int (nI i)), some (.int way), none]) 1 (by decide +kernel) rfl rfl ?_
  refine cm_iload1 (pc := 0) dX2_lastTaken_0 ?_
  refine cm_istore3 (pc := 1) dX2_lastTaken_1 (by decide) rfl ?_
  exact l_last hM hb hnb nb i hi6 (by omega)
set_option maxRecDepth 20000 in
theorem l_pull (hM : cm_mkt sh hr a) {i f t : Nat} {way : Int32} (ht : t < 6) : ∀ n j : Nat, f ≤ j → j ≤ t + 1 → t + 1 ≤ j + n → cm_g D mX2_pull (d + 2) 0 0 (fun r9 h9 => r9 = none ∧ h9 = (sh, cm_us hi a (mMv g f (t + 1) way), hl, hr)) 0 0 34 [some (.ref a), some (.int (nI i)), some (.int way), some (.int (nI f)), some (.int (nI t)), some (.int (nI j))] [] (sh, cm_us hi a (mMv g f j way), hl, hr) := by
  intro n
  induction n with
  | zero =>
    intro j h1 h2 h3
    have h4 : j = t + 1 := by omega
    subst h4
    refine cm_iload5 (pc := 34) dX2_pull_34 ?_
    refine cm_iload4 (pc := 36) dX2_pull_36 ?_
    refine cm_gtN (pc := 38) (tgt := 58) dX2_pull_38 (by decide) (by omega) (by omega) (fun c38 => ?_) (fun c38 => ?_)
    · exact cm_vret (pc := 58) dX2_pull_58 rfl ⟨rfl, rfl⟩
    · exact absurd c38 (by omega)
  | succ n ih =>
    intro j h1 h2 h3
    refine cm_iload5 (pc := 34) dX2_pull_34 ?_
    refine cm_iload4 (pc := 36) dX2_pull_36 ?_
    refine cm_gtN (pc := 38) (tgt := 58) dX2_pull_38 (by decide) (by omega) (by omega) (fun c38 => ?_) (fun c38 => ?_)
    · have h4 : j = t + 1 := by omega
      subst h4
      exact cm_vret (pc := 58) dX2_pull_58 rfl ⟨rfl, rfl⟩
    · refine cm_aload0 (pc := 41) dX2_pull_41 ?_
      refine cm_getR (pc := 42) flX2_27 dX2_pull_42 hM.1 hM.r9 ?_
      refine cm_iload5 (pc := 45) dX2_pull_45 ?_
      refine cm_dup2 (pc := 47) dX2_pull_47 rfl rfl ?_
      refine mk_get (pc := 48) dX2_pull_48 hM.a6 (by omega) (by decide) ?_
      refine cm_iload2 (pc := 49) dX2_pull_49 ?_
      refine cm_iadd (pc := 50) dX2_pull_50 ?_
      refine mk_put (pc := 51) dX2_pull_51 hM.a6 (by omega) (by decide) ?_
      rw [mMv_succ h1]
      refine cm_incN5 (pc := 52) dX2_pull_52 (by decide) rfl ?_
      refine cm_goto (pc := 55) (tgt := 34) dX2_pull_55 (by decide) ?_
      exact ih (j + 1) (by omega) (by omega) (by omega)
set_option maxRecDepth 20000 in
theorem k_pull (hM : cm_mkt sh hr a) {i nb : Nat} {way : Int32} (hb : g 0 3 = nI nb) (hnb : nb ≤ 6) (hi6 : i < nb) : cm_ct D mX2_pull (d + 2) 0 0 [.ref a, .int (nI i), .int way] (sh, cm_us hi a g, hl, hr) (fun r9 h9 => r9 = none ∧ h9 = (sh, cm_us hi a (mPull g nb i way), hl, hr)) := by
  refine cm_ct_of (ls := [some (.ref a), some (.int (nI i)), some (.int way), none, none, none]) 3 (by decide +kernel) rfl rfl ?_
  refine cm_iload2 (pc := 0) dX2_pull_0 ?_
  refine cm_if_ne (pc := 1) (tgt := 5) dX2_pull_1 (by decide) (fun c1 => ?_) (fun c1 => ?_)
  · refine cm_aload0 (pc := 5) dX2_pull_5 ?_
    refine cm_iload1 (pc := 6) dX2_pull_6 ?_
    refine cm_iload2 (pc := 7) dX2_pull_7 ?_
    refine cm_V2 (pc := 8) mX2_firstTaken_v mlX2_116 dX2_pull_8 hM.1 (by omega) (Nat.le_of_ble_eq_true rfl) (Nat.le_refl _) (Nat.le_refl _) (k_firstTaken hM (d := d) (i := i) (by omega)) (fun r8 h8 hq8 => ?_)
    obtain ⟨rfl, rfl⟩ := hq8
    refine cm_istore3 (pc := 11) dX2_pull_11 (by decide) rfl ?_
    refine cm_aload0 (pc := 12) dX2_pull_12 ?_
    refine cm_iload1 (pc := 13) dX2_pull_13 ?_
    refine cm_iload2 (pc := 14) dX2_pull_14 ?_
    refine cm_V2 (pc := 15) mX2_lastTaken_v mlX2_119 dX2_pull_15 hM.1 (by omega) (Nat.le_of_ble_eq_true rfl) (Nat.le_refl _) (Nat.le_refl _) (k_lastTaken hM (d := d) (i := i) hb hnb (by omega)) (fun r15 h15 hq15 => ?_)
    obtain ⟨rfl, rfl⟩ := hq15
    refine cm_istore4 (pc := 18) dX2_pull_18 (by decide) rfl ?_
    refine cm_aload0 (pc := 20) dX2_pull_20 ?_
    refine cm_iload3 (pc := 21) dX2_pull_21 ?_
    refine cm_iload4 (pc := 22) dX2_pull_22 ?_
    refine cm_iload2 (pc := 24) dX2_pull_24 ?_
    refine cm_V3 (pc := 25) mX2_canGo_v mlX2_122 dX2_pull_25 hM.1 (by omega) (Nat.le_of_ble_eq_true rfl) (Nat.le_refl _) (Nat.le_refl _) (k_canGo hM (d := d + 1) (f := mFirst g way i) (t := mLast g nb way nb i) (fun k hk => by have := mFirst_le hk; omega) (fun k hk => by have := mLast_ge hk; omega)) (fun r25 h25 hq25 => ?_)
    obtain ⟨rfl, rfl⟩ := hq25
    refine cm_ifeqB (pc := 28) (tgt := 58) dX2_pull_28 (by decide) (fun c28 => ?_) (fun c28 => ?_)
    · exact cm_vret (pc := 58) dX2_pull_58 rfl ⟨rfl, by simp [mPull, c1, c28]⟩
    · cases hf : mFirst g way i with
      | none => rw [hf] at c28; cases c28
      | some f =>
      cases ht : mLast g nb way nb i with
      | none => rw [hf, ht] at c28; cases c28
      | some t =>
      have hfi := mFirst_le hf
      have hti := mLast_ge ht
      refine cm_iload3 (pc := 31) dX2_pull_31 ?_
      refine cm_istore5 (pc := 32) dX2_pull_32 (by decide) rfl ?_
      rw [show mPull g nb i way = mMv g f (t + 1) way by
        unfold mPull
        rw [if_neg c1, c28, hf, ht]
        rfl]
      refine cm_h_eq (show (sh, cm_us hi a g, hl, hr) = (sh, cm_us hi a (mMv g f f way), hl, hr) by rw [mMv_0]) ?_
      exact l_pull hM (by omega) (t + 1 - f) f (by omega) (by omega) (by omega)
  · exact cm_vret (pc := 4) dX2_pull_4 rfl ⟨rfl, by simp [mPull, c1]⟩
set_option maxRecDepth 20000 in
theorem k_walk (hM : cm_mkt sh hr a) {i nb : Nat} {way : Int32} (hb : g 0 3 = nI nb) (hnb : nb ≤ 6) (hi6 : i < nb) : cm_ct D mX2_walk (d + 1) 0 0 [.ref a, .int (nI i), .int way] (sh, cm_us hi a g, hl, hr) (fun r9 h9 => r9 = none ∧ h9 = (sh, cm_us hi a (mWalk g nb i way), hl, hr)) := by
  refine cm_ct_of (ls := [some (.ref a), some (.int (nI i)), some (.int way)]) 0 (by decide +kernel) rfl rfl ?_
  refine cm_iload2 (pc := 0) dX2_walk_0 ?_
  refine cm_if_eq (pc := 1) (tgt := 20) dX2_walk_1 (by decide) (fun c1 => ?_) (fun c1 => ?_)
  · exact cm_vret (pc := 20) dX2_walk_20 rfl ⟨rfl, by simp [mWalk, *]⟩
  · refine cm_aload0 (pc := 4) dX2_walk_4 ?_
    refine cm_getR (pc := 5) flX2_27 dX2_walk_5 hM.1 hM.r9 ?_
    refine cm_iload1 (pc := 8) dX2_walk_8 ?_
    refine mk_get (pc := 9) dX2_walk_9 hM.a6 (by omega) (by decide) ?_
    refine cm_iload2 (pc := 10) dX2_walk_10 ?_
    refine cm_iadd (pc := 11) dX2_walk_11 ?_
    refine cm_bipush (pc := 12) (v := 20) dX2_walk_12 (by decide) ?_
    refine cm_S2 (pc := 14) mX6_isWithin_s mlX2_110 dX2_walk_14 (by omega) (Nat.le_of_ble_eq_true rfl) (Nat.le_refl _) (Nat.le_refl _) (k_isWithin (d := d)) (fun r14 h14 hq14 => ?_)
    obtain ⟨rfl, rfl⟩ := hq14
    refine cm_ifneB (pc := 17) (tgt := 21) dX2_walk_17 (by decide) (fun c17 => ?_) (fun c17 => ?_)
    · refine cm_iload1 (pc := 21) dX2_walk_21 ?_
      refine cm_if_le (pc := 22) (tgt := 35) dX2_walk_22 (by decide) (fun c22 => ?_) (fun c22 => ?_)
      · have h0 : ¬ 0 < i := by
          rcases Nat.eq_zero_or_pos i with q | q
          · omega
          · exact absurd c22 (nI_nle q (by omega))
        refine cm_iload1 (pc := 35) dX2_walk_35 ?_
        refine cm_iconst (pc := 36) (v := 1) dX2_walk_36 (by decide) ?_
        refine cm_iadd (pc := 37) dX2_walk_37 ?_
        rw [nI_1]
        refine cm_aload0 (pc := 38) dX2_walk_38 ?_
        refine mk_fld (pc := 39) flX2_52 dX2_walk_39 hM.1 ?_
        rw [hb]
        refine cm_geN (pc := 42) (tgt := 58) dX2_walk_42 (by decide) (by omega) (by omega) (fun c42 => ?_) (fun c42 => ?_)
        · have h1 : ¬ i + 1 < nb := by omega
          refine cm_aload0 (pc := 58) dX2_walk_58 ?_
          refine cm_getR (pc := 59) flX2_27 dX2_walk_59 hM.1 hM.r9 ?_
          refine cm_iload1 (pc := 62) dX2_walk_62 ?_
          refine cm_dup2 (pc := 63) dX2_walk_63 rfl rfl ?_
          refine mk_get (pc := 64) dX2_walk_64 hM.a6 (by omega) (by decide) ?_
          refine cm_iload2 (pc := 65) dX2_walk_65 ?_
          refine cm_iadd (pc := 66) dX2_walk_66 ?_
          refine mk_put (pc := 67) dX2_walk_67 hM.a6 (by omega) (by decide) ?_
          exact cm_vret (pc := 68) dX2_walk_68 rfl ⟨rfl, by simp [mWalk, *]⟩
        · refine cm_aload0 (pc := 45) dX2_walk_45 ?_
          refine cm_iload1 (pc := 46) dX2_walk_46 ?_
          refine cm_iconst (pc := 47) (v := 1) dX2_walk_47 (by decide) ?_
          refine cm_iadd (pc := 48) dX2_walk_48 ?_
          rw [nI_1]
          refine cm_iload2 (pc := 49) dX2_walk_49 ?_
          refine cm_iconst (pc := 50) (v := 0) dX2_walk_50 (by decide) ?_
          refine cm_V3 (pc := 51) mX2_holds_v mlX2_113 dX2_walk_51 hM.1 (by omega) (Nat.le_of_ble_eq_true rfl) (Nat.le_refl _) (Nat.le_refl _) (k_holds hM (d := d) (i := i + 1) (by omega) (by omega)) (fun r51 h51 hq51 => ?_)
          obtain ⟨rfl, rfl⟩ := hq51
          refine cm_ifneB (pc := 54) (tgt := 58) dX2_walk_54 (by decide) (fun c54 => ?_) (fun c54 => ?_)
          · refine cm_aload0 (pc := 58) dX2_walk_58 ?_
            refine cm_getR (pc := 59) flX2_27 dX2_walk_59 hM.1 hM.r9 ?_
            refine cm_iload1 (pc := 62) dX2_walk_62 ?_
            refine cm_dup2 (pc := 63) dX2_walk_63 rfl rfl ?_
            refine mk_get (pc := 64) dX2_walk_64 hM.a6 (by omega) (by decide) ?_
            refine cm_iload2 (pc := 65) dX2_walk_65 ?_
            refine cm_iadd (pc := 66) dX2_walk_66 ?_
            refine mk_put (pc := 67) dX2_walk_67 hM.a6 (by omega) (by decide) ?_
            exact cm_vret (pc := 68) dX2_walk_68 rfl ⟨rfl, by simp [mWalk, *]⟩
          · exact cm_vret (pc := 57) dX2_walk_57 rfl ⟨rfl, by simp [mWalk, *]⟩
      · have h0 : 0 < i := by
          rcases Nat.eq_zero_or_pos i with q | q
          · subst q; exact absurd (show nI 0 ≤ 0 by decide) c22
          · exact q
        refine cm_aload0 (pc := 25) dX2_walk_25 ?_
        refine cm_iload1 (pc := 26) dX2_walk_26 ?_
        refine cm_iconst (pc := 27) (v := 0) dX2_walk_27 (by decide) ?_
        refine cm_iload2 (pc := 28) dX2_walk_28 ?_
        refine cm_V3 (pc := 29) mX2_holds_v mlX2_113 dX2_walk_29 hM.1 (by omega) (Nat.le_of_ble_eq_true rfl) (Nat.le_refl _) (Nat.le_refl _) (k_holds hM (d := d) (i := i) h0 (by omega)) (fun r29 h29 hq29 => ?_)
        obtain ⟨rfl, rfl⟩ := hq29
        refine cm_ifeqB (pc := 32) (tgt := 57) dX2_walk_32 (by decide) (fun c32 => ?_) (fun c32 => ?_)
        · exact cm_vret (pc := 57) dX2_walk_57 rfl ⟨rfl, by simp [mWalk, *]⟩
        · refine cm_iload1 (pc := 35) dX2_walk_35 ?_
          refine cm_iconst (pc := 36) (v := 1) dX2_walk_36 (by decide) ?_
          refine cm_iadd (pc := 37) dX2_walk_37 ?_
          rw [nI_1]
          refine cm_aload0 (pc := 38) dX2_walk_38 ?_
          refine mk_fld (pc := 39) flX2_52 dX2_walk_39 hM.1 ?_
          rw [hb]
          refine cm_geN (pc := 42) (tgt := 58) dX2_walk_42 (by decide) (by omega) (by omega) (fun c42 => ?_) (fun c42 => ?_)
          · have h1 : ¬ i + 1 < nb := by omega
            refine cm_aload0 (pc := 58) dX2_walk_58 ?_
            refine cm_getR (pc := 59) flX2_27 dX2_walk_59 hM.1 hM.r9 ?_
            refine cm_iload1 (pc := 62) dX2_walk_62 ?_
            refine cm_dup2 (pc := 63) dX2_walk_63 rfl rfl ?_
            refine mk_get (pc := 64) dX2_walk_64 hM.a6 (by omega) (by decide) ?_
            refine cm_iload2 (pc := 65) dX2_walk_65 ?_
            refine cm_iadd (pc := 66) dX2_walk_66 ?_
            refine mk_put (pc := 67) dX2_walk_67 hM.a6 (by omega) (by decide) ?_
            exact cm_vret (pc := 68) dX2_walk_68 rfl ⟨rfl, by simp [mWalk, *]⟩
          · refine cm_aload0 (pc := 45) dX2_walk_45 ?_
            refine cm_iload1 (pc := 46) dX2_walk_46 ?_
            refine cm_iconst (pc := 47) (v := 1) dX2_walk_47 (by decide) ?_
            refine cm_iadd (pc := 48) dX2_walk_48 ?_
            rw [nI_1]
            refine cm_iload2 (pc := 49) dX2_walk_49 ?_
            refine cm_iconst (pc := 50) (v := 0) dX2_walk_50 (by decide) ?_
            refine cm_V3 (pc := 51) mX2_holds_v mlX2_113 dX2_walk_51 hM.1 (by omega) (Nat.le_of_ble_eq_true rfl) (Nat.le_refl _) (Nat.le_refl _) (k_holds hM (d := d) (i := i + 1) (by omega) (by omega)) (fun r51 h51 hq51 => ?_)
            obtain ⟨rfl, rfl⟩ := hq51
            refine cm_ifneB (pc := 54) (tgt := 58) dX2_walk_54 (by decide) (fun c54 => ?_) (fun c54 => ?_)
            · refine cm_aload0 (pc := 58) dX2_walk_58 ?_
              refine cm_getR (pc := 59) flX2_27 dX2_walk_59 hM.1 hM.r9 ?_
              refine cm_iload1 (pc := 62) dX2_walk_62 ?_
              refine cm_dup2 (pc := 63) dX2_walk_63 rfl rfl ?_
              refine mk_get (pc := 64) dX2_walk_64 hM.a6 (by omega) (by decide) ?_
              refine cm_iload2 (pc := 65) dX2_walk_65 ?_
              refine cm_iadd (pc := 66) dX2_walk_66 ?_
              refine mk_put (pc := 67) dX2_walk_67 hM.a6 (by omega) (by decide) ?_
              exact cm_vret (pc := 68) dX2_walk_68 rfl ⟨rfl, by simp [mWalk, *]⟩
            · exact cm_vret (pc := 57) dX2_walk_57 rfl ⟨rfl, by simp [mWalk, *]⟩
    · exact cm_vret (pc := 20) dX2_walk_20 rfl ⟨rfl, by simp [mWalk, *]⟩
set_option maxRecDepth 20000 in
theorem k_wayOf (hM : cm_mkt sh hr a) {i w sp : Nat} (hi6 : i < 6) (hw : g 7 i = nI w) (hw5 : w < 5) (hsp : g 6 i = nI sp) (hs20 : sp < 20) : cm_ct D mX2_wayOf d 0 0 [.ref a, .int (nI i)] (sh, cm_us hi a g, hl, hr) (fun r9 h9 => r9 = some (.int (mWay g i)) ∧ h9 = (sh, cm_us hi a g, hl, hr)) := by
  refine cm_ct_of (ls := [some (.ref a), some (.int (nI i)), none, none]) 2 (by decide +kernel) rfl rfl ?_
  refine cm_aload0 (pc := 0) dX2_wayOf_0 ?_
  refine cm_getR (pc := 1) flX2_24 dX2_wayOf_1 hM.1 hM.r8 ?_
  refine cm_iload1 (pc := 4) dX2_wayOf_4 ?_
  refine mk_get (pc := 5) dX2_wayOf_5 hM.a5 (by omega) (by decide) ?_
  refine cm_istore2 (pc := 6) dX2_wayOf_6 (by decide) rfl ?_
  refine cm_iload2 (pc := 7) dX2_wayOf_7 ?_
  refine cm_iconst (pc := 8) (v := 2) dX2_wayOf_8 (by decide) ?_
  refine cm_icmp_eq (pc := 9) (tgt := 17) dX2_wayOf_9 (by decide) (fun c9 => ?_) (fun c9 => ?_)
  · refine cm_iconst (pc := 17) (v := 0) dX2_wayOf_17 (by decide) ?_
    exact cm_iret (pc := 18) dX2_wayOf_18 rfl ⟨by simp [mWay, hw, hsp, nI_clamp (show w < 2 ^ 31 by omega), nI_clamp (show sp < 2 ^ 31 by omega), *], rfl⟩
  · refine cm_iload2 (pc := 12) dX2_wayOf_12 ?_
    refine cm_iconst (pc := 13) (v := 4) dX2_wayOf_13 (by decide) ?_
    refine cm_icmp_ne (pc := 14) (tgt := 19) dX2_wayOf_14 (by decide) (fun c14 => ?_) (fun c14 => ?_)
    · refine cm_iload2 (pc := 19) dX2_wayOf_19 ?_
      refine cm_iconst (pc := 20) (v := 3) dX2_wayOf_20 (by decide) ?_
      refine cm_icmp_ne (pc := 21) (tgt := 28) dX2_wayOf_21 (by decide) (fun c21 => ?_) (fun c21 => ?_)
      · refine cm_iconst (pc := 28) (v := 0) dX2_wayOf_28 (by decide) ?_
        refine cm_istore3 (pc := 29) dX2_wayOf_29 (by decide) rfl ?_
        refine cm_aload0 (pc := 30) dX2_wayOf_30 ?_
        refine cm_getR (pc := 31) flX2_39 dX2_wayOf_31 hM.1 hM.r13 ?_
        refine cm_iload3 (pc := 34) dX2_wayOf_34 ?_
        refine cm_aload0 (pc := 35) dX2_wayOf_35 ?_
        refine cm_getR (pc := 36) flX2_30 dX2_wayOf_36 hM.1 hM.r10 ?_
        refine cm_iload1 (pc := 39) dX2_wayOf_39 ?_
        refine mk_get (pc := 40) dX2_wayOf_40 hM.a7 (by omega) (by decide) ?_
        refine cm_iadd (pc := 41) dX2_wayOf_41 ?_
        refine cm_bipush (pc := 42) (v := 20) dX2_wayOf_42 (by decide) ?_
        refine cm_imul (pc := 44) dX2_wayOf_44 ?_
        refine cm_aload0 (pc := 45) dX2_wayOf_45 ?_
        refine cm_getR (pc := 46) flX2_27 dX2_wayOf_46 hM.1 hM.r9 ?_
        refine cm_iload1 (pc := 49) dX2_wayOf_49 ?_
        refine mk_get (pc := 50) dX2_wayOf_50 hM.a6 (by omega) (by decide) ?_
        refine cm_iadd (pc := 51) dX2_wayOf_51 ?_
        refine mk_getE (pc := 52) (((if g 5 i = 3 then 5 else 0) + w) * 20 + sp) dX2_wayOf_52 hM.a10 (by first | (rw [hw, hsp, if_pos (by assumption)]; exact wix 5 w sp) | (rw [hw, hsp, if_neg (by assumption)]; exact wix 0 w sp)) (by split <;> omega) (by decide) ?_
        exact cm_iret (pc := 53) dX2_wayOf_53 rfl ⟨by simp [mWay, hw, hsp, nI_clamp (show w < 2 ^ 31 by omega), nI_clamp (show sp < 2 ^ 31 by omega), *], rfl⟩
      · refine cm_iconst (pc := 24) (v := 5) dX2_wayOf_24 (by decide) ?_
        refine cm_goto (pc := 25) (tgt := 29) dX2_wayOf_25 (by decide) ?_
        refine cm_istore3 (pc := 29) dX2_wayOf_29 (by decide) rfl ?_
        refine cm_aload0 (pc := 30) dX2_wayOf_30 ?_
        refine cm_getR (pc := 31) flX2_39 dX2_wayOf_31 hM.1 hM.r13 ?_
        refine cm_iload3 (pc := 34) dX2_wayOf_34 ?_
        refine cm_aload0 (pc := 35) dX2_wayOf_35 ?_
        refine cm_getR (pc := 36) flX2_30 dX2_wayOf_36 hM.1 hM.r10 ?_
        refine cm_iload1 (pc := 39) dX2_wayOf_39 ?_
        refine mk_get (pc := 40) dX2_wayOf_40 hM.a7 (by omega) (by decide) ?_
        refine cm_iadd (pc := 41) dX2_wayOf_41 ?_
        refine cm_bipush (pc := 42) (v := 20) dX2_wayOf_42 (by decide) ?_
        refine cm_imul (pc := 44) dX2_wayOf_44 ?_
        refine cm_aload0 (pc := 45) dX2_wayOf_45 ?_
        refine cm_getR (pc := 46) flX2_27 dX2_wayOf_46 hM.1 hM.r9 ?_
        refine cm_iload1 (pc := 49) dX2_wayOf_49 ?_
        refine mk_get (pc := 50) dX2_wayOf_50 hM.a6 (by omega) (by decide) ?_
        refine cm_iadd (pc := 51) dX2_wayOf_51 ?_
        refine mk_getE (pc := 52) (((if g 5 i = 3 then 5 else 0) + w) * 20 + sp) dX2_wayOf_52 hM.a10 (by first | (rw [hw, hsp, if_pos (by assumption)]; exact wix 5 w sp) | (rw [hw, hsp, if_neg (by assumption)]; exact wix 0 w sp)) (by split <;> omega) (by decide) ?_
        exact cm_iret (pc := 53) dX2_wayOf_53 rfl ⟨by simp [mWay, hw, hsp, nI_clamp (show w < 2 ^ 31 by omega), nI_clamp (show sp < 2 ^ 31 by omega), *], rfl⟩
    · refine cm_iconst (pc := 17) (v := 0) dX2_wayOf_17 (by decide) ?_
      exact cm_iret (pc := 18) dX2_wayOf_18 rfl ⟨by simp [mWay, hw, hsp, nI_clamp (show w < 2 ^ 31 by omega), nI_clamp (show sp < 2 ^ 31 by omega), *], rfl⟩
end MK3
