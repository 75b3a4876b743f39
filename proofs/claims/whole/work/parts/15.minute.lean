/-! PART minute: Market: shade, sale, a MINUTE -/
/-- one BUYER's turn to buy -/
def mSell1 (g : cm_g2) (nb ns : Nat) (mv : Int32) (i : Nat) : cm_g2 × Nat := if g 7 i = 4 then (g, 0) else if mShaded g nb (g 6 i) mv then (match mHere g (g 6 i) (g 7 i) ns 0 with
  | none => (g, 0)
  | some k => (va_up (va_up (va_up g 8 (upd (g 8) i (g 8 i + g 3 k))) 4 (upd (g 4) k (g 4 k + 1))) 7 (upd (g 7) i 4), 1)) else (g, 0)
def mSell (g : cm_g2) (nb ns : Nat) (mv : Int32) : Nat → cm_g2 × Nat
  | 0 => (g, 0)
  | i + 1 => ((mSell1 (mSell g nb ns mv i).1 nb ns mv i).1, (mSell g nb ns mv i).2 + (mSell1 (mSell g nb ns mv i).1 nb ns mv i).2)
theorem mHere_lt {g : cm_g2} {at_ gd : Int32} : ∀ {n k j : Nat}, mHere g at_ gd n k = some j → k ≤ j ∧ j < k + n
  | 0, k, j, h => by simp [mHere] at h
  | n + 1, k, j, h => by
    unfold mHere at h
    split at h
    · cases h; omega
    · have := mHere_lt h; omega
theorem mSell1_keep (g : cm_g2) (nb ns : Nat) (mv : Int32) (i : Nat) : (mSell1 g nb ns mv i).1 0 = g 0 ∧ (mSell1 g nb ns mv i).1 6 = g 6 ∧ (mSell1 g nb ns mv i).1 5 = g 5 ∧ (mSell1 g nb ns mv i).2 ≤ 1 := by
  unfold mSell1
  split
  · exact ⟨rfl, rfl, rfl, by omega⟩
  · split
    · split
      · exact ⟨rfl, rfl, rfl, by omega⟩
      · refine ⟨?_, ?_, ?_, by omega⟩ <;> simp [va_up]
    · exact ⟨rfl, rfl, rfl, by omega⟩
theorem mSell_keep (g : cm_g2) (nb ns : Nat) (mv : Int32) : ∀ i : Nat, (mSell g nb ns mv i).1 0 = g 0 ∧ (mSell g nb ns mv i).1 6 = g 6 ∧ (mSell g nb ns mv i).1 5 = g 5 ∧ (mSell g nb ns mv i).2 ≤ i
  | 0 => ⟨rfl, rfl, rfl, Nat.le_refl _⟩
  | i + 1 => by
    have h1 := mSell_keep g nb ns mv i
    have h2 := mSell1_keep (mSell g nb ns mv i).1 nb ns mv i
    refine ⟨h2.1.trans h1.1, h2.2.1.trans h1.2.1, h2.2.2.1.trans h1.2.2.1, ?_⟩
    show (mSell g nb ns mv i).2 + (mSell1 (mSell g nb ns mv i).1 nb ns mv i).2 ≤ i + 1
    omega
section MK4
variable {D : cm_D} {d : Nat} {sh : List cm_Sh} {hi g : cm_g2} {hl : Nat → Nat → Int64} {hr : Nat → Nat → Option Nat} {a : Nat}
set_option maxRecDepth 20000 in
theorem k_lastSpot (hM : cm_mkt sh hr a) {nb : Nat} (hb : g 0 3 = nI nb) (hnb : nb ≤ 6) : cm_ct D mX2_lastSpot d 0 0 [.ref a] (sh, cm_us hi a g, hl, hr) (fun r9 h9 => r9 = some (.int (mLastSpot g nb)) ∧ h9 = (sh, cm_us hi a g, hl, hr)) := by
  refine cm_ct_of (ls := [some (.ref a)]) 0 (by decide +kernel) rfl rfl ?_
  refine cm_aload0 (pc := 0) dX2_lastSpot_0 ?_
  refine mk_fld (pc := 1) flX2_52 dX2_lastSpot_1 hM.1 ?_
  rw [hb]
  refine cm_if_ne (pc := 4) (tgt := 11) dX2_lastSpot_4 (by decide) (fun c4 => ?_) (fun c4 => ?_)
  · have h0 : 0 < nb := by
      rcases Nat.eq_zero_or_pos nb with q | q
      · subst q; exact absurd rfl c4
      · exact q
    refine cm_aload0 (pc := 11) dX2_lastSpot_11 ?_
    refine cm_getR (pc := 12) flX2_27 dX2_lastSpot_12 hM.1 hM.r9 ?_
    refine cm_aload0 (pc := 15) dX2_lastSpot_15 ?_
    refine mk_fld (pc := 16) flX2_52 dX2_lastSpot_16 hM.1 ?_
    rw [hb]
    refine cm_iconst (pc := 19) (v := 1) dX2_lastSpot_19 (by decide) ?_
    refine cm_isub (pc := 20) dX2_lastSpot_20 ?_
    refine mk_getE (pc := 21) (nb - 1) dX2_lastSpot_21 hM.a6 (pk_sub (b := 1) h0) (by omega) (by decide) ?_
    exact cm_iret (pc := 22) dX2_lastSpot_22 rfl ⟨by unfold mLastSpot; first | rw [if_neg (by omega)] | rw [if_pos (by omega)], rfl⟩
  · have h0 : nb = 0 := by
      rcases Nat.eq_zero_or_pos nb with q | q
      · exact q
      · exact absurd c4 (nI_ne0 q (by omega))
    refine cm_iconst (pc := 7) (v := 0) dX2_lastSpot_7 (by decide) ?_
    refine cm_goto (pc := 8) (tgt := 22) dX2_lastSpot_8 (by decide) ?_
    exact cm_iret (pc := 22) dX2_lastSpot_22 rfl ⟨by unfold mLastSpot; first | rw [if_neg (by omega)] | rw [if_pos (by omega)], rfl⟩
set_option maxRecDepth 20000 in
theorem k_isShaded (hM : cm_mkt sh hr a) {nb : Nat} {at_ mv : Int32} (hb : g 0 3 = nI nb) (hnb : nb ≤ 6) : cm_ct D mX2_isShaded (d + 1) 0 0 [.ref a, .int at_, .int mv] (sh, cm_us hi a g, hl, hr) (fun r9 h9 => r9 = some (.int (cm_bi (mShaded g nb at_ mv))) ∧ h9 = (sh, cm_us hi a g, hl, hr)) := by
  refine cm_ct_of (ls := [some (.ref a), some (.int at_), some (.int mv)]) 0 (by decide +kernel) rfl rfl ?_
  refine cm_aload0 (pc := 0) dX2_isShaded_0 ?_
  refine mk_fld (pc := 1) flX2_52 dX2_isShaded_1 hM.1 ?_
  rw [hb]
  refine cm_if_le (pc := 4) (tgt := 33) dX2_isShaded_4 (by decide) (fun c4 => ?_) (fun c4 => ?_)
  · have h0 : nb = 0 := by
      rcases Nat.eq_zero_or_pos nb with q | q
      · exact q
      · exact absurd c4 (nI_nle q (by omega))
    refine cm_iconst (pc := 33) (v := 0) dX2_isShaded_33 (by decide) ?_
    exact cm_zret (pc := 34) dX2_isShaded_34 rfl rfl ⟨by simp [cm_bi, mShaded, *], rfl⟩
  · have h0 : 0 < nb := by
      rcases Nat.eq_zero_or_pos nb with q | q
      · subst q; exact absurd (show nI 0 ≤ 0 by decide) c4
      · exact q
    refine cm_iload1 (pc := 7) dX2_isShaded_7 ?_
    refine cm_aload0 (pc := 8) dX2_isShaded_8 ?_
    refine cm_getR (pc := 9) flX2_27 dX2_isShaded_9 hM.1 hM.r9 ?_
    refine cm_iconst (pc := 12) (v := 0) dX2_isShaded_12 (by decide) ?_
    refine mk_getE (pc := 13) (0) dX2_isShaded_13 hM.a6 nI_0.symm (by omega) (by decide) ?_
    refine cm_iload2 (pc := 14) dX2_isShaded_14 ?_
    refine cm_iadd (pc := 15) dX2_isShaded_15 ?_
    refine cm_icmp_lt (pc := 16) (tgt := 33) dX2_isShaded_16 (by decide) (fun c16 => ?_) (fun c16 => ?_)
    · refine cm_iconst (pc := 33) (v := 0) dX2_isShaded_33 (by decide) ?_
      exact cm_zret (pc := 34) dX2_isShaded_34 rfl rfl ⟨by simp [cm_bi, mShaded, *], rfl⟩
    · refine cm_iload1 (pc := 19) dX2_isShaded_19 ?_
      refine cm_aload0 (pc := 20) dX2_isShaded_20 ?_
      refine cm_V0 (pc := 21) mX2_lastSpot_v mlX2_131 dX2_isShaded_21 hM.1 (by omega) (Nat.le_of_ble_eq_true rfl) (Nat.le_refl _) (Nat.le_refl _) (k_lastSpot hM (d := d) hb hnb) (fun r21 h21 hq21 => ?_)
      obtain ⟨rfl, rfl⟩ := hq21
      refine cm_iload2 (pc := 24) dX2_isShaded_24 ?_
      refine cm_iadd (pc := 25) dX2_isShaded_25 ?_
      refine cm_icmp_gt (pc := 26) (tgt := 33) dX2_isShaded_26 (by decide) (fun c26 => ?_) (fun c26 => ?_)
      · refine cm_iconst (pc := 33) (v := 0) dX2_isShaded_33 (by decide) ?_
        exact cm_zret (pc := 34) dX2_isShaded_34 rfl rfl ⟨by simp [cm_bi, mShaded, *], rfl⟩
      · refine cm_iconst (pc := 29) (v := 1) dX2_isShaded_29 (by decide) ?_
        refine cm_goto (pc := 30) (tgt := 34) dX2_isShaded_30 (by decide) ?_
        exact cm_zret (pc := 34) dX2_isShaded_34 rfl rfl ⟨by simp [cm_bi, mShaded, *], rfl⟩
set_option maxRecDepth 20000 in
theorem l_here (hM : cm_mkt sh hr a) {ns : Nat} {at_ gd : Int32} (hs : g 0 2 = nI ns) (hns : ns ≤ 6) : ∀ n k : Nat, k + n = ns → cm_g D mX2_stallHere (d) 0 0 (fun r9 h9 => r9 = some (.int (cm_oi (mHere g at_ gd n k))) ∧ h9 = (sh, cm_us hi a g, hl, hr)) 0 0 2 [some (.ref a), some (.int at_), some (.int gd), some (.int (nI k))] [] (sh, cm_us hi a g, hl, hr) := by
  intro n
  induction n with
  | zero =>
    intro k hk
    refine cm_iload3 (pc := 2) dX2_stallHere_2 ?_
    refine cm_aload0 (pc := 3) dX2_stallHere_3 ?_
    refine mk_fld (pc := 4) flX2_49 dX2_stallHere_4 hM.1 ?_
    rw [hs]
    refine cm_geN (pc := 7) (tgt := 38) dX2_stallHere_7 (by decide) (by omega) (by omega) (fun c7 => ?_) (fun c7 => ?_)
    · refine cm_bipush (pc := 38) (v := -9) dX2_stallHere_38 (by decide) ?_
      exact cm_iret (pc := 40) dX2_stallHere_40 rfl ⟨rfl, rfl⟩
    · exact absurd c7 (by omega)
  | succ n ih =>
    intro k hk
    refine cm_iload3 (pc := 2) dX2_stallHere_2 ?_
    refine cm_aload0 (pc := 3) dX2_stallHere_3 ?_
    refine mk_fld (pc := 4) flX2_49 dX2_stallHere_4 hM.1 ?_
    rw [hs]
    refine cm_geN (pc := 7) (tgt := 38) dX2_stallHere_7 (by decide) (by omega) (by omega) (fun c7 => ?_) (fun c7 => ?_)
    · exact absurd c7 (by omega)
    · refine cm_aload0 (pc := 10) dX2_stallHere_10 ?_
      refine cm_getR (pc := 11) flX2_9 dX2_stallHere_11 hM.1 hM.r4 ?_
      refine cm_iload3 (pc := 14) dX2_stallHere_14 ?_
      refine mk_get (pc := 15) dX2_stallHere_15 hM.a1 (by omega) (by decide) ?_
      refine cm_iload1 (pc := 16) dX2_stallHere_16 ?_
      refine cm_icmp_ne (pc := 17) (tgt := 32) dX2_stallHere_17 (by decide) (fun c17 => ?_) (fun c17 => ?_)
      · refine cm_incN3 (pc := 32) dX2_stallHere_32 (by decide) rfl ?_
        refine cm_goto (pc := 35) (tgt := 2) dX2_stallHere_35 (by decide) ?_
        rw [show mHere g at_ gd (n + 1) k = mHere g at_ gd n (k + 1) by simp [mHere, *]]
        exact ih (k + 1) (by omega)
      · refine cm_aload0 (pc := 20) dX2_stallHere_20 ?_
        refine cm_getR (pc := 21) flX2_15 dX2_stallHere_21 hM.1 hM.r5 ?_
        refine cm_iload3 (pc := 24) dX2_stallHere_24 ?_
        refine mk_get (pc := 25) dX2_stallHere_25 hM.a2 (by omega) (by decide) ?_
        refine cm_iload2 (pc := 26) dX2_stallHere_26 ?_
        refine cm_icmp_ne (pc := 27) (tgt := 32) dX2_stallHere_27 (by decide) (fun c27 => ?_) (fun c27 => ?_)
        · refine cm_incN3 (pc := 32) dX2_stallHere_32 (by decide) rfl ?_
          refine cm_goto (pc := 35) (tgt := 2) dX2_stallHere_35 (by decide) ?_
          rw [show mHere g at_ gd (n + 1) k = mHere g at_ gd n (k + 1) by simp [mHere, *]]
          exact ih (k + 1) (by omega)
        · refine cm_iload3 (pc := 30) dX2_stallHere_30 ?_
          exact cm_iret (pc := 31) dX2_stallHere_31 rfl ⟨by simp [mHere, cm_oi, *], rfl⟩
set_option maxRecDepth 20000 in
theorem k_stallHere (hM : cm_mkt sh hr a) {ns : Nat} {at_ gd : Int32} (hs : g 0 2 = nI ns) (hns : ns ≤ 6) : cm_ct D mX2_stallHere d 0 0 [.ref a, .int at_, .int gd] (sh, cm_us hi a g, hl, hr) (fun r9 h9 => r9 = some (.int (cm_oi (mHere g at_ gd ns 0))) ∧ h9 = (sh, cm_us hi a g, hl, hr)) := by
  refine cm_ct_of (ls := [some (.ref a), some (.int at_), some (.int gd), none]) 1 (by decide +kernel) rfl rfl ?_
  refine cm_iconst (pc := 0) (v := 0) dX2_stallHere_0 (by decide) ?_
  rw [← nI_0]
  refine cm_istore3 (pc := 1) dX2_stallHere_1 (by decide) rfl ?_
  exact l_here hM hs hns ns 0 (by omega)
set_option maxRecDepth 20000 in
theorem l_sell (hM : cm_mkt sh hr a) {nb ns : Nat} {mv : Int32} (hb : g 0 3 = nI nb) (hnb : nb ≤ 6) (hs : g 0 2 = nI ns) (hns : ns ≤ 6) : ∀ n i : Nat, i + n = nb → ∀ x4 : Option Value, cm_g D mX2_sell (d + 2) 0 0 (fun r9 h9 => r9 = some (.int (nI (mSell g nb ns mv nb).2)) ∧ h9 = (sh, cm_us hi a (mSell g nb ns mv nb).1, hl, hr)) 0 0 4 [some (.ref a), some (.int mv), some (.int (nI (mSell g nb ns mv i).2)), some (.int (nI i)), x4] [] (sh, cm_us hi a (mSell g nb ns mv i).1, hl, hr) := by
  intro n
  induction n with
  | zero =>
    intro i hi9 x4
    have h1 : i = nb := by omega
    subst h1
    have hk := mSell_keep g i ns mv i
    have hb2 : (mSell g i ns mv i).1 0 3 = nI i := by rw [hk.1]; exact hb
    refine cm_iload3 (pc := 4) dX2_sell_4 ?_
    refine cm_aload0 (pc := 5) dX2_sell_5 ?_
    refine mk_fld (pc := 6) flX2_52 dX2_sell_6 hM.1 ?_
    rw [hb2]
    refine cm_geN (pc := 9) (tgt := 104) dX2_sell_9 (by decide) (by omega) (by omega) (fun c9 => ?_) (fun c9 => ?_)
    · refine cm_iload2 (pc := 104) dX2_sell_104 ?_
      exact cm_iret (pc := 105) dX2_sell_105 rfl ⟨rfl, rfl⟩
    · exact absurd c9 (by omega)
  | succ n ih =>
    intro i hi9 x4
    have hk := mSell_keep g nb ns mv i
    have hb2 : (mSell g nb ns mv i).1 0 3 = nI nb := by rw [hk.1]; exact hb
    have hs2 : (mSell g nb ns mv i).1 0 2 = nI ns := by rw [hk.1]; exact hs
    have hst := ih (i + 1) (by omega)
    simp only [mSell] at hst
    generalize (mSell g nb ns mv i).1 = G at hst hb2 hs2 ⊢
    generalize (mSell g nb ns mv i).2 = S at hst ⊢
    refine cm_iload3 (pc := 4) dX2_sell_4 ?_
    refine cm_aload0 (pc := 5) dX2_sell_5 ?_
    refine mk_fld (pc := 6) flX2_52 dX2_sell_6 hM.1 ?_
    rw [hb2]
    refine cm_geN (pc := 9) (tgt := 104) dX2_sell_9 (by decide) (by omega) (by omega) (fun c9 => ?_) (fun c9 => ?_)
    · exact absurd c9 (by omega)
    · refine cm_aload0 (pc := 12) dX2_sell_12 ?_
      refine cm_getR (pc := 13) flX2_30 dX2_sell_13 hM.1 hM.r10 ?_
      refine cm_iload3 (pc := 16) dX2_sell_16 ?_
      refine mk_get (pc := 17) dX2_sell_17 hM.a7 (by omega) (by decide) ?_
      refine cm_iconst (pc := 18) (v := 4) dX2_sell_18 (by decide) ?_
      refine cm_icmp_eq (pc := 19) (tgt := 98) dX2_sell_19 (by decide) (fun c19 => ?_) (fun c19 => ?_)
      · refine cm_incN3 (pc := 98) dX2_sell_98 (by decide) rfl ?_
        refine cm_goto (tgt := 4) (pc := 101) dX2_sell_101 (by decide) ?_
        first
          | (rw [show mSell1 G nb ns mv i = (G, 0) by simp [mSell1, *]] at hst; exact hst _)
          | (rw [show mSell1 G nb ns mv i = (va_up (va_up (va_up G 8 (upd (G 8) i (G 8 i + G 3 k))) 4 (upd (G 4) k (G 4 k + 1))) 7 (upd (G 7) i 4), 1) by simp [mSell1, *]] at hst; simp [va_up] at hst ⊢; exact hst _)
      · refine cm_aload0 (pc := 22) dX2_sell_22 ?_
        refine cm_aload0 (pc := 23) dX2_sell_23 ?_
        refine cm_getR (pc := 24) flX2_27 dX2_sell_24 hM.1 hM.r9 ?_
        refine cm_iload3 (pc := 27) dX2_sell_27 ?_
        refine mk_get (pc := 28) dX2_sell_28 hM.a6 (by omega) (by decide) ?_
        refine cm_iload1 (pc := 29) dX2_sell_29 ?_
        refine cm_V2 (pc := 30) mX2_isShaded_v mlX2_125 dX2_sell_30 hM.1 (by omega) (Nat.le_of_ble_eq_true rfl) (Nat.le_refl _) (Nat.le_refl _) (k_isShaded hM (d := d) hb2 hnb) (fun r30 h30 hq30 => ?_)
        obtain ⟨rfl, rfl⟩ := hq30
        refine cm_ifeqB (pc := 33) (tgt := 98) dX2_sell_33 (by decide) (fun c33 => ?_) (fun c33 => ?_)
        · refine cm_incN3 (pc := 98) dX2_sell_98 (by decide) rfl ?_
          refine cm_goto (tgt := 4) (pc := 101) dX2_sell_101 (by decide) ?_
          first
            | (rw [show mSell1 G nb ns mv i = (G, 0) by simp [mSell1, *]] at hst; exact hst _)
            | (rw [show mSell1 G nb ns mv i = (va_up (va_up (va_up G 8 (upd (G 8) i (G 8 i + G 3 k))) 4 (upd (G 4) k (G 4 k + 1))) 7 (upd (G 7) i 4), 1) by simp [mSell1, *]] at hst; simp [va_up] at hst ⊢; exact hst _)
        · refine cm_aload0 (pc := 36) dX2_sell_36 ?_
          refine cm_aload0 (pc := 37) dX2_sell_37 ?_
          refine cm_getR (pc := 38) flX2_27 dX2_sell_38 hM.1 hM.r9 ?_
          refine cm_iload3 (pc := 41) dX2_sell_41 ?_
          refine mk_get (pc := 42) dX2_sell_42 hM.a6 (by omega) (by decide) ?_
          refine cm_aload0 (pc := 43) dX2_sell_43 ?_
          refine cm_getR (pc := 44) flX2_30 dX2_sell_44 hM.1 hM.r10 ?_
          refine cm_iload3 (pc := 47) dX2_sell_47 ?_
          refine mk_get (pc := 48) dX2_sell_48 hM.a7 (by omega) (by decide) ?_
          refine cm_V2 (pc := 49) mX2_stallHere_v mlX2_128 dX2_sell_49 hM.1 (by omega) (Nat.le_of_ble_eq_true rfl) (Nat.le_refl _) (Nat.le_refl _) (k_stallHere hM (d := d + 1) hs2 hns) (fun r49 h49 hq49 => ?_)
          obtain ⟨rfl, rfl⟩ := hq49
          refine cm_istore4 (pc := 52) dX2_sell_52 (by decide) rfl ?_
          refine cm_iload4 (pc := 54) dX2_sell_54 ?_
          refine cm_bipush (pc := 56) (v := -9) dX2_sell_56 (by decide) ?_
          cases hh : mHere G (G 6 i) (G 7 i) ns 0 with
          | none =>
            refine cm_icmp_eq (tgt := 98) (pc := 58) dX2_sell_58 (by decide) (fun _ => ?_) (fun q => absurd rfl q)
            refine cm_incN3 (pc := 98) dX2_sell_98 (by decide) rfl ?_
            refine cm_goto (tgt := 4) (pc := 101) dX2_sell_101 (by decide) ?_
            have e9 : mSell1 G nb ns mv i = (G, 0) := by simp [mSell1, hh, *]
            rw [e9] at hst
            exact hst _
          | some k =>
          have hk6 := mHere_lt hh
          have hkn : ¬ cm_oi (some k) = -9 := cm_oi_ne (by omega)
          refine cm_icmp_eq (pc := 58) (tgt := 98) dX2_sell_58 (by decide) (fun q => absurd q hkn) (fun c58 => ?_)
          refine cm_aload0 (pc := 61) dX2_sell_61 ?_
          refine cm_getR (pc := 62) flX2_33 dX2_sell_62 hM.1 hM.r11 ?_
          refine cm_iload3 (pc := 65) dX2_sell_65 ?_
          refine cm_dup2 (pc := 66) dX2_sell_66 rfl rfl ?_
          refine mk_get (pc := 67) dX2_sell_67 hM.a8 (by omega) (by decide) ?_
          refine cm_aload0 (pc := 68) dX2_sell_68 ?_
          refine cm_getR (pc := 69) flX2_18 dX2_sell_69 hM.1 hM.r6 ?_
          refine cm_iload4 (pc := 72) dX2_sell_72 ?_
          refine mk_getE (pc := 74) (k) dX2_sell_74 hM.a3 rfl (by omega) (by decide) ?_
          refine cm_iadd (pc := 75) dX2_sell_75 ?_
          refine mk_put (pc := 76) dX2_sell_76 hM.a8 (by omega) (by decide) ?_
          refine cm_aload0 (pc := 77) dX2_sell_77 ?_
          refine cm_getR (pc := 78) flX2_21 dX2_sell_78 hM.1 hM.r7 ?_
          refine cm_iload4 (pc := 81) dX2_sell_81 ?_
          refine cm_dup2 (pc := 83) dX2_sell_83 rfl rfl ?_
          refine mk_getE (pc := 84) (k) dX2_sell_84 hM.a4 rfl (by omega) (by decide) ?_
          refine cm_iconst (pc := 85) (v := 1) dX2_sell_85 (by decide) ?_
          refine cm_iadd (pc := 86) dX2_sell_86 ?_
          refine mk_putE (pc := 87) (k) dX2_sell_87 hM.a4 rfl (by omega) (by decide) ?_
          refine cm_aload0 (pc := 88) dX2_sell_88 ?_
          refine cm_getR (pc := 89) flX2_30 dX2_sell_89 hM.1 hM.r10 ?_
          refine cm_iload3 (pc := 92) dX2_sell_92 ?_
          refine cm_iconst (pc := 93) (v := 4) dX2_sell_93 (by decide) ?_
          refine mk_put (pc := 94) dX2_sell_94 hM.a7 (by omega) (by decide) ?_
          refine cm_incN2 (pc := 95) dX2_sell_95 (by decide) rfl ?_
          refine cm_incN3 (pc := 98) dX2_sell_98 (by decide) rfl ?_
          refine cm_goto (tgt := 4) (pc := 101) dX2_sell_101 (by decide) ?_
          first
            | (rw [show mSell1 G nb ns mv i = (G, 0) by simp [mSell1, *]] at hst; exact hst _)
            | (rw [show mSell1 G nb ns mv i = (va_up (va_up (va_up G 8 (upd (G 8) i (G 8 i + G 3 k))) 4 (upd (G 4) k (G 4 k + 1))) 7 (upd (G 7) i 4), 1) by simp [mSell1, *]] at hst; simp [va_up] at hst ⊢; exact hst _)
end MK4
