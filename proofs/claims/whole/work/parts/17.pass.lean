/-! PART pass: Market.passMinute -/
section MK5
variable {D : cm_D} {d : Nat} {sh : List cm_Sh} {hi g : cm_g2} {hl : Nat → Nat → Int64} {hr : Nat → Nat → Option Nat} {a nb ns : Nat}
theorem k_wayOf2 (hM : cm_mkt sh hr a) (h : mOk g nb ns) {i : Nat} (hi6 : i < nb) : cm_ct D mX2_wayOf d 0 0 [.ref a, .int (nI i)] (sh, cm_us hi a g, hl, hr) (fun r9 h9 => r9 = some (.int (mWay g i)) ∧ h9 = (sh, cm_us hi a g, hl, hr)) := by
  have h0 := h.1
  have h1 := h.2.1 i hi6
  have h2 := h.2.2.1 i hi6
  exact k_wayOf hM (by omega) (z_of h2.1) (by omega) (z_of h1.1) (by omega)
set_option maxRecDepth 20000 in
theorem k_sell (hM : cm_mkt sh hr a) {mv : Int32} (hb : g 0 3 = nI nb) (hnb : nb ≤ 6) (hs : g 0 2 = nI ns) (hns : ns ≤ 6) : cm_ct D mX2_sell (d + 2) 0 0 [.ref a, .int mv] (sh, cm_us hi a g, hl, hr) (fun r9 h9 => r9 = some (.int (nI (mSell g nb ns mv nb).2)) ∧ h9 = (sh, cm_us hi a (mSell g nb ns mv nb).1, hl, hr)) := by
  refine cm_ct_of (ls := [some (.ref a), some (.int mv), none, none, none]) 3 (by decide +kernel) rfl rfl ?_
  refine cm_iconst (pc := 0) (v := 0) dX2_sell_0 (by decide) ?_
  refine cm_istore2 (pc := 1) dX2_sell_1 (by decide) rfl ?_
  refine cm_iconst (pc := 2) (v := 0) dX2_sell_2 (by decide) ?_
  refine cm_istore3 (pc := 3) dX2_sell_3 (by decide) rfl ?_
  exact l_sell hM hb hnb hs hns nb 0 (by omega) none
set_option maxRecDepth 20000 in
theorem t_pass (hM : cm_mkt sh hr a) {wind : Int32} {x2 : Option Value} (h : mOk g nb ns) : cm_g D mX2_passMinute (d + 3) 0 0 (fun r9 h9 => r9 = some (.int (nI (mPass g nb ns wind).2)) ∧ h9 = (sh, cm_us hi a (mPass g nb ns wind).1, hl, hr)) 0 0 88 [some (.ref a), some (.int wind), x2] [] (sh, cm_us hi a (mPlains (mRichs g nb nb) nb nb), hl, hr) := by
  have h9 := ((h.richs nb (Nat.le_refl _)).plains nb (Nat.le_refl _)).tick
  refine cm_aload0 (pc := 88) dX2_passMinute_88 ?_
  refine cm_dup (pc := 89) dX2_passMinute_89 rfl ?_
  refine mk_fld (pc := 90) flX2_46 dX2_passMinute_90 hM.1 ?_
  refine cm_iconst (pc := 93) (v := 1) dX2_passMinute_93 (by decide) ?_
  refine cm_iadd (pc := 94) dX2_passMinute_94 ?_
  refine mk_set (pc := 95) fpX2_46 dX2_passMinute_95 hM.1 ?_
  rw [show va_up (mPlains (mRichs g nb nb) nb nb) 0 (upd (mPlains (mRichs g nb nb) nb nb 0) 1 (mPlains (mRichs g nb nb) nb nb 0 1 + 1)) = mTick (mPlains (mRichs g nb nb) nb nb) from rfl]
  refine cm_aload0 (pc := 98) dX2_passMinute_98 ?_
  refine cm_aload0 (pc := 99) dX2_passMinute_99 ?_
  refine cm_V0 (pc := 100) mX2_sun_v mlX2_103 dX2_passMinute_100 hM.1 (by omega) (Nat.le_of_ble_eq_true rfl) (Nat.le_refl _) (Nat.le_refl _) (k_sun hM (d := d + 2)) (fun r100 h100 hq100 => ?_)
  obtain ⟨rfl, rfl⟩ := hq100
  refine cm_iload1 (pc := 103) dX2_passMinute_103 ?_
  refine cm_iadd (pc := 104) dX2_passMinute_104 ?_
  refine cm_V1 (pc := 105) mX2_sell_v mlX2_107 dX2_passMinute_105 hM.1 (by omega) (Nat.le_of_ble_eq_true rfl) (Nat.le_refl _) (Nat.le_refl _) (k_sell hM (d := d) h9.1.1 h9.1.2.1 h9.1.2.2.1 h9.1.2.2.2) (fun r105 h105 hq105 => ?_)
  obtain ⟨rfl, rfl⟩ := hq105
  exact cm_iret (pc := 108) dX2_passMinute_108 rfl ⟨rfl, rfl⟩
set_option maxRecDepth 20000 in
theorem l_plain (hM : cm_mkt sh hr a) {wind : Int32} (h : mOk g nb ns) : ∀ n i : Nat, i + n = nb → cm_g D mX2_passMinute (d + 3) 0 0 (fun r9 h9 => r9 = some (.int (nI (mPass g nb ns wind).2)) ∧ h9 = (sh, cm_us hi a (mPass g nb ns wind).1, hl, hr)) 0 0 56 [some (.ref a), some (.int wind), some (.int (nI i))] [] (sh, cm_us hi a (mPlains (mRichs g nb nb) nb i), hl, hr) := by
  intro n
  induction n with
  | zero =>
    intro i hi9
    have h1 : i = nb := by omega
    subst h1
    have h9 := (h.richs i (Nat.le_refl _)).plains i (by omega)
    have hnb := h9.1.2.1
    refine cm_iload2 (pc := 56) dX2_passMinute_56 ?_
    refine cm_aload0 (pc := 57) dX2_passMinute_57 ?_
    refine mk_fld (pc := 58) flX2_52 dX2_passMinute_58 hM.1 ?_
    rw [h9.1.1]
    refine cm_geN (pc := 61) (tgt := 88) dX2_passMinute_61 (by decide) (by omega) (by omega) (fun c61 => ?_) (fun c61 => ?_)
    · exact t_pass hM h
    · exact absurd c61 (by omega)
  | succ n ih =>
    intro i hi9
    have h9 := (h.richs nb (Nat.le_refl _)).plains i (by omega)
    have hnb := h9.1.2.1
    have hst := ih (i + 1) (by omega)
    simp only [mPlains] at hst
    generalize mPlains (mRichs g nb nb) nb i = G at hst h9 ⊢
    refine cm_iload2 (pc := 56) dX2_passMinute_56 ?_
    refine cm_aload0 (pc := 57) dX2_passMinute_57 ?_
    refine mk_fld (pc := 58) flX2_52 dX2_passMinute_58 hM.1 ?_
    rw [h9.1.1]
    refine cm_geN (pc := 61) (tgt := 88) dX2_passMinute_61 (by decide) (by omega) (by omega) (fun c61 => ?_) (fun c61 => ?_)
    · exact absurd c61 (by omega)
    · refine cm_aload0 (pc := 64) dX2_passMinute_64 ?_
      refine cm_iload2 (pc := 65) dX2_passMinute_65 ?_
      refine cm_V1 (pc := 66) mX2_isRich_v mlX2_89 dX2_passMinute_66 hM.1 (by omega) (Nat.le_of_ble_eq_true rfl) (Nat.le_refl _) (Nat.le_refl _) (k_isRich hM (d := d + 2) (i := i) (by omega)) (fun r66 h66 hq66 => ?_)
      obtain ⟨rfl, rfl⟩ := hq66
      refine cm_ifneB (pc := 69) (tgt := 82) dX2_passMinute_69 (by decide) (fun c69 => ?_) (fun c69 => ?_)
      · refine cm_incN2 (pc := 82) dX2_passMinute_82 (by decide) rfl ?_
        refine cm_goto (tgt := 56) (pc := 85) dX2_passMinute_85 (by decide) ?_
        first
          | (rw [if_pos c69] at hst; exact hst)
          | (rw [if_neg (by rw [c69]; decide)] at hst; exact hst)
      · refine cm_aload0 (pc := 72) dX2_passMinute_72 ?_
        refine cm_iload2 (pc := 73) dX2_passMinute_73 ?_
        refine cm_aload0 (pc := 74) dX2_passMinute_74 ?_
        refine cm_iload2 (pc := 75) dX2_passMinute_75 ?_
        refine cm_V1 (pc := 76) mX2_wayOf_v mlX2_93 dX2_passMinute_76 hM.1 (by omega) (Nat.le_of_ble_eq_true rfl) (Nat.le_refl _) (Nat.le_refl _) (k_wayOf2 hM (d := d + 2) h9 (i := i) (by omega)) (fun r76 h76 hq76 => ?_)
        obtain ⟨rfl, rfl⟩ := hq76
        refine cm_V2 (pc := 79) mX2_walk_v mlX2_100 dX2_passMinute_79 hM.1 (by omega) (Nat.le_of_ble_eq_true rfl) (Nat.le_refl _) (Nat.le_refl _) (k_walk hM (d := d + 1) h9.1.1 h9.1.2.1 (by omega)) (fun r79 h79 hq79 => ?_)
        obtain ⟨rfl, rfl⟩ := hq79
        refine cm_incN2 (pc := 82) dX2_passMinute_82 (by decide) rfl ?_
        refine cm_goto (tgt := 56) (pc := 85) dX2_passMinute_85 (by decide) ?_
        first
          | (rw [if_pos c69] at hst; exact hst)
          | (rw [if_neg (by rw [c69]; decide)] at hst; exact hst)
set_option maxRecDepth 20000 in
theorem l_rich (hM : cm_mkt sh hr a) {wind : Int32} (h : mOk g nb ns) : ∀ n i : Nat, i + n = nb → cm_g D mX2_passMinute (d + 3) 0 0 (fun r9 h9 => r9 = some (.int (nI (mPass g nb ns wind).2)) ∧ h9 = (sh, cm_us hi a (mPass g nb ns wind).1, hl, hr)) 0 0 2 [some (.ref a), some (.int wind), some (.int (nI i))] [] (sh, cm_us hi a (mRichs g nb i), hl, hr) := by
  intro n
  induction n with
  | zero =>
    intro i hi9
    have h1 : i = nb := by omega
    subst h1
    have h9 := h.richs i (by omega)
    have hnb := h9.1.2.1
    refine cm_iload2 (pc := 2) dX2_passMinute_2 ?_
    refine cm_aload0 (pc := 3) dX2_passMinute_3 ?_
    refine mk_fld (pc := 4) flX2_52 dX2_passMinute_4 hM.1 ?_
    rw [h9.1.1]
    refine cm_geN (pc := 7) (tgt := 54) dX2_passMinute_7 (by decide) (by omega) (by omega) (fun c7 => ?_) (fun c7 => ?_)
    · refine cm_iconst (pc := 54) (v := 0) dX2_passMinute_54 (by decide) ?_
      refine cm_istore2 (pc := 55) dX2_passMinute_55 (by decide) rfl ?_
      exact l_plain hM h _ 0 (Nat.zero_add _)
    · exact absurd c7 (by omega)
  | succ n ih =>
    intro i hi9
    have h9 := h.richs i (by omega)
    have hnb := h9.1.2.1
    have hst := ih (i + 1) (by omega)
    simp only [mRichs] at hst
    generalize mRichs g nb i = G at hst h9 ⊢
    refine cm_iload2 (pc := 2) dX2_passMinute_2 ?_
    refine cm_aload0 (pc := 3) dX2_passMinute_3 ?_
    refine mk_fld (pc := 4) flX2_52 dX2_passMinute_4 hM.1 ?_
    rw [h9.1.1]
    refine cm_geN (pc := 7) (tgt := 54) dX2_passMinute_7 (by decide) (by omega) (by omega) (fun c7 => ?_) (fun c7 => ?_)
    · exact absurd c7 (by omega)
    · refine cm_aload0 (pc := 10) dX2_passMinute_10 ?_
      refine cm_iload2 (pc := 11) dX2_passMinute_11 ?_
      refine cm_V1 (pc := 12) mX2_isRich_v mlX2_89 dX2_passMinute_12 hM.1 (by omega) (Nat.le_of_ble_eq_true rfl) (Nat.le_refl _) (Nat.le_refl _) (k_isRich hM (d := d + 2) (i := i) (by omega)) (fun r12 h12 hq12 => ?_)
      obtain ⟨rfl, rfl⟩ := hq12
      refine cm_ifeqB (pc := 15) (tgt := 48) dX2_passMinute_15 (by decide) (fun c15 => ?_) (fun c15 => ?_)
      · refine cm_incN2 (pc := 48) dX2_passMinute_48 (by decide) rfl ?_
        refine cm_goto (tgt := 2) (pc := 51) dX2_passMinute_51 (by decide) ?_
        first
          | (rw [if_neg (by rw [c15]; decide)] at hst; exact hst)
          | (rw [if_pos c15, if_neg c35] at hst; exact hst)
          | (rw [if_pos c15, if_pos c35] at hst; exact hst)
      · refine cm_aload0 (pc := 18) dX2_passMinute_18 ?_
        refine cm_iload2 (pc := 19) dX2_passMinute_19 ?_
        refine cm_aload0 (pc := 20) dX2_passMinute_20 ?_
        refine cm_iload2 (pc := 21) dX2_passMinute_21 ?_
        refine cm_V1 (pc := 22) mX2_wayOf_v mlX2_93 dX2_passMinute_22 hM.1 (by omega) (Nat.le_of_ble_eq_true rfl) (Nat.le_refl _) (Nat.le_refl _) (k_wayOf2 hM (d := d + 2) h9 (i := i) (by omega)) (fun r22 h22 hq22 => ?_)
        obtain ⟨rfl, rfl⟩ := hq22
        refine cm_V2 (pc := 25) mX2_pull_v mlX2_96 dX2_passMinute_25 hM.1 (by omega) (Nat.le_of_ble_eq_true rfl) (Nat.le_refl _) (Nat.le_refl _) (k_pull hM (d := d) h9.1.1 h9.1.2.1 (by omega)) (fun r25 h25 hq25 => ?_)
        obtain ⟨rfl, rfl⟩ := hq25
        have h8 := h9.pull (i := i) (by omega) (mWay_in (i := i) h9 (by omega))
        refine cm_aload0 (pc := 28) dX2_passMinute_28 ?_
        refine cm_getR (pc := 29) flX2_24 dX2_passMinute_29 hM.1 hM.r8 ?_
        refine cm_iload2 (pc := 32) dX2_passMinute_32 ?_
        refine mk_get (pc := 33) dX2_passMinute_33 hM.a5 (by omega) (by decide) ?_
        refine cm_iconst (pc := 34) (v := 5) dX2_passMinute_34 (by decide) ?_
        refine cm_icmp_ne (pc := 35) (tgt := 48) dX2_passMinute_35 (by decide) (fun c35 => ?_) (fun c35 => ?_)
        · refine cm_incN2 (pc := 48) dX2_passMinute_48 (by decide) rfl ?_
          refine cm_goto (tgt := 2) (pc := 51) dX2_passMinute_51 (by decide) ?_
          first
            | (rw [if_neg (by rw [c15]; decide)] at hst; exact hst)
            | (rw [if_pos c15, if_neg c35] at hst; exact hst)
            | (rw [if_pos c15, if_pos c35] at hst; exact hst)
        · refine cm_aload0 (pc := 38) dX2_passMinute_38 ?_
          refine cm_iload2 (pc := 39) dX2_passMinute_39 ?_
          refine cm_aload0 (pc := 40) dX2_passMinute_40 ?_
          refine cm_iload2 (pc := 41) dX2_passMinute_41 ?_
          refine cm_V1 (pc := 42) mX2_wayOf_v mlX2_93 dX2_passMinute_42 hM.1 (by omega) (Nat.le_of_ble_eq_true rfl) (Nat.le_refl _) (Nat.le_refl _) (k_wayOf2 hM (d := d + 2) h8 (i := i) (by omega)) (fun r42 h42 hq42 => ?_)
          obtain ⟨rfl, rfl⟩ := hq42
          refine cm_V2 (pc := 45) mX2_pull_v mlX2_96 dX2_passMinute_45 hM.1 (by omega) (Nat.le_of_ble_eq_true rfl) (Nat.le_refl _) (Nat.le_refl _) (k_pull hM (d := d) h8.1.1 h8.1.2.1 (by omega)) (fun r45 h45 hq45 => ?_)
          obtain ⟨rfl, rfl⟩ := hq45
          refine cm_incN2 (pc := 48) dX2_passMinute_48 (by decide) rfl ?_
          refine cm_goto (tgt := 2) (pc := 51) dX2_passMinute_51 (by decide) ?_
          first
            | (rw [if_neg (by rw [c15]; decide)] at hst; exact hst)
            | (rw [if_pos c15, if_neg c35] at hst; exact hst)
            | (rw [if_pos c15, if_pos c35] at hst; exact hst)
set_option maxRecDepth 20000 in
theorem k_passMinute (hM : cm_mkt sh hr a) {wind : Int32} (h : mOk g nb ns) : cm_ct D mX2_passMinute (d + 3) 0 0 [.ref a, .int wind] (sh, cm_us hi a g, hl, hr) (fun r9 h9 => r9 = some (.int (nI (mPass g nb ns wind).2)) ∧ h9 = (sh, cm_us hi a (mPass g nb ns wind).1, hl, hr)) := by
  refine cm_ct_of (ls := [some (.ref a), some (.int wind), none]) 1 (by decide +kernel) rfl rfl ?_
  refine cm_iconst (pc := 0) (v := 0) dX2_passMinute_0 (by decide) ?_
  refine cm_istore2 (pc := 1) dX2_passMinute_1 (by decide) rfl ?_
  exact l_rich hM h nb 0 (by omega)
end MK5
