/-! PART forecast2: first sale, rest, spots afterwards -/
theorem rem7 {a : Nat} (h : a < 2 ^ 31) : nI a - nI a / 7 * 7 = nI (a % 7) := pk_rem (d := 7) h (by decide) (by decide)
def wkOk (hl : Nat → Nat → Int64) (g : cm_g2) (nb ns k : Nat) : Prop := ∀ j, j ≤ k → k < j + 7 → hl 46 (j % 7) = cPack (mIt g nb ns j).1 nb
section FO2
variable {D : cm_D} {d : Nat} {sh : List cm_Sh} {hi g H5 : cm_g2} {hl : Nat → Nat → Int64} {hr : Nat → Nat → Option Nat} {nb ns : Nat}
set_option maxRecDepth 20000 in
theorem l_fs (hX : cm_cls sh hr) {i : Nat} {gd : Int32} (m5 : mEq g (cm_sf hi 5)) (P5 : ∀ c, c < 34 → H5 c = hi c) (Q5 : ∀ c, 44 < c → H5 c = hi c) (h0 : mOk g nb ns) (hgc : ∀ c, g c = H5 (34 + c)) (hi6 : i < 6) (hgd : gd = hi 12 i) (hgd4 : ¬ gd = 4) : ∀ q k : Nat, k + q = 60 → (if hi 12 i = 4 then none else cFs g nb ns i 60 0) = cFs g nb ns i q k → cm_g D mX0_firstSaleTo (d + 5) 0 0 (fun r9 h9 => ∃ H g, h9 = (sh, H, hl, hr) ∧ mEq g (cm_sf hi 5) ∧ (∀ c, c < 33 ∨ 44 < c → H c = hi c) ∧ (match (if hi 12 i = 4 then none else cFs g nb ns i 60 0) with | none => r9 = some (.int (-9)) | some m => r9 = some (.int (nI m)) ∧ H 33 3 = cm_oi (mHere (mIt g nb ns m).1 ((mIt g nb ns m).1 6 i) (hi 12 i) ns 0))) 0 0 18 [some (.ref 33), some (.ref 5), some (.int (nI i)), some (.int gd), some (.int (nI (k + 1)))] [] (sh, cm_us H5 34 (mIt g nb ns k).1, hl, hr) := by
  intro q
  induction q with
  | zero =>
    intro k hk hz
    have h1 : k = 60 := by omega
    subst h1
    refine cm_iload4 (pc := 18) dX0_firstSaleTo_18 ?_
    refine cm_bipush (pc := 20) (v := 60) dX0_firstSaleTo_20 (by decide) ?_
    refine cm_icmp_gt (pc := 22) (tgt := 82) dX0_firstSaleTo_22 (by decide) (fun c22 => ?_) (fun q => absurd (show nI 60 < nI (60 + 1) by decide) q)
    have hGc : ∀ c, 10 < c → (mIt g nb ns 60).1 c = H5 (34 + c) := fun c hc => by rw [mItW_c (by omega)]; exact hgc c
    generalize hGd : (mIt g nb ns 60).1 = G at *
    refine cm_bipush (pc := 82) (v := -9) dX0_firstSaleTo_82 (by decide) ?_
    refine cm_iret (pc := 84) dX0_firstSaleTo_84 rfl ⟨_, g, rfl, m5, fun c hc => by
      rcases hc with hc | hc
      · rw [cm_us_lt (by omega), P5 c (by omega)]
      · rw [show cm_us H5 34 G c = G (c - 34) by unfold cm_us; rw [if_pos (by omega)], hGc (c - 34) (by omega), show 34 + (c - 34) = c by omega, Q5 c hc], by rw [hz]; rfl⟩
  | succ q ih =>
    intro k hk hz
    have hst := ih (k + 1) (by omega)
    refine cm_iload4 (pc := 18) dX0_firstSaleTo_18 ?_
    refine cm_bipush (pc := 20) (v := 60) dX0_firstSaleTo_20 (by decide) ?_
    refine cm_icmp_gt (pc := 22) (tgt := 82) dX0_firstSaleTo_22 (by decide) (fun q => absurd q (show ¬ nI 60 < nI (k + 1) from nI_nlt (by omega) (by omega))) (fun c22 => ?_)
    refine cm_iload3 (pc := 25) dX0_firstSaleTo_25 ?_
    refine cm_iconst (pc := 26) (v := 4) dX0_firstSaleTo_26 (by decide) ?_
    refine cm_icmp_eq (pc := 27) (tgt := 82) dX0_firstSaleTo_27 (by decide) (fun q => absurd q hgd4) (fun c27 => ?_)
    refine cm_aload0 (pc := 30) dX0_firstSaleTo_30 ?_
    refine cm_getR (pc := 31) flX0_12 dX0_firstSaleTo_31 hX.of hX.rf0 ?_
    refine cm_iconst (pc := 34) (v := 0) dX0_firstSaleTo_34 (by decide) ?_
    refine cm_V1 (pc := 35) mX2_passMinute_v mlX0_26 dX0_firstSaleTo_35 hX.mf.1 (by omega) (Nat.le_of_ble_eq_true rfl) (Nat.le_refl _) (Nat.le_refl _) (k_passMinute (d := d + 1) hX.mf (h0.it k)) (fun r35 h35 hq35 => ?_)
    obtain ⟨rfl, rfl⟩ := hq35
    have hk1 := h0.it (k + 1)
    refine cm_pop (pc := 38) dX0_firstSaleTo_38 rfl ?_
    refine cm_aload0 (pc := 39) dX0_firstSaleTo_39 ?_
    refine cm_getR (pc := 40) flX0_12 dX0_firstSaleTo_40 hX.of hX.rf0 ?_
    refine cm_getR (pc := 43) flX0_30 dX0_firstSaleTo_43 hX.mf.1 hX.mf.r10 ?_
    refine cm_iload2 (pc := 46) dX0_firstSaleTo_46 ?_
    refine mk_get (pc := 47) dX0_firstSaleTo_47 hX.mf.a7 (by omega) (by decide) ?_
    refine cm_iconst (pc := 48) (v := 4) dX0_firstSaleTo_48 (by decide) ?_
    refine cm_icmp_ne (pc := 49) (tgt := 76) dX0_firstSaleTo_49 (by decide) (fun c49 => ?_) (fun c49 => ?_)
    · have hstep : cFs g nb ns i (q + 1) k = cFs g nb ns i q (k + 1) := if_neg c49
      refine cm_incN4 (pc := 76) dX0_firstSaleTo_76 (by decide) rfl ?_
      refine cm_goto (tgt := 18) (pc := 79) dX0_firstSaleTo_79 (by decide) ?_
      exact hst (by rw [hz, hstep])
    · refine cm_aload0 (pc := 52) dX0_firstSaleTo_52 ?_
      refine cm_aload0 (pc := 53) dX0_firstSaleTo_53 ?_
      refine cm_getR (pc := 54) flX0_12 dX0_firstSaleTo_54 hX.of hX.rf0 ?_
      refine cm_aload0 (pc := 57) dX0_firstSaleTo_57 ?_
      refine cm_getR (pc := 58) flX0_12 dX0_firstSaleTo_58 hX.of hX.rf0 ?_
      refine cm_getR (pc := 61) flX0_37 dX0_firstSaleTo_61 hX.mf.1 hX.mf.r9 ?_
      refine cm_iload2 (pc := 64) dX0_firstSaleTo_64 ?_
      refine mk_get (pc := 65) dX0_firstSaleTo_65 hX.mf.a6 (by omega) (by decide) ?_
      refine cm_iload3 (pc := 66) dX0_firstSaleTo_66 ?_
      refine cm_V2 (pc := 67) mX2_stallHere_v mlX0_40 dX0_firstSaleTo_67 hX.mf.1 (by omega) (Nat.le_of_ble_eq_true rfl) (Nat.le_refl _) (Nat.le_refl _) (k_stallHere (d := d + 4) hX.mf hk1.1.2.2.1 hk1.1.2.2.2) (fun r67 h67 hq67 => ?_)
      obtain ⟨rfl, rfl⟩ := hq67
      refine cm_putI (pc := 70) fpX0_44 dX0_firstSaleTo_70 hX.of ?_
      refine cm_memG (fun G70 e70 f70 => ?_)
      refine cm_iload4 (pc := 73) dX0_firstSaleTo_73 ?_
      have hstep : cFs g nb ns i (q + 1) k = some (k + 1) := if_pos c49
      refine cm_iret (pc := 75) dX0_firstSaleTo_75 rfl ⟨G70, g, rfl, m5, fun c hc => ?_, ?_⟩
      · rw [e70 c (by omega)]
        have hGc : ∀ c, 10 < c → (mIt g nb ns (k + 1)).1 c = H5 (34 + c) := fun c hc => by rw [mItW_c (by omega)]; exact hgc c
        show cm_us H5 34 (mIt g nb ns (k + 1)).1 c = _
        generalize (mIt g nb ns (k + 1)).1 = G at *
        rcases hc with hc | hc
        · rw [cm_us_lt (by omega), P5 c (by omega)]
        · rw [show cm_us H5 34 G c = G (c - 34) by unfold cm_us; rw [if_pos (by omega)], hGc (c - 34) (by omega), show 34 + (c - 34) = c by omega, Q5 c hc]
      · rw [hz, hstep]
        refine ⟨rfl, ?_⟩
        rw [f70]
        simp only [upd, if_true]
        rw [hgd]
        rfl
set_option maxRecDepth 20000 in
theorem k_firstSaleTo (hX : cm_cls sh hr) {i : Nat} (h : mOk (cm_sf hi 5) nb ns) (hi6 : i < 6) : cm_ct D mX0_firstSaleTo (d + 5) 0 0 [.ref 33, .ref 5, .int (nI i)] (sh, hi, hl, hr) (fun r9 h9 => ∃ H g, h9 = (sh, H, hl, hr) ∧ mEq g (cm_sf hi 5) ∧ (∀ c, c < 33 ∨ 44 < c → H c = hi c) ∧ (match (if hi 12 i = 4 then none else cFs g nb ns i 60 0) with | none => r9 = some (.int (-9)) | some m => r9 = some (.int (nI m)) ∧ H 33 3 = cm_oi (mHere (mIt g nb ns m).1 ((mIt g nb ns m).1 6 i) (hi 12 i) ns 0))) := by
  refine cm_ct_of (ls := [some (.ref 33), some (.ref 5), some (.int (nI i)), none, none]) 2 (by decide +kernel) rfl rfl ?_
  refine cm_aload1 (pc := 0) dX0_firstSaleTo_0 ?_
  refine cm_getR (pc := 1) flX0_30 dX0_firstSaleTo_1 hX.mp.1 hX.mp.r10 ?_
  refine cm_iload2 (pc := 4) dX0_firstSaleTo_4 ?_
  refine cm_ialN (pc := 5) dX0_firstSaleTo_5 hX.mp.a7 (by omega) (by decide) ?_
  refine cm_istore3 (pc := 6) dX0_firstSaleTo_6 (by decide) rfl ?_
  refine cm_aload0 (pc := 7) dX0_firstSaleTo_7 ?_
  refine cm_getR (pc := 8) flX0_12 dX0_firstSaleTo_8 hX.of hX.rf0 ?_
  refine cm_aload1 (pc := 11) dX0_firstSaleTo_11 ?_
  refine cm_V1 (pc := 12) mX2_take_v mlX0_33 dX0_firstSaleTo_12 hX.mf.1 (by omega) (Nat.le_of_ble_eq_true rfl) (Nat.le_refl _) (Nat.le_refl _) (k_take hX.mf hX.mp (by omega) (d := d + 3)) (fun r12 h12 hq12 => ?_)
  obtain ⟨rfl, H5, rfl, t5⟩ := hq12
  have m5 := t5.eq
  have P5 : ∀ c, c < 34 → H5 c = hi c := fun c hc => t5.1 c (Or.inl hc)
  have Q5 : ∀ c, 44 < c → H5 c = hi c := fun c hc => t5.1 c (Or.inr hc)
  have h0 := h.congr m5
  refine cm_h_eq (show (sh, H5, hl, hr) = (sh, cm_us H5 34 (cm_sf H5 34), hl, hr) by rw [cm_us_sf]) ?_
  have hgc : ∀ c, cm_sf H5 34 c = H5 (34 + c) := fun c => rfl
  generalize hgd : cm_sf H5 34 = g at *
  have hb := h0.1.1
  have hnb := h0.1.2.1
  have hs := h0.1.2.2.1
  have hns := h0.1.2.2.2
  refine cm_iconst (pc := 15) (v := 1) dX0_firstSaleTo_15 (by decide) ?_
  refine cm_istore4 (pc := 16) dX0_firstSaleTo_16 (by decide) rfl ?_
  by_cases hg4 : hi 12 i = 4
  · refine cm_iload4 (pc := 18) dX0_firstSaleTo_18 ?_
    refine cm_bipush (pc := 20) (v := 60) dX0_firstSaleTo_20 (by decide) ?_
    refine cm_icmp_gt (pc := 22) (tgt := 82) dX0_firstSaleTo_22 (by decide) (fun q => absurd q (by decide)) (fun c22 => ?_)
    refine cm_iload3 (pc := 25) dX0_firstSaleTo_25 ?_
    refine cm_iconst (pc := 26) (v := 4) dX0_firstSaleTo_26 (by decide) ?_
    refine cm_icmp_eq (pc := 27) (tgt := 82) dX0_firstSaleTo_27 (by decide) (fun c27 => ?_) (fun q => absurd hg4 q)
    have hGc : ∀ c, 10 < c → g c = H5 (34 + c) := fun c _ => hgc c
    refine cm_bipush (pc := 82) (v := -9) dX0_firstSaleTo_82 (by decide) ?_
    refine cm_iret (pc := 84) dX0_firstSaleTo_84 rfl ⟨_, g, rfl, m5, fun c hc => by
      rcases hc with hc | hc
      · rw [cm_us_lt (by omega), P5 c (by omega)]
      · rw [show cm_us H5 34 g c = g (c - 34) by unfold cm_us; rw [if_pos (by omega)], hGc (c - 34) (by omega), show 34 + (c - 34) = c by omega, Q5 c hc], by rw [if_pos hg4]⟩
  · refine l_fs hX m5 P5 Q5 h0 hgc hi6 rfl hg4 60 0 (by omega) (by rw [if_neg hg4])
set_option maxRecDepth 20000 in
theorem l_fr (hX : cm_cls sh hr) (m5 : mEq g (cm_sf hi 5)) (P5 : ∀ c, c < 34 → H5 c = hi c) (Q5 : ∀ c, 44 < c → H5 c = hi c) (h0 : mOk g nb ns) (hgc : ∀ c, g c = H5 (34 + c)) : ∀ q k : Nat, k + q = 200 → ∀ hl9 : Nat → Nat → Int64, wkOk hl9 g nb ns k → cRs g nb ns 200 0 = cRs g nb ns q k → ∀ x3 x4 : Option Value, cm_g D mX0_firstRest (d + 5) 0 0 (fun r9 h9 => ∃ H hl9 g, h9 = (sh, H, hl9, hr) ∧ mEq g (cm_sf hi 5) ∧ (∀ c, c < 33 ∨ 44 < c → H c = hi c) ∧ (match cRs g nb ns 200 0 with | none => r9 = some (.int (-9)) | some m => r9 = some (.int (nI m)) ∧ H 33 3 = sumP (fun i => if (mIt g nb ns m).1 7 i = 4 then 0 else 1) nb)) 0 0 23 [some (.ref 33), some (.ref 5), some (.int (nI (k + 1))), x3, x4] [] (sh, cm_us H5 34 (mIt g nb ns k).1, hl9, hr) := by
  intro q
  induction q with
  | zero =>
    intro k hk hl9 hwk hz x3 x4
    have h1 : k = 200 := by omega
    subst h1
    refine cm_iload2 (pc := 23) dX0_firstRest_23 ?_
    refine cm_sipush (pc := 24) (v := 200) dX0_firstRest_24 (by decide) ?_
    refine cm_icmp_gt (pc := 27) (tgt := 96) dX0_firstRest_27 (by decide) (fun c27 => ?_) (fun q => absurd (show nI 200 < nI (200 + 1) by decide) q)
    have hGc : ∀ c, 10 < c → (mIt g nb ns 200).1 c = H5 (34 + c) := fun c hc => by rw [mItW_c (by omega)]; exact hgc c
    generalize hGd : (mIt g nb ns 200).1 = G at *
    refine cm_bipush (pc := 96) (v := -9) dX0_firstRest_96 (by decide) ?_
    refine cm_iret (pc := 98) dX0_firstRest_98 rfl ⟨_, _, g, rfl, m5, fun c hc => by
      rcases hc with hc | hc
      · rw [cm_us_lt (by omega), P5 c (by omega)]
      · rw [show cm_us H5 34 G c = G (c - 34) by unfold cm_us; rw [if_pos (by omega)], hGc (c - 34) (by omega), show 34 + (c - 34) = c by omega, Q5 c hc], by rw [hz]; rfl⟩
  | succ q ih =>
    intro k hk hl9 hwk hz x3 x4
    have hst := ih (k + 1) (by omega)
    refine cm_iload2 (pc := 23) dX0_firstRest_23 ?_
    refine cm_sipush (pc := 24) (v := 200) dX0_firstRest_24 (by decide) ?_
    refine cm_icmp_gt (pc := 27) (tgt := 96) dX0_firstRest_27 (by decide) (fun q => absurd q (show ¬ nI 200 < nI (k + 1) from nI_nlt (by omega) (by omega))) (fun c27 => ?_)
    refine cm_aload0 (pc := 30) dX0_firstRest_30 ?_
    refine cm_getR (pc := 31) flX0_12 dX0_firstRest_31 hX.of hX.rf0 ?_
    refine cm_iconst (pc := 34) (v := 0) dX0_firstRest_34 (by decide) ?_
    refine cm_V1 (pc := 35) mX2_passMinute_v mlX0_26 dX0_firstRest_35 hX.mf.1 (by omega) (Nat.le_of_ble_eq_true rfl) (Nat.le_refl _) (Nat.le_refl _) (k_passMinute (d := d + 1) hX.mf (h0.it k)) (fun r35 h35 hq35 => ?_)
    obtain ⟨rfl, rfl⟩ := hq35
    have hk1 := h0.it (k + 1)
    refine cm_pop (pc := 38) dX0_firstRest_38 rfl ?_
    refine cm_aload0 (pc := 39) dX0_firstRest_39 ?_
    refine cm_getR (pc := 40) flX0_12 dX0_firstRest_40 hX.of hX.rf0 ?_
    refine cm_V0 (pc := 43) mX2_spotsAndWants_v mlX0_61 dX0_firstRest_43 hX.mf.1 (by omega) (Nat.le_of_ble_eq_true rfl) (Nat.le_refl _) (Nat.le_refl _) (k_spotsAndWants (d := d + 4) hX.mf hk1.1.1 hk1.1.2.1) (fun r43 h43 hq43 => ?_)
    obtain ⟨rfl, rfl⟩ := hq43
    rw [show cPack (mPass (mIt g nb ns k).1 nb ns 0).1 nb = cPack (mIt g nb ns (k + 1)).1 nb from rfl]
    refine cm_lstore3 (pc := 46) dX0_firstRest_46 (by decide) rfl ?_
    refine cm_iload2 (pc := 47) dX0_firstRest_47 ?_
    refine cm_bipush (pc := 48) (v := 7) dX0_firstRest_48 (by decide) ?_
    refine cm_icmp_lt (pc := 50) (tgt := 80) dX0_firstRest_50 (by decide) (fun c50 => ?_) (fun c50 => ?_)
    · have h7 : ¬ 7 ≤ k + 1 := fun w => absurd c50 (nI_nlt (a := k + 1) (b := 7) w (by omega))
      have hstep : cRs g nb ns (q + 1) k = cRs g nb ns q (k + 1) := if_neg (fun w => h7 w.1)
      refine cm_aload0 (pc := 80) dX0_firstRest_80 ?_
      refine cm_getR (pc := 81) flX0_22 dX0_firstRest_81 hX.of hX.rf2 ?_
      refine cm_iload2 (pc := 84) dX0_firstRest_84 ?_
      refine cm_bipush (pc := 85) (v := 7) dX0_firstRest_85 (by decide) ?_
      refine cm_irem (pc := 87) dX0_firstRest_87 (by decide) ?_
      rw [rem7 (show k + 1 < 2 ^ 31 by omega)]
      refine cm_lload3 (pc := 88) dX0_firstRest_88 ?_
      refine cm_lasE (pc := 89) ((k + 1) % 7) dX0_firstRest_89 hX.a46 rfl (Nat.mod_lt _ (by decide)) (by decide) ?_
      refine cm_incN2 (pc := 90) dX0_firstRest_90 (by decide) rfl ?_
      refine cm_goto (tgt := 23) (pc := 93) dX0_firstRest_93 (by decide) ?_
      refine hst _ (fun j hj hj2 => ?_) (by rw [hz, hstep]) _ _
      by_cases e : j = k + 1
      · subst e
        simp only [va_up_self]
        exact pk_uLs
      · have hne : j % 7 ≠ (k + 1) % 7 := by omega
        simp only [va_up_self]
        rw [pk_uLn hne]
        exact hwk j (by omega) (by omega)
    · have h7 : 7 ≤ k + 1 := by
        rcases Nat.lt_or_ge (k + 1) 7 with w | w
        · exact absurd (nI_lt (a := k + 1) (b := 7) w (by omega)) c50
        · exact w
      refine cm_aload0 (pc := 53) dX0_firstRest_53 ?_
      refine cm_getR (pc := 54) flX0_22 dX0_firstRest_54 hX.of hX.rf2 ?_
      refine cm_iload2 (pc := 57) dX0_firstRest_57 ?_
      refine cm_bipush (pc := 58) (v := 7) dX0_firstRest_58 (by decide) ?_
      refine cm_irem (pc := 60) dX0_firstRest_60 (by decide) ?_
      rw [rem7 (show k + 1 < 2 ^ 31 by omega)]
      refine cm_lalE (pc := 61) ((k + 1) % 7) dX0_firstRest_61 hX.a46 rfl (Nat.mod_lt _ (by decide)) (by decide) ?_
      rw [show hl9 46 ((k + 1) % 7) = cPack (mIt g nb ns (k + 1 - 7)).1 nb by rw [show (k + 1) % 7 = (k + 1 - 7) % 7 by omega]; exact hwk _ (by omega) (by omega)]
      refine cm_lload3 (pc := 62) dX0_firstRest_62 ?_
      refine cm_lcmp (pc := 63) dX0_firstRest_63 ?_
      refine cm_if_ne (pc := 64) (tgt := 80) dX0_firstRest_64 (by decide) (fun c64 => ?_) (fun c64 => ?_)
      · have hne := fun w => c64 ((lg_cmp_eq _ _).mpr w)
        have hstep : cRs g nb ns (q + 1) k = cRs g nb ns q (k + 1) := if_neg (fun w => hne w.2)
        refine cm_aload0 (pc := 80) dX0_firstRest_80 ?_
        refine cm_getR (pc := 81) flX0_22 dX0_firstRest_81 hX.of hX.rf2 ?_
        refine cm_iload2 (pc := 84) dX0_firstRest_84 ?_
        refine cm_bipush (pc := 85) (v := 7) dX0_firstRest_85 (by decide) ?_
        refine cm_irem (pc := 87) dX0_firstRest_87 (by decide) ?_
        rw [rem7 (show k + 1 < 2 ^ 31 by omega)]
        refine cm_lload3 (pc := 88) dX0_firstRest_88 ?_
        refine cm_lasE (pc := 89) ((k + 1) % 7) dX0_firstRest_89 hX.a46 rfl (Nat.mod_lt _ (by decide)) (by decide) ?_
        refine cm_incN2 (pc := 90) dX0_firstRest_90 (by decide) rfl ?_
        refine cm_goto (tgt := 23) (pc := 93) dX0_firstRest_93 (by decide) ?_
        refine hst _ (fun j hj hj2 => ?_) (by rw [hz, hstep]) _ _
        by_cases e : j = k + 1
        · subst e
          simp only [va_up_self]
          exact pk_uLs
        · have hne : j % 7 ≠ (k + 1) % 7 := by omega
          simp only [va_up_self]
          rw [pk_uLn hne]
          exact hwk j (by omega) (by omega)
      · have heq := (lg_cmp_eq _ _).mp c64
        have hstep : cRs g nb ns (q + 1) k = some (k + 1) := if_pos ⟨h7, heq⟩
        refine cm_aload0 (pc := 67) dX0_firstRest_67 ?_
        refine cm_aload0 (pc := 68) dX0_firstRest_68 ?_
        refine cm_getR (pc := 69) flX0_12 dX0_firstRest_69 hX.of hX.rf0 ?_
        refine cm_V0 (pc := 72) mX2_howManyWant_v mlX0_65 dX0_firstRest_72 hX.mf.1 (by omega) (Nat.le_of_ble_eq_true rfl) (Nat.le_refl _) (Nat.le_refl _) (k_howManyWant (d := d + 4) hX.mf hk1.1.1 hk1.1.2.1) (fun r72 h72 hq72 => ?_)
        obtain ⟨rfl, rfl⟩ := hq72
        refine cm_putI (pc := 75) fpX0_44 dX0_firstRest_75 hX.of ?_
        refine cm_memG (fun G75 e75 f75 => ?_)
        refine cm_iload2 (pc := 78) dX0_firstRest_78 ?_
        refine cm_iret (pc := 79) dX0_firstRest_79 rfl ⟨G75, _, g, rfl, m5, fun c hc => ?_, ?_⟩
        · rw [e75 c (by omega)]
          have hGc : ∀ c, 10 < c → (mIt g nb ns (k + 1)).1 c = H5 (34 + c) := fun c hc => by rw [mItW_c (by omega)]; exact hgc c
          show cm_us H5 34 (mIt g nb ns (k + 1)).1 c = _
          generalize (mIt g nb ns (k + 1)).1 = G at *
          rcases hc with hc | hc
          · rw [cm_us_lt (by omega), P5 c (by omega)]
          · rw [show cm_us H5 34 G c = G (c - 34) by unfold cm_us; rw [if_pos (by omega)], hGc (c - 34) (by omega), show 34 + (c - 34) = c by omega, Q5 c hc]
        · rw [hz, hstep]
          refine ⟨rfl, ?_⟩
          rw [f75]
          simp only [upd, if_true]
          rfl
set_option maxRecDepth 20000 in
theorem k_firstRest (hX : cm_cls sh hr) (h : mOk (cm_sf hi 5) nb ns) : cm_ct D mX0_firstRest (d + 5) 0 0 [.ref 33, .ref 5] (sh, hi, hl, hr) (fun r9 h9 => ∃ H hl9 g, h9 = (sh, H, hl9, hr) ∧ mEq g (cm_sf hi 5) ∧ (∀ c, c < 33 ∨ 44 < c → H c = hi c) ∧ (match cRs g nb ns 200 0 with | none => r9 = some (.int (-9)) | some m => r9 = some (.int (nI m)) ∧ H 33 3 = sumP (fun i => if (mIt g nb ns m).1 7 i = 4 then 0 else 1) nb)) := by
  refine cm_ct_of (ls := [some (.ref 33), some (.ref 5), none, none, none]) 3 (by decide +kernel) rfl rfl ?_
  refine cm_aload0 (pc := 0) dX0_firstRest_0 ?_
  refine cm_getR (pc := 1) flX0_12 dX0_firstRest_1 hX.of hX.rf0 ?_
  refine cm_aload1 (pc := 4) dX0_firstRest_4 ?_
  refine cm_V1 (pc := 5) mX2_take_v mlX0_33 dX0_firstRest_5 hX.mf.1 (by omega) (Nat.le_of_ble_eq_true rfl) (Nat.le_refl _) (Nat.le_refl _) (k_take hX.mf hX.mp (by omega) (d := d + 3)) (fun r5 h5 hq5 => ?_)
  obtain ⟨rfl, H5, rfl, t5⟩ := hq5
  have m5 := t5.eq
  have P5 : ∀ c, c < 34 → H5 c = hi c := fun c hc => t5.1 c (Or.inl hc)
  have Q5 : ∀ c, 44 < c → H5 c = hi c := fun c hc => t5.1 c (Or.inr hc)
  have h0 := h.congr m5
  refine cm_h_eq (show (sh, H5, hl, hr) = (sh, cm_us H5 34 (cm_sf H5 34), hl, hr) by rw [cm_us_sf]) ?_
  have hgc : ∀ c, cm_sf H5 34 c = H5 (34 + c) := fun c => rfl
  generalize hgd : cm_sf H5 34 = g at *
  have hb := h0.1.1
  have hnb := h0.1.2.1
  have hs := h0.1.2.2.1
  have hns := h0.1.2.2.2
  refine cm_aload0 (pc := 8) dX0_firstRest_8 ?_
  refine cm_getR (pc := 9) flX0_22 dX0_firstRest_9 hX.of hX.rf2 ?_
  refine cm_iconst (pc := 12) (v := 0) dX0_firstRest_12 (by decide) ?_
  refine cm_aload0 (pc := 13) dX0_firstRest_13 ?_
  refine cm_getR (pc := 14) flX0_12 dX0_firstRest_14 hX.of hX.rf0 ?_
  refine cm_V0 (pc := 17) mX2_spotsAndWants_v mlX0_61 dX0_firstRest_17 hX.mf.1 (by omega) (Nat.le_of_ble_eq_true rfl) (Nat.le_refl _) (Nat.le_refl _) (k_spotsAndWants (d := d + 4) hX.mf hb hnb) (fun r17 h17 hq17 => ?_)
  obtain ⟨rfl, rfl⟩ := hq17
  refine cm_lasE (pc := 20) (0) dX0_firstRest_20 hX.a46 rfl (by omega) (by decide) ?_
  refine cm_iconst (pc := 21) (v := 1) dX0_firstRest_21 (by decide) ?_
  refine cm_istore2 (pc := 22) dX0_firstRest_22 (by decide) rfl ?_
  refine l_fr hX m5 P5 Q5 h0 hgc 200 0 (by omega) _ (fun j hj _ => ?_) rfl _ _
  have hj0 : j = 0 := by omega
  subst hj0
  simp only [va_up_self]
  exact pk_uLs
end FO2
