/-! PART orders: Forecast: the next order by numbers -/
def oG (o : List Nat) (i : Nat) : Nat := o.getD i 0
def oRise (o : List Nat) : Nat → Option Nat
  | 0 => none
  | p + 1 => if oG o (p + 1) < oG o p then oRise o p else some p
def oAb (o : List Nat) (r : Nat) : Nat → Nat
  | 0 => 0
  | a + 1 => if r < a + 1 ∧ oG o (a + 1) < oG o r then oAb o r a else a + 1
def oSw (o : List Nat) (i j : Nat) : List Nat := (o.set i (oG o j)).set j (oG o i)
def oRev : Nat → List Nat → Nat → Nat → List Nat
  | 0, o, _, _ => o
  | f + 1, o, i, j => if i < j then oRev f (oSw o i j) (i + 1) (j - 1) else o
def oNext (o : List Nat) (n : Nat) : Option (List Nat) := match oRise o (n - 1) with
  | none => none
  | some r => some (oRev n (oSw o r (oAb o r (n - 1))) (r + 1) (n - 1))
def oOk (H : cm_g2) (o : List Nat) (nb : Nat) : Prop := o.length = nb ∧ ∀ i, i < nb → oG o i < nb ∧ H 45 i = nI (oG o i)
theorem oG_set {o : List Nat} {i j v : Nat} (hi : i < o.length) : oG (o.set i v) j = if j = i then v else oG o j := by
  unfold oG
  rw [List.getD_eq_getElem?_getD, List.getD_eq_getElem?_getD]
  by_cases e : j = i
  · subst e
    rw [List.getElem?_set_self hi, if_pos rfl]
    rfl
  · rw [List.getElem?_set_ne (Ne.symm e), if_neg e]
theorem oSw_len {o : List Nat} {i j : Nat} : (oSw o i j).length = o.length := by unfold oSw; rw [List.length_set, List.length_set]
theorem oG_sw {o : List Nat} {i j x : Nat} (hi : i < o.length) (hj : j < o.length) : oG (oSw o i j) x = if x = j then oG o i else if x = i then oG o j else oG o x := by
  unfold oSw
  rw [oG_set (by rw [List.length_set]; exact hj), oG_set hi]
theorem oOk.sw {W H : cm_g2} {o : List Nat} {nb i j : Nat} (h : oOk W o nb) (hi : i < nb) (hj : j < nb) (hH : ∀ x, x < nb → H 45 x = if x = j then W 45 i else if x = i then W 45 j else W 45 x) : oOk H (oSw o i j) nb := by
  refine ⟨by rw [oSw_len]; exact h.1, fun x hx => ?_⟩
  rw [oG_sw (by rw [h.1]; exact hi) (by rw [h.1]; exact hj), hH x hx]
  split
  · exact h.2 i hi
  · split
    · exact h.2 j hj
    · exact h.2 x hx
theorem oRise_lt {o : List Nat} : ∀ {p r : Nat}, oRise o p = some r → r < p
  | 0, r, h => by cases h
  | p + 1, r, h => by
    unfold oRise at h
    split at h
    · have := oRise_lt h; omega
    · cases h; omega
theorem oAb_le {o : List Nat} {r : Nat} : ∀ {a : Nat}, oAb o r a ≤ a ∧ (r ≤ a → r ≤ oAb o r a)
  | 0 => ⟨Nat.le_refl _, fun h => h⟩
  | a + 1 => by
    unfold oAb
    split
    · next q => have := oAb_le (o := o) (r := r) (a := a); exact ⟨by omega, fun _ => this.2 (by omega)⟩
    · exact ⟨Nat.le_refl _, fun h => h⟩
theorem isub2 (m : Nat) : nI (m + 1) - 2 = nI m - 1 := by
  rw [← nI_1, Int32.sub_eq_add_neg, Int32.sub_eq_add_neg, Int32.add_assoc]
  rfl
section OR
variable {D : cm_D} {d : Nat} {sh : List cm_Sh} {hi g H5 : cm_g2} {hl : Nat → Nat → Int64} {hr : Nat → Nat → Option Nat} {nb ns : Nat} {o : List Nat}
set_option maxRecDepth 20000 in
theorem k_swap (hX : cm_cls sh hr) {i j : Nat} (hi6 : i < 6) (hj6 : j < 6) : cm_ct D mX0_swap d 0 0 [.ref 33, .int (nI i), .int (nI j)] (sh, hi, hl, hr) (fun r9 h9 => r9 = none ∧ ∃ H, h9 = (sh, H, hl, hr) ∧ (∀ c, c ≠ 45 → H c = hi c) ∧ ∀ x, x < 6 → H 45 x = if x = j then hi 45 i else if x = i then hi 45 j else hi 45 x) := by
  refine cm_ct_of (ls := [some (.ref 33), some (.int (nI i)), some (.int (nI j)), none]) 1 (by decide +kernel) rfl rfl ?_
  refine cm_aload0 (pc := 0) dX0_swap_0 ?_
  refine cm_getR (pc := 1) flX0_18 dX0_swap_1 hX.of hX.rf1 ?_
  refine cm_iload1 (pc := 4) dX0_swap_4 ?_
  refine cm_ialN (pc := 5) dX0_swap_5 hX.a45 (by omega) (by decide) ?_
  refine cm_istore3 (pc := 6) dX0_swap_6 (by decide) rfl ?_
  refine cm_aload0 (pc := 7) dX0_swap_7 ?_
  refine cm_getR (pc := 8) flX0_18 dX0_swap_8 hX.of hX.rf1 ?_
  refine cm_iload1 (pc := 11) dX0_swap_11 ?_
  refine cm_aload0 (pc := 12) dX0_swap_12 ?_
  refine cm_getR (pc := 13) flX0_18 dX0_swap_13 hX.of hX.rf1 ?_
  refine cm_iload2 (pc := 16) dX0_swap_16 ?_
  refine cm_ialN (pc := 17) dX0_swap_17 hX.a45 (by omega) (by decide) ?_
  refine cm_iasN (pc := 18) dX0_swap_18 hX.a45 (by omega) (by decide) ?_
  refine cm_memG (fun G18 e18 f18 => ?_)
  refine cm_aload0 (pc := 19) dX0_swap_19 ?_
  refine cm_getR (pc := 20) flX0_18 dX0_swap_20 hX.of hX.rf1 ?_
  refine cm_iload2 (pc := 23) dX0_swap_23 ?_
  refine cm_iload3 (pc := 24) dX0_swap_24 ?_
  refine cm_iasN (pc := 25) dX0_swap_25 hX.a45 (by omega) (by decide) ?_
  refine cm_memG (fun G25 e25 f25 => ?_)
  exact cm_vret (pc := 26) dX0_swap_26 rfl ⟨rfl, G25, rfl, fun c hc => by rw [e25 c hc, e18 c hc], fun x hx => by rw [f25, f18]; simp only [upd]⟩
set_option maxRecDepth 20000 in
theorem l_rev (hX : cm_cls sh hr) {y2 y3 : Int32} {Z : List Nat} (hnb : nb ≤ 6) : ∀ (f i j : Nat) (o : List Nat) (W : cm_g2), j < i + 1 + f → i < nb + 1 → j < nb → (∀ c, c ≠ 45 → W c = hi c) → oOk W o nb → Z = oRev f o i j → cm_g D mX0_nextOrder (d + 2) 0 0 (fun r9 h9 => r9 = some (.int (cm_bi true)) ∧ ∃ H, h9 = (sh, H, hl, hr) ∧ (∀ c, c ≠ 45 → H c = hi c) ∧ oOk H Z nb) 0 0 83 [some (.ref 33), some (.int (nI nb)), some (.int y2), some (.int y3), some (.int (nI i)), some (.int (nI j))] [] (sh, W, hl, hr) := by
  intro f
  induction f with
  | zero =>
    intro i j o W hf hi1 hj1 hW hoW hZ
    refine cm_iload4 (pc := 83) dX0_nextOrder_83 ?_
    refine cm_iload5 (pc := 85) dX0_nextOrder_85 ?_
    refine cm_geN (pc := 87) (tgt := 107) dX0_nextOrder_87 (by decide) (by omega) (by omega) (fun c87 => ?_) (fun c87 => ?_)
    · refine cm_iconst (pc := 107) (v := 1) dX0_nextOrder_107 (by decide) ?_
      exact cm_zret (pc := 108) dX0_nextOrder_108 rfl rfl ⟨rfl, W, rfl, hW, by rw [hZ]; exact hoW⟩
    · exact absurd c87 (by omega)
  | succ f ih =>
    intro i j o W hf hi1 hj1 hW hoW hZ
    refine cm_iload4 (pc := 83) dX0_nextOrder_83 ?_
    refine cm_iload5 (pc := 85) dX0_nextOrder_85 ?_
    refine cm_geN (pc := 87) (tgt := 107) dX0_nextOrder_87 (by decide) (by omega) (by omega) (fun c87 => ?_) (fun c87 => ?_)
    · have hZ : Z = o := by rw [hZ]; unfold oRev; rw [if_neg (by omega)]
      refine cm_iconst (pc := 107) (v := 1) dX0_nextOrder_107 (by decide) ?_
      exact cm_zret (pc := 108) dX0_nextOrder_108 rfl rfl ⟨rfl, W, rfl, hW, by rw [hZ]; exact hoW⟩
    · have hZ : Z = oRev f (oSw o i j) (i + 1) (j - 1) := by rw [hZ]; exact if_pos c87
      refine cm_aload0 (pc := 90) dX0_nextOrder_90 ?_
      refine cm_iload4 (pc := 91) dX0_nextOrder_91 ?_
      refine cm_iload5 (pc := 93) dX0_nextOrder_93 ?_
      refine cm_V2 (pc := 95) mX0_swap_v mlX0_100 dX0_nextOrder_95 hX.of (by omega) (Nat.le_of_ble_eq_true rfl) (Nat.le_refl _) (Nat.le_refl _) (k_swap (d := d + 1) hX (i := i) (j := j) (by omega) (by omega)) (fun r95 h95 hq95 => ?_)
      obtain ⟨rfl, H95, rfl, t95, u95⟩ := hq95
      refine cm_incN4 (pc := 98) dX0_nextOrder_98 (by decide) rfl ?_
      refine cm_iinc5 (pc := 101) (-1) dX0_nextOrder_101 rfl (by decide) rfl ?_
      refine cm_goto (pc := 104) (tgt := 83) dX0_nextOrder_104 (by decide) ?_
      rw [show nI j + -1 = nI (j - 1) by
        have := pk_m1 (j - 1)
        rw [show j - 1 + 1 = j by omega] at this
        exact this]
      exact ih (i + 1) (j - 1) (oSw o i j) H95 (by omega) (by omega) (by omega) (fun c hc => by rw [t95 c hc, hW c hc]) (hoW.sw (by omega) (by omega) (fun x hx => u95 x (by omega))) hZ
set_option maxRecDepth 20000 in
theorem l_ab (hX : cm_cls sh hr) {Q : Option Value → cm_H → Prop} (ho : oOk hi o nb) (h0 : 0 < nb) (hnb : nb ≤ 6) {r : Nat} (hr1 : r < nb) (kk : (∀ x4 x5 : Option Value, cm_g D mX0_nextOrder (d + 2) 0 0 (Q) 0 0 67 [some (.ref 33), some (.int (nI nb)), some (.int (nI r)), some (.int (nI (oAb o r (nb - 1)))), x4, x5] [] (sh, hi, hl, hr))) : ∀ a : Nat, r ≤ a → a < nb → oAb o r (nb - 1) = oAb o r a → ∀ x4 x5 : Option Value, cm_g D mX0_nextOrder (d + 2) 0 0 (Q) 0 0 41 [some (.ref 33), some (.int (nI nb)), some (.int (nI r)), some (.int (nI a)), x4, x5] [] (sh, hi, hl, hr) := by
  intro a
  induction a with
  | zero =>
    intro hra ha he x4 x5
    have hr0 : r = 0 := by omega
    refine cm_iload3 (pc := 41) dX0_nextOrder_41 ?_
    refine cm_iload2 (pc := 42) dX0_nextOrder_42 ?_
    refine cm_leN (pc := 43) (tgt := 67) dX0_nextOrder_43 (by decide) (by omega) (by omega) (fun c43 => ?_) (fun c43 => ?_)
    · rw [he] at kk
      exact kk x4 x5
    · exact absurd c43 (by omega)
  | succ a ih =>
    intro hra ha he x4 x5
    refine cm_iload3 (pc := 41) dX0_nextOrder_41 ?_
    refine cm_iload2 (pc := 42) dX0_nextOrder_42 ?_
    refine cm_leN (pc := 43) (tgt := 67) dX0_nextOrder_43 (by decide) (by omega) (by omega) (fun c43 => ?_) (fun c43 => ?_)
    · rw [show oAb o r (a + 1) = a + 1 from if_neg (by omega)] at he
      rw [he] at kk
      exact kk x4 x5
    · refine cm_aload0 (pc := 46) dX0_nextOrder_46 ?_
      refine cm_getR (pc := 47) flX0_18 dX0_nextOrder_47 hX.of hX.rf1 ?_
      refine cm_iload3 (pc := 50) dX0_nextOrder_50 ?_
      refine cm_ialN (pc := 51) dX0_nextOrder_51 hX.a45 (by omega) (by decide) ?_
      rw [(ho.2 (a + 1) ha).2]
      refine cm_aload0 (pc := 52) dX0_nextOrder_52 ?_
      refine cm_getR (pc := 53) flX0_18 dX0_nextOrder_53 hX.of hX.rf1 ?_
      refine cm_iload2 (pc := 56) dX0_nextOrder_56 ?_
      refine cm_ialN (pc := 57) dX0_nextOrder_57 hX.a45 (by omega) (by decide) ?_
      rw [(ho.2 r hr1).2]
      refine cm_geN (pc := 58) (tgt := 67) dX0_nextOrder_58 (by decide) (by have := (ho.2 (a + 1) ha).1; omega) (by have := (ho.2 r hr1).1; omega) (fun c58 => ?_) (fun c58 => ?_)
      · rw [show oAb o r (a + 1) = a + 1 from if_neg (by omega)] at he
        rw [he] at kk
        exact kk x4 x5
      · refine cm_iinc3 (pc := 61) (-1) dX0_nextOrder_61 rfl (by decide) rfl ?_
        refine cm_goto (pc := 64) (tgt := 41) dX0_nextOrder_64 (by decide) ?_
        rw [show nI (a + 1) + -1 = nI a from pk_m1 a]
        exact ih (by omega) (by omega) (by rw [he, show oAb o r (a + 1) = oAb o r a from if_pos ⟨by omega, c58⟩]) x4 x5
set_option maxRecDepth 20000 in
theorem l_ri (hX : cm_cls sh hr) {Q : Option Value → cm_H → Prop} (ho : oOk hi o nb) (h0 : 0 < nb) (hnb : nb ≤ 6) (kk : ∀ r, oRise o (nb - 1) = some r → ∀ x3 x4 x5 : Option Value, cm_g D mX0_nextOrder (d + 2) 0 0 (Q) 0 0 37 [some (.ref 33), some (.int (nI nb)), some (.int (nI r)), x3, x4, x5] [] (sh, hi, hl, hr)) (kn : oRise o (nb - 1) = none → Q (some (.int (cm_bi false))) (sh, hi, hl, hr)) : ∀ p : Nat, p < nb → oRise o (nb - 1) = oRise o p → ∀ x3 x4 x5 : Option Value, cm_g D mX0_nextOrder (d + 2) 0 0 (Q) 0 0 4 [some (.ref 33), some (.int (nI nb)), some (.int (nI p - 1)), x3, x4, x5] [] (sh, hi, hl, hr) := by
  intro p
  induction p with
  | zero =>
    intro hp he x3 x4 x5
    refine cm_iload2 (pc := 4) dX0_nextOrder_4 ?_
    refine cm_if_lt (pc := 5) (tgt := 31) dX0_nextOrder_5 (by decide) (fun c5 => ?_) (fun q => absurd (show nI 0 - 1 < 0 by decide) q)
    refine cm_iload2 (pc := 31) dX0_nextOrder_31 ?_
    refine cm_if_ge (pc := 32) (tgt := 37) dX0_nextOrder_32 (by decide) (fun q => absurd q (show ¬ 0 ≤ nI 0 - 1 by decide)) (fun c32 => ?_)
    refine cm_iconst (pc := 35) (v := 0) dX0_nextOrder_35 (by decide) ?_
    exact cm_zret (pc := 36) dX0_nextOrder_36 rfl rfl (kn he)
  | succ p ih =>
    intro hp he x3 x4 x5
    rw [nI_pred]
    refine cm_iload2 (pc := 4) dX0_nextOrder_4 ?_
    refine cm_if_lt (pc := 5) (tgt := 31) dX0_nextOrder_5 (by decide) (fun q => absurd q (nI_pos (show p < 2 ^ 31 by omega))) (fun c5 => ?_)
    refine cm_aload0 (pc := 8) dX0_nextOrder_8 ?_
    refine cm_getR (pc := 9) flX0_18 dX0_nextOrder_9 hX.of hX.rf1 ?_
    refine cm_iload2 (pc := 12) dX0_nextOrder_12 ?_
    refine cm_ialN (pc := 13) dX0_nextOrder_13 hX.a45 (by omega) (by decide) ?_
    rw [(ho.2 p (by omega)).2]
    refine cm_aload0 (pc := 14) dX0_nextOrder_14 ?_
    refine cm_getR (pc := 15) flX0_18 dX0_nextOrder_15 hX.of hX.rf1 ?_
    refine cm_iload2 (pc := 18) dX0_nextOrder_18 ?_
    refine cm_iconst (pc := 19) (v := 1) dX0_nextOrder_19 (by decide) ?_
    refine cm_iadd (pc := 20) dX0_nextOrder_20 ?_
    rw [nI_1]
    refine cm_ialN (pc := 21) dX0_nextOrder_21 hX.a45 (by omega) (by decide) ?_
    rw [(ho.2 (p + 1) (by omega)).2]
    refine cm_leN (pc := 22) (tgt := 31) dX0_nextOrder_22 (by decide) (by have := (ho.2 p (by omega)).1; omega) (by have := (ho.2 (p + 1) (by omega)).1; omega) (fun c22 => ?_) (fun c22 => ?_)
    · refine cm_iload2 (pc := 31) dX0_nextOrder_31 ?_
      refine cm_if_ge (pc := 32) (tgt := 37) dX0_nextOrder_32 (by decide) (fun c32 => ?_) (fun q => absurd (nI_pos' (show p < 2 ^ 31 by omega)) q)
      exact kk p (by rw [he]; exact if_neg (by omega)) x3 x4 x5
    · refine cm_iinc2 (pc := 25) (-1) dX0_nextOrder_25 rfl (by decide) rfl ?_
      refine cm_goto (pc := 28) (tgt := 4) dX0_nextOrder_28 (by decide) ?_
      rw [show nI p + -1 = nI p - 1 from (Int32.sub_eq_add_neg _ _).symm]
      exact ih (by omega) (by rw [he]; exact if_pos c22) x3 x4 x5
set_option maxRecDepth 20000 in
theorem k_nextOrder (hX : cm_cls sh hr) (ho : oOk hi o nb) (h0 : 0 < nb) (hnb : nb ≤ 6) : cm_ct D mX0_nextOrder (d + 2) 0 0 [.ref 33, .int (nI nb)] (sh, hi, hl, hr) (fun r9 h9 => match oNext o nb with | none => r9 = some (.int (cm_bi false)) ∧ h9 = (sh, hi, hl, hr) | some o1 => r9 = some (.int (cm_bi true)) ∧ ∃ H, h9 = (sh, H, hl, hr) ∧ (∀ c, c ≠ 45 → H c = hi c) ∧ oOk H o1 nb) := by
  refine cm_ct_of (ls := [some (.ref 33), some (.int (nI nb)), none, none, none, none]) 4 (by decide +kernel) rfl rfl ?_
  refine cm_iload1 (pc := 0) dX0_nextOrder_0 ?_
  refine cm_iconst (pc := 1) (v := 2) dX0_nextOrder_1 (by decide) ?_
  refine cm_isub (pc := 2) dX0_nextOrder_2 ?_
  rw [show nI nb - 2 = nI (nb - 1) - 1 by
    have := isub2 (nb - 1)
    rw [show nb - 1 + 1 = nb by omega] at this
    exact this]
  refine cm_istore2 (pc := 3) dX0_nextOrder_3 (by decide) rfl ?_
  refine l_ri hX ho h0 hnb (fun r hrr x3 x4 x5 => ?_) (fun hn => by unfold oNext; rw [hn]; exact ⟨rfl, rfl⟩) (nb - 1) (by omega) rfl _ _ _
  have hr1 := oRise_lt hrr
  refine cm_iload1 (pc := 37) dX0_nextOrder_37 ?_
  refine cm_iconst (pc := 38) (v := 1) dX0_nextOrder_38 (by decide) ?_
  refine cm_isub (pc := 39) dX0_nextOrder_39 ?_
  rw [show nI nb - 1 = nI (nb - 1) from pk_sub (b := 1) (by omega)]
  refine cm_istore3 (pc := 40) dX0_nextOrder_40 (by decide) rfl ?_
  refine l_ab hX ho h0 hnb (by omega) (fun x4 x5 => ?_) (nb - 1) (by omega) (by omega) rfl x4 x5
  have hab := oAb_le (o := o) (r := r) (a := nb - 1)
  generalize hA : oAb o r (nb - 1) = ab at *
  refine cm_aload0 (pc := 67) dX0_nextOrder_67 ?_
  refine cm_iload2 (pc := 68) dX0_nextOrder_68 ?_
  refine cm_iload3 (pc := 69) dX0_nextOrder_69 ?_
  refine cm_V2 (pc := 70) mX0_swap_v mlX0_100 dX0_nextOrder_70 hX.of (by omega) (Nat.le_of_ble_eq_true rfl) (Nat.le_refl _) (Nat.le_refl _) (k_swap (d := d + 1) hX (i := r) (j := ab) (by omega) (by omega)) (fun r70 h70 hq70 => ?_)
  obtain ⟨rfl, H70, rfl, t70, u70⟩ := hq70
  refine cm_iload2 (pc := 73) dX0_nextOrder_73 ?_
  refine cm_iconst (pc := 74) (v := 1) dX0_nextOrder_74 (by decide) ?_
  refine cm_iadd (pc := 75) dX0_nextOrder_75 ?_
  rw [nI_1]
  refine cm_istore4 (pc := 76) dX0_nextOrder_76 (by decide) rfl ?_
  refine cm_iload1 (pc := 78) dX0_nextOrder_78 ?_
  refine cm_iconst (pc := 79) (v := 1) dX0_nextOrder_79 (by decide) ?_
  refine cm_isub (pc := 80) dX0_nextOrder_80 ?_
  rw [show nI nb - 1 = nI (nb - 1) from pk_sub (b := 1) (by omega)]
  refine cm_istore5 (pc := 81) dX0_nextOrder_81 (by decide) rfl ?_
  have k9 := l_rev (D := D) (d := d) (sh := sh) (hi := H70) (hl := hl) (hr := hr) hX (y2 := nI r) (y3 := nI ab) hnb nb (r + 1) (nb - 1) (oSw o r ab) H70 (by omega) (by omega) (by omega) (fun _ _ => rfl) (ho.sw (by omega) (by omega) (fun x hx => u70 x (by omega))) rfl
  refine cm_g_imp (fun r9 h9 q => ?_) k9
  obtain ⟨q1, H, q2, q3, q4⟩ := q
  unfold oNext
  rw [hrr]
  simp only
  rw [hA]
  exact ⟨q1, H, q2, fun c hc => by rw [q3 c hc, t70 c hc], q4⟩
set_option maxRecDepth 20000 in
theorem l_shw (hX : cm_cls sh hr) (ho : oOk hi o nb) (hb : hi 5 3 = nI nb) (hnb : nb ≤ 6) : ∀ q k : Nat, k + q = nb → ∀ W : cm_g2, ((∀ c, c ≠ 41 → W c = hi c) ∧ ∀ x, W 41 x = if x < k then hi 12 (oG o x) else hi 41 x) → cm_g D mX0_shareWants d 0 0 (fun r9 h9 => r9 = none ∧ ∃ H, h9 = (sh, H, hl, hr) ∧ (∀ c, c ≠ 41 → H c = hi c) ∧ ∀ x, H 41 x = if x < nb then hi 12 (oG o x) else hi 41 x) 0 0 2 [some (.ref 33), some (.ref 5), some (.int (nI k))] [] (sh, W, hl, hr) := by
  intro q
  induction q with
  | zero =>
    intro k hk W hW
    have h1 : k = nb := by omega
    subst h1
    refine cm_iload2 (pc := 2) dX0_shareWants_2 ?_
    refine cm_aload1 (pc := 3) dX0_shareWants_3 ?_
    refine cm_getI (pc := 4) flX0_68 dX0_shareWants_4 hX.mp.1 ?_
    refine cm_top_eq (show W 5 3 = nI k by rw [hW.1 5 (by decide)]; exact hb) ?_
    refine cm_geN (pc := 7) (tgt := 36) dX0_shareWants_7 (by decide) (by omega) (by omega) (fun c7 => ?_) (fun c7 => ?_)
    · exact cm_vret (pc := 36) dX0_shareWants_36 rfl ⟨rfl, W, rfl, hW⟩
    · exact absurd c7 (by omega)
  | succ q ih =>
    intro k hk W hW
    have hst := ih (k + 1) (by omega)
    have hok := ho.2 k (by omega)
    refine cm_iload2 (pc := 2) dX0_shareWants_2 ?_
    refine cm_aload1 (pc := 3) dX0_shareWants_3 ?_
    refine cm_getI (pc := 4) flX0_68 dX0_shareWants_4 hX.mp.1 ?_
    refine cm_top_eq (show W 5 3 = nI nb by rw [hW.1 5 (by decide)]; exact hb) ?_
    refine cm_geN (pc := 7) (tgt := 36) dX0_shareWants_7 (by decide) (by omega) (by omega) (fun c7 => ?_) (fun c7 => ?_)
    · exact absurd c7 (by omega)
    · refine cm_aload0 (pc := 10) dX0_shareWants_10 ?_
      refine cm_getR (pc := 11) flX0_12 dX0_shareWants_11 hX.of hX.rf0 ?_
      refine cm_getR (pc := 14) flX0_30 dX0_shareWants_14 hX.mf.1 hX.mf.r10 ?_
      refine cm_iload2 (pc := 17) dX0_shareWants_17 ?_
      refine cm_aload1 (pc := 18) dX0_shareWants_18 ?_
      refine cm_getR (pc := 19) flX0_30 dX0_shareWants_19 hX.mp.1 hX.mp.r10 ?_
      refine cm_aload0 (pc := 22) dX0_shareWants_22 ?_
      refine cm_getR (pc := 23) flX0_18 dX0_shareWants_23 hX.of hX.rf1 ?_
      refine cm_iload2 (pc := 26) dX0_shareWants_26 ?_
      refine cm_ialN (pc := 27) dX0_shareWants_27 hX.a45 (by omega) (by decide) ?_
      rw [show W 45 k = nI (oG o k) by rw [hW.1 45 (by decide)]; exact hok.2]
      refine cm_ialN (pc := 28) dX0_shareWants_28 hX.mp.a7 (by omega) (by decide) ?_
      rw [show W 12 (oG o k) = hi 12 (oG o k) by rw [hW.1 12 (by decide)]]
      refine cm_iasN (pc := 29) dX0_shareWants_29 hX.mf.a7 (by omega) (by decide) ?_
      refine cm_memG (fun G29 e29 f29 => ?_)
      refine cm_incN2 (pc := 30) dX0_shareWants_30 (by decide) rfl ?_
      refine cm_goto (pc := 33) (tgt := 2) dX0_shareWants_33 (by decide) ?_
      refine hst G29 ⟨fun c hc => by rw [e29 c hc, hW.1 c hc], fun x => ?_⟩
      rw [f29]
      unfold upd
      by_cases e : x = k
      · subst e; rw [if_pos rfl, if_pos (by omega)]
      · rw [if_neg e, hW.2 x]
        by_cases q2 : x < k
        · rw [if_pos q2, if_pos (by omega)]
        · rw [if_neg q2, if_neg (by omega)]
set_option maxRecDepth 20000 in
theorem k_shareWants (hX : cm_cls sh hr) (ho : oOk hi o nb) (hb : hi 5 3 = nI nb) (hnb : nb ≤ 6) : cm_ct D mX0_shareWants d 0 0 [.ref 33, .ref 5] (sh, hi, hl, hr) (fun r9 h9 => r9 = none ∧ ∃ H, h9 = (sh, H, hl, hr) ∧ (∀ c, c ≠ 41 → H c = hi c) ∧ ∀ x, H 41 x = if x < nb then hi 12 (oG o x) else hi 41 x) := by
  refine cm_ct_of (ls := [some (.ref 33), some (.ref 5), none]) 1 (by decide +kernel) rfl rfl ?_
  refine cm_iconst (pc := 0) (v := 0) dX0_shareWants_0 (by decide) ?_
  refine cm_istore2 (pc := 1) dX0_shareWants_1 (by decide) rfl ?_
  exact l_shw hX ho hb hnb nb 0 (by omega) hi ⟨fun _ _ => rfl, fun x => by rw [if_neg (Nat.not_lt_zero _)]⟩
set_option maxRecDepth 20000 in
theorem l_lay (hX : cm_cls sh hr) {s : Nat} (ho : oOk hi o nb) (hnb : nb ≤ 6) (hS : cm_str sh hr s 40) (hs9 : 60 < s) (hz : hi s 1 = nI nb) : ∀ q k : Nat, k + q = nb → ∀ W : cm_g2, ((∀ c, c ≠ s → c ≠ s + 1 → W c = hi c) ∧ W s 1 = nI nb ∧ ∀ x, x < k → W (s + 1) x = nI (oG o x)) → cm_g D mX0_layOrder (d + 4) 0 0 (fun r9 h9 => r9 = none ∧ ∃ H, h9 = (sh, H, hl, hr) ∧ (∀ c, c ≠ s → c ≠ s + 1 → H c = hi c) ∧ H s 1 = nI nb ∧ ∀ x, x < nb → H (s + 1) x = nI (oG o x)) 0 0 2 [some (.ref 33), some (.ref s), some (.int (nI k))] [] (sh, W, hl, hr) := by
  intro q
  induction q with
  | zero =>
    intro k hk W hW
    have h1 : k = nb := by omega
    subst h1
    refine cm_iload2 (pc := 2) dX0_layOrder_2 ?_
    refine cm_aload1 (pc := 3) dX0_layOrder_3 ?_
    refine cm_V0 (pc := 4) mX4_size_v mlX0_97 dX0_layOrder_4 hS.1 (by omega) (Nat.le_of_ble_eq_true rfl) (Nat.le_refl _) (Nat.le_refl _) (k_size (d := d + 3) hS) (fun r4 h4 hq4 => ?_)
    obtain ⟨rfl, rfl⟩ := hq4
    rw [hW.2.1]
    refine cm_geN (pc := 7) (tgt := 28) dX0_layOrder_7 (by decide) (by omega) (by omega) (fun c7 => ?_) (fun c7 => ?_)
    · exact cm_vret (pc := 28) dX0_layOrder_28 rfl ⟨rfl, W, rfl, hW⟩
    · exact absurd c7 (by omega)
  | succ q ih =>
    intro k hk W hW
    have hst := ih (k + 1) (by omega)
    have hok := ho.2 k (by omega)
    refine cm_iload2 (pc := 2) dX0_layOrder_2 ?_
    refine cm_aload1 (pc := 3) dX0_layOrder_3 ?_
    refine cm_V0 (pc := 4) mX4_size_v mlX0_97 dX0_layOrder_4 hS.1 (by omega) (Nat.le_of_ble_eq_true rfl) (Nat.le_refl _) (Nat.le_refl _) (k_size (d := d + 3) hS) (fun r4 h4 hq4 => ?_)
    obtain ⟨rfl, rfl⟩ := hq4
    rw [hW.2.1]
    refine cm_geN (pc := 7) (tgt := 28) dX0_layOrder_7 (by decide) (by omega) (by omega) (fun c7 => ?_) (fun c7 => ?_)
    · exact absurd c7 (by omega)
    · refine cm_aload1 (pc := 10) dX0_layOrder_10 ?_
      refine cm_iload2 (pc := 11) dX0_layOrder_11 ?_
      refine cm_aload0 (pc := 12) dX0_layOrder_12 ?_
      refine cm_getR (pc := 13) flX0_18 dX0_layOrder_13 hX.of hX.rf1 ?_
      refine cm_iload2 (pc := 16) dX0_layOrder_16 ?_
      refine cm_ialN (pc := 17) dX0_layOrder_17 hX.a45 (by omega) (by decide) ?_
      rw [show W 45 k = nI (oG o k) by rw [hW.1 45 (by omega) (by omega)]; exact hok.2]
      refine cm_V2 (pc := 18) mX4_exchange_v mlX0_77 dX0_layOrder_18 hS.1 (by omega) (Nat.le_of_ble_eq_true rfl) (Nat.le_refl _) (Nat.le_refl _) (cm_ct_us s (k_exchange (d := d) hS (by decide) (show (W s 1).toInt ≤ _ by rw [hW.2.1, nI_toInt (by omega)]; omega))) (fun r18 h18 hq18 => ?_)
      obtain ⟨rfl, rfl⟩ := hq18
      rw [stPut_in (show cm_sf W s 0 1 = nI nb from hW.2.1) (by omega) (by omega)]
      refine cm_usG (fun G54 e54 f54 => ?_)
      refine cm_pop (pc := 21) dX0_layOrder_21 rfl ?_
      refine cm_incN2 (pc := 22) dX0_layOrder_22 (by decide) rfl ?_
      refine cm_goto (pc := 25) (tgt := 2) dX0_layOrder_25 (by decide) ?_
      refine hst G54 ⟨fun c h1 h2 => ?_, ?_, fun j hj => ?_⟩
      · rcases Nat.lt_or_ge c s with q | q
        · rw [e54 c q, hW.1 c h1 h2]
        · have := f54 (c - s)
          rw [show s + (c - s) = c by omega, va_up_ne _ _ (by omega)] at this
          rw [this]
          show W (s + (c - s)) = _
          rw [show s + (c - s) = c by omega, hW.1 c h1 h2]
      · rw [show G54 s = G54 (s + 0) from rfl, f54 0, va_up_ne _ _ (by decide)]
        exact hW.2.1
      · rw [f54 1, va_up_self]
        unfold upd
        by_cases e : j = k
        · subst e; rw [if_pos rfl]
        · rw [if_neg e]
          exact hW.2.2 j (by omega)
set_option maxRecDepth 20000 in
theorem k_layOrder (hX : cm_cls sh hr) {s : Nat} (ho : oOk hi o nb) (hnb : nb ≤ 6) (hS : cm_str sh hr s 40) (hs9 : 60 < s) (hz : hi s 1 = nI nb) : cm_ct D mX0_layOrder (d + 4) 0 0 [.ref 33, .ref s] (sh, hi, hl, hr) (fun r9 h9 => r9 = none ∧ ∃ H, h9 = (sh, H, hl, hr) ∧ (∀ c, c ≠ s → c ≠ s + 1 → H c = hi c) ∧ H s 1 = nI nb ∧ ∀ x, x < nb → H (s + 1) x = nI (oG o x)) := by
  refine cm_ct_of (ls := [some (.ref 33), some (.ref s), none]) 1 (by decide +kernel) rfl rfl ?_
  refine cm_iconst (pc := 0) (v := 0) dX0_layOrder_0 (by decide) ?_
  refine cm_istore2 (pc := 1) dX0_layOrder_1 (by decide) rfl ?_
  exact l_lay hX ho hnb hS hs9 hz nb 0 (by omega) hi ⟨fun _ _ _ => rfl, hz, fun x hx => absurd hx (Nat.not_lt_zero _)⟩
end OR
