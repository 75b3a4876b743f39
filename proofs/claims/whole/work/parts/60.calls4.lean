/-! PART calls4: the class's calls: what is told -/
def cGcd : Nat → Int64 → Int64 → Int64
  | 0, a, _ => a
  | q + 1, a, b => if b = 0 then a else cGcd q b (a - a / b * b)
def cCd (a b : Int64) : Int64 := if 1 < cGcd 100 a b then cGcd 100 a b else 1
theorem cCd_ne {a b : Int64} : ¬ cCd a b = 0 := by
  unfold cCd
  split
  · next h => intro w; rw [w] at h; exact absurd h (by decide)
  · decide
def cUp (hi : cm_g2) (nb ns : Nat) : Int64 := if (sumP (hi 8) ns).toInt64 = 0 then 0 else (sumP (hi 13) nb).toInt64 / cCd (sumP (hi 8) ns).toInt64 (sumP (hi 13) nb).toInt64
def cLow (hi : cm_g2) (nb ns : Nat) : Int64 := if (sumP (hi 8) ns).toInt64 = 0 then 1 else (sumP (hi 8) ns).toInt64 / cCd (sumP (hi 8) ns).toInt64 (sumP (hi 13) nb).toInt64
def cThere (hi : cm_g2) (base N : Nat) : Int32 := sumP (fun k => cm_bi (!decide (hi (base + 2 * k) 1 = -1))) N
def cKeptN (hi : cm_g2) : Int32 := sumP (fun k => cm_bi (decide (0 < hi (81 + 11 * k) 3))) 3
def cNum (hi : cm_g2) (nb : Nat) (w : Int32) : Int32 := if w = 0 then hi 5 3 else if w = 1 then hi 5 2 else if w = 2 then hi 5 1 else if w = 3 then sumP (fun i => cm_bi (mOf (cP hi) i 1)) nb else if w = 4 then sumP (fun i => cm_bi (mOf (cP hi) i 2)) nb else if w = 5 then cKeptN hi else if w = 6 then cThere hi 61 6 else if w = 7 then cThere hi 73 4 else sumP (fun i => if hi 12 i = 4 then 0 else 1) nb
def cDs (hi : cm_g2) (s : Nat) (h : Int64) : Int64 := if hi s 1 = -1 then 31 * h + (hi s 1).toInt64 else stDig (hi (s + 1)) (31 * h + (hi s 1).toInt64) (hi s 1).toNatClampNeg
def cDsN (hi : cm_g2) (base : Nat) (h : Int64) : Nat → Int64
  | 0 => h
  | k + 1 => cDs hi (base + 2 * k) (cDsN hi base h k)
def cDk (hi : cm_g2) (h : Int64) : Nat → Int64
  | 0 => h
  | k + 1 => 31 * cDk hi h k + (if 0 < hi (81 + 11 * k) 3 then hi (81 + 11 * k) 1 else -1).toInt64
def cDig (hi : cm_g2) (nb ns : Nat) : Int64 := cDsN hi 73 (cDsN hi 61 (cDk hi (31 * cDigS (cP hi) (cDigB (cP hi) (31 * cDigF (cNum hi nb) 17 9 + (if hi 5 3 = 0 then 0 else hi 5 0).toInt64) nb) ns + (hi 5 1 - hi 17 1).toInt64) 3) 6) 4
section C4
variable {D : cm_D} {d : Nat} {sh : List cm_Sh} {hi : cm_g2} {hl : Nat → Nat → Int64} {hr : Nat → Nat → Option Nat} {nb ns a b n : Nat}
set_option maxRecDepth 20000 in
theorem l_gcd {h : cm_H} {Z : Int64} : ∀ q k : Nat, k + q = 100 → ∀ a b : Int64, Z = cGcd q a b → ∀ x1 x3 x5 x6 : Option Value, cm_g D mX6_commonDivisor (d + 2) 0 0 (fun r9 h9 => r9 = some (.long (if 1 < Z then Z else 1)) ∧ h9 = h) 0 0 3 [some (.long a), x1, some (.long b), x3, some (.int (nI k)), x5, x6] [] h := by
  intro q
  induction q with
  | zero =>
    intro k hk a b hZ x1 x3 x5 x6
    have h1 : k = 100 := by omega
    subst h1
    refine cm_iload4 (pc := 3) dX6_commonDivisor_3 ?_
    refine cm_bipush (pc := 5) (v := 100) dX6_commonDivisor_5 (by decide) ?_
    refine cm_icmp_ge (pc := 7) (tgt := 32) dX6_commonDivisor_7 (by decide) (fun c7 => ?_) (fun q => absurd (by decide) q)
    refine cm_lload0 (pc := 32) dX6_commonDivisor_32 ?_
    refine cm_lconst (pc := 33) (v := 1) dX6_commonDivisor_33 (by decide) ?_
    refine cm_maxl (pc := 34) mJ9_max_f86c9_s lmX6_331 dX6_commonDivisor_34 (by omega) (Nat.le_of_ble_eq_true rfl) (Nat.le_refl _) (Nat.le_refl _) ?_
    exact cm_lret (pc := 37) dX6_commonDivisor_37 rfl ⟨by rw [hZ]; rfl, rfl⟩
  | succ q ih =>
    intro k hk a b hZ x1 x3 x5 x6
    have hst := ih (k + 1) (by omega)
    refine cm_iload4 (pc := 3) dX6_commonDivisor_3 ?_
    refine cm_bipush (pc := 5) (v := 100) dX6_commonDivisor_5 (by decide) ?_
    refine cm_icmp_ge (pc := 7) (tgt := 32) dX6_commonDivisor_7 (by decide) (fun q => absurd q (nI_ge (a := k) (b := 100) (by omega) (by omega))) (fun c7 => ?_)
    refine cm_lload2 (pc := 10) dX6_commonDivisor_10 ?_
    refine cm_lconst (pc := 11) (v := 0) dX6_commonDivisor_11 (by decide) ?_
    refine cm_lcmp (pc := 12) dX6_commonDivisor_12 ?_
    refine cm_if_eq (pc := 13) (tgt := 32) dX6_commonDivisor_13 (by decide) (fun c13 => ?_) (fun c13 => ?_)
    · have hb0 := (lg_cmp_eq _ _).mp c13
      refine cm_lload0 (pc := 32) dX6_commonDivisor_32 ?_
      refine cm_lconst (pc := 33) (v := 1) dX6_commonDivisor_33 (by decide) ?_
      refine cm_maxl (pc := 34) mJ9_max_f86c9_s lmX6_331 dX6_commonDivisor_34 (by omega) (Nat.le_of_ble_eq_true rfl) (Nat.le_refl _) (Nat.le_refl _) ?_
      exact cm_lret (pc := 37) dX6_commonDivisor_37 rfl ⟨by rw [hZ, show cGcd (q + 1) a b = a from if_pos hb0], rfl⟩
    · have hb0 := fun w => c13 ((lg_cmp_eq b 0).mpr w)
      refine cm_lload0 (pc := 16) dX6_commonDivisor_16 ?_
      refine cm_lload2 (pc := 17) dX6_commonDivisor_17 ?_
      refine cm_lrem (pc := 18) dX6_commonDivisor_18 hb0 ?_
      refine cm_lstore5 (pc := 19) dX6_commonDivisor_19 (by decide) rfl ?_
      refine cm_lload2 (pc := 21) dX6_commonDivisor_21 ?_
      refine cm_lstore0 (pc := 22) dX6_commonDivisor_22 (by decide) ?_
      refine cm_lload5 (pc := 23) dX6_commonDivisor_23 ?_
      refine cm_lstore2 (pc := 25) dX6_commonDivisor_25 (by decide) rfl ?_
      refine cm_incN4 (pc := 26) dX6_commonDivisor_26 (by decide) rfl ?_
      refine cm_goto (pc := 29) (tgt := 3) dX6_commonDivisor_29 (by decide) ?_
      exact hst b (a - a / b * b) (by rw [hZ]; exact if_neg hb0) _ _ _ _
set_option maxRecDepth 20000 in
theorem k_commonDivisor {h : cm_H} {a b : Int64} : cm_ct D mX6_commonDivisor (d + 2) 0 0 [.long a, .long b] h (fun r9 h9 => r9 = some (.long (cCd a b)) ∧ h9 = h) := by
  refine cm_ct_of (ls := [some (.long a), none, some (.long b), none, none, none, none]) 3 (by decide +kernel) rfl rfl ?_
  refine cm_iconst (pc := 0) (v := 0) dX6_commonDivisor_0 (by decide) ?_
  refine cm_istore4 (pc := 1) dX6_commonDivisor_1 (by decide) rfl ?_
  exact l_gcd 100 0 (by omega) _ _ rfl _ _ _ _
set_option maxRecDepth 20000 in
theorem l_hmt {A base N L : Nat} (hA : cm_ar sh A 2 N) (hN : N < 2147483648) (hall : ∀ k, k < N → hr A k = some (base + 2 * k) ∧ cm_str sh hr (base + 2 * k) L) : ∀ q k : Nat, k + q = N → ∀ x5 : Option Value, cm_g D mX6_howManyThere (d + 1) 0 0 (fun r9 h9 => r9 = some (.int (cThere hi base N)) ∧ h9 = (sh, hi, hl, hr)) 0 0 10 [some (.ref A), some (.int (cThere hi base k)), some (.ref A), some (.int (nI N)), some (.int (nI k)), x5] [] (sh, hi, hl, hr) := by
  intro q
  induction q with
  | zero =>
    intro k hk x5
    have h1 : k = N := by omega
    subst h1
    refine cm_iload4 (pc := 10) dX6_howManyThere_10 ?_
    refine cm_iload3 (pc := 12) dX6_howManyThere_12 ?_
    refine cm_geN (pc := 13) (tgt := 44) dX6_howManyThere_13 (by decide) (by omega) (by omega) (fun c13 => ?_) (fun c13 => ?_)
    · refine cm_iload1 (pc := 44) dX6_howManyThere_44 ?_
      exact cm_iret (pc := 45) dX6_howManyThere_45 rfl ⟨rfl, rfl⟩
    · exact absurd c13 (by omega)
  | succ q ih =>
    intro k hk x5
    have hst := ih (k + 1) (by omega)
    refine cm_iload4 (pc := 10) dX6_howManyThere_10 ?_
    refine cm_iload3 (pc := 12) dX6_howManyThere_12 ?_
    refine cm_geN (pc := 13) (tgt := 44) dX6_howManyThere_13 (by decide) (by omega) (by omega) (fun c13 => ?_) (fun c13 => ?_)
    · exact absurd c13 (by omega)
    · refine cm_aload2 (pc := 16) dX6_howManyThere_16 ?_
      refine cm_iload4 (pc := 17) dX6_howManyThere_17 ?_
      refine cm_aal2 (pc := 19) dX6_howManyThere_19 hA c13 hN (hall k c13).1 ?_
      refine cm_astore5 (pc := 20) dX6_howManyThere_20 (by decide) rfl ?_
      refine cm_iload1 (pc := 22) dX6_howManyThere_22 ?_
      refine cm_aload5 (pc := 23) dX6_howManyThere_23 ?_
      refine cm_V0 (pc := 25) mX4_isThere_v mlX6_90 dX6_howManyThere_25 (hall k c13).2.1 (by omega) (Nat.le_of_ble_eq_true rfl) (Nat.le_refl _) (Nat.le_refl _) (k_isThere (d := d) (hall k c13).2) (fun r25 h25 hq25 => ?_)
      obtain ⟨rfl, rfl⟩ := hq25
      refine cm_ifeqB (pc := 28) (tgt := 35) dX6_howManyThere_28 (by decide) (fun c28 => ?_) (fun c28 => ?_)
      · refine cm_iconst (pc := 35) (v := 0) dX6_howManyThere_35 (by decide) ?_
        refine cm_iadd (pc := 36) dX6_howManyThere_36 ?_
        refine cm_istore1 (pc := 37) dX6_howManyThere_37 (by decide) rfl ?_
        refine cm_incN4 (pc := 38) dX6_howManyThere_38 (by decide) rfl ?_
        refine cm_goto (pc := 41) (tgt := 10) dX6_howManyThere_41 (by decide) ?_
        first
          | (rw [show cThere hi base k + 0 = cThere hi base (k + 1) by show _ = sumP _ (k + 1); unfold sumP; rw [c28]; rfl]; exact hst _)
          | (rw [show cThere hi base k + 1 = cThere hi base (k + 1) by show _ = sumP _ (k + 1); unfold sumP; rw [c28]; rfl]; exact hst _)
      · refine cm_iconst (pc := 31) (v := 1) dX6_howManyThere_31 (by decide) ?_
        refine cm_goto (pc := 32) (tgt := 36) dX6_howManyThere_32 (by decide) ?_
        refine cm_iadd (pc := 36) dX6_howManyThere_36 ?_
        refine cm_istore1 (pc := 37) dX6_howManyThere_37 (by decide) rfl ?_
        refine cm_incN4 (pc := 38) dX6_howManyThere_38 (by decide) rfl ?_
        refine cm_goto (pc := 41) (tgt := 10) dX6_howManyThere_41 (by decide) ?_
        first
          | (rw [show cThere hi base k + 0 = cThere hi base (k + 1) by show _ = sumP _ (k + 1); unfold sumP; rw [c28]; rfl]; exact hst _)
          | (rw [show cThere hi base k + 1 = cThere hi base (k + 1) by show _ = sumP _ (k + 1); unfold sumP; rw [c28]; rfl]; exact hst _)
set_option maxRecDepth 20000 in
theorem k_howManyThere {A base N L : Nat} (hA : cm_ar sh A 2 N) (hN : N < 2147483648) (hall : ∀ k, k < N → hr A k = some (base + 2 * k) ∧ cm_str sh hr (base + 2 * k) L) : cm_ct D mX6_howManyThere (d + 1) 0 0 [.ref A] (sh, hi, hl, hr) (fun r9 h9 => r9 = some (.int (cThere hi base N)) ∧ h9 = (sh, hi, hl, hr)) := by
  refine cm_ct_of (ls := [some (.ref A), none, none, none, none, none]) 5 (by decide +kernel) rfl rfl ?_
  refine cm_iconst (pc := 0) (v := 0) dX6_howManyThere_0 (by decide) ?_
  refine cm_istore1 (pc := 1) dX6_howManyThere_1 (by decide) rfl ?_
  refine cm_aload0 (pc := 2) dX6_howManyThere_2 ?_
  refine cm_astore2 (pc := 3) dX6_howManyThere_3 (by decide) rfl ?_
  refine cm_aload2 (pc := 4) dX6_howManyThere_4 ?_
  refine cm_alen (pc := 5) dX6_howManyThere_5 hA ?_
  refine cm_istore3 (pc := 6) dX6_howManyThere_6 (by decide) rfl ?_
  refine cm_iconst (pc := 7) (v := 0) dX6_howManyThere_7 (by decide) ?_
  refine cm_istore4 (pc := 8) dX6_howManyThere_8 (by decide) rfl ?_
  exact l_hmt hA hN hall N 0 (by omega) _
set_option maxRecDepth 20000 in
theorem l_hmk (hX : cm_cls sh hr) : ∀ q k : Nat, k + q = 3 → cm_g D mX6_howManyKept (d + 1) 0 0 (fun r9 h9 => r9 = some (.int (cKeptN hi)) ∧ h9 = (sh, hi, hl, hr)) 0 0 4 [some (.ref 2), some (.int (sumP (fun k => cm_bi (decide (0 < hi (81 + 11 * k) 3))) k)), some (.int (nI k))] [] (sh, hi, hl, hr) := by
  intro q
  induction q with
  | zero =>
    intro k hk
    have h1 : k = 3 := by omega
    subst h1
    refine cm_iload2 (pc := 4) dX6_howManyKept_4 ?_
    refine cm_iconst (pc := 5) (v := 3) dX6_howManyKept_5 (by decide) ?_
    refine cm_icmp_ge (pc := 6) (tgt := 31) dX6_howManyKept_6 (by decide) (fun c6 => ?_) (fun q => absurd (by decide) q)
    refine cm_iload1 (pc := 31) dX6_howManyKept_31 ?_
    exact cm_iret (pc := 32) dX6_howManyKept_32 rfl ⟨rfl, rfl⟩
  | succ q ih =>
    intro k hk
    have hst := ih (k + 1) (by omega)
    refine cm_iload2 (pc := 4) dX6_howManyKept_4 ?_
    refine cm_iconst (pc := 5) (v := 3) dX6_howManyKept_5 (by decide) ?_
    refine cm_icmp_ge (pc := 6) (tgt := 31) dX6_howManyKept_6 (by decide) (fun q => absurd q (nI_ge (a := k) (b := 3) (by omega) (by omega))) (fun c6 => ?_)
    refine cm_iload1 (pc := 9) dX6_howManyKept_9 ?_
    refine cm_aload0 (pc := 10) dX6_howManyKept_10 ?_
    refine cm_iload2 (pc := 11) dX6_howManyKept_11 ?_
    refine cm_V1 (pc := 12) mX6_isKept_v mlX6_210 dX6_howManyKept_12 hX.ox (by omega) (Nat.le_of_ble_eq_true rfl) (Nat.le_refl _) (Nat.le_refl _) (k_isKept (d := d) hX (j := k) (by omega)) (fun r12 h12 hq12 => ?_)
    obtain ⟨rfl, rfl⟩ := hq12
    refine cm_ifeqB (pc := 15) (tgt := 22) dX6_howManyKept_15 (by decide) (fun c15 => ?_) (fun c15 => ?_)
    · rw [show sumP (fun k => cm_bi (decide (0 < hi (81 + 11 * k) 3))) (k + 1) = sumP (fun k => cm_bi (decide (0 < hi (81 + 11 * k) 3))) k + 0 by simp [sumP, c15, cm_bi]] at hst
      refine cm_iconst (pc := 22) (v := 0) dX6_howManyKept_22 (by decide) ?_
      refine cm_iadd (pc := 23) dX6_howManyKept_23 ?_
      refine cm_istore1 (pc := 24) dX6_howManyKept_24 (by decide) rfl ?_
      refine cm_incN2 (pc := 25) dX6_howManyKept_25 (by decide) rfl ?_
      refine cm_goto (pc := 28) (tgt := 4) dX6_howManyKept_28 (by decide) ?_
      exact hst
    · rw [show sumP (fun k => cm_bi (decide (0 < hi (81 + 11 * k) 3))) (k + 1) = sumP (fun k => cm_bi (decide (0 < hi (81 + 11 * k) 3))) k + 1 by simp [sumP, c15, cm_bi]] at hst
      refine cm_iconst (pc := 18) (v := 1) dX6_howManyKept_18 (by decide) ?_
      refine cm_goto (pc := 19) (tgt := 23) dX6_howManyKept_19 (by decide) ?_
      refine cm_iadd (pc := 23) dX6_howManyKept_23 ?_
      refine cm_istore1 (pc := 24) dX6_howManyKept_24 (by decide) rfl ?_
      refine cm_incN2 (pc := 25) dX6_howManyKept_25 (by decide) rfl ?_
      refine cm_goto (pc := 28) (tgt := 4) dX6_howManyKept_28 (by decide) ?_
      exact hst
set_option maxRecDepth 20000 in
theorem k_howManyKept (hX : cm_cls sh hr)  : cm_ct D mX6_howManyKept (d + 1) 0 0 [.ref 2] (sh, hi, hl, hr) (fun r9 h9 => r9 = some (.int (cKeptN hi)) ∧ h9 = (sh, hi, hl, hr)) := by
  refine cm_ct_of (ls := [some (.ref 2), none, none]) 2 (by decide +kernel) rfl rfl ?_
  refine cm_iconst (pc := 0) (v := 0) dX6_howManyKept_0 (by decide) ?_
  refine cm_istore1 (pc := 1) dX6_howManyKept_1 (by decide) rfl ?_
  refine cm_iconst (pc := 2) (v := 0) dX6_howManyKept_2 (by decide) ?_
  refine cm_istore2 (pc := 3) dX6_howManyKept_3 (by decide) rfl ?_
  exact l_hmk hX 3 0 (by omega)
set_option maxRecDepth 20000 in
theorem k_numberOf (hX : cm_cls sh hr) {w : Int32} (h : mOk (cm_sf hi 5) nb ns) : cm_ct D mX6_numberOf (d + 2) 0 0 [.ref 2, .int w] (sh, hi, hl, hr) (fun r9 h9 => r9 = some (.int (cNum hi nb w)) ∧ h9 = (sh, hi, hl, hr)) := by
  have hnb := h.1.2.1
  have hns := h.1.2.2.2
  refine cm_ct_of (ls := [some (.ref 2), some (.int w)]) 0 (by decide +kernel) rfl rfl ?_
  refine cm_iload1 (pc := 0) dX6_numberOf_0 ?_
  refine cm_split 0 (fun s1_0 => ?_) (fun s1_0 => ?_)
  · refine cm_tsIn (pc := 1) (tgt := 48) (off := 47) dX6_numberOf_1 (by decide) (by decide) (by decide +kernel) (by decide) ?_
    refine cm_aload0 (pc := 48) dX6_numberOf_48 ?_
    refine cm_getR (pc := 49) flX6_21 dX6_numberOf_49 hX.ox hX.r2 ?_
    refine cm_getI (pc := 52) flX6_136 dX6_numberOf_52 hX.mp.1 ?_
    exact cm_iret (pc := 55) dX6_numberOf_55 rfl ⟨by unfold cNum; rw [if_pos s1_0]; try rfl, rfl⟩
  refine cm_split 1 (fun s1_1 => ?_) (fun s1_1 => ?_)
  · refine cm_tsIn (pc := 1) (tgt := 56) (off := 55) dX6_numberOf_1 (by decide) (by decide) (by decide +kernel) (by decide) ?_
    refine cm_aload0 (pc := 56) dX6_numberOf_56 ?_
    refine cm_getR (pc := 57) flX6_21 dX6_numberOf_57 hX.ox hX.r2 ?_
    refine cm_getI (pc := 60) flX6_315 dX6_numberOf_60 hX.mp.1 ?_
    exact cm_iret (pc := 63) dX6_numberOf_63 rfl ⟨by unfold cNum; rw [if_neg s1_0, if_pos s1_1]; try rfl, rfl⟩
  refine cm_split 2 (fun s1_2 => ?_) (fun s1_2 => ?_)
  · refine cm_tsIn (pc := 1) (tgt := 64) (off := 63) dX6_numberOf_1 (by decide) (by decide) (by decide +kernel) (by decide) ?_
    refine cm_aload0 (pc := 64) dX6_numberOf_64 ?_
    refine cm_getR (pc := 65) flX6_21 dX6_numberOf_65 hX.ox hX.r2 ?_
    refine cm_getI (pc := 68) flX6_126 dX6_numberOf_68 hX.mp.1 ?_
    exact cm_iret (pc := 71) dX6_numberOf_71 rfl ⟨by unfold cNum; rw [if_neg s1_0, if_neg s1_1, if_pos s1_2]; try rfl, rfl⟩
  refine cm_split 3 (fun s1_3 => ?_) (fun s1_3 => ?_)
  · refine cm_tsIn (pc := 1) (tgt := 72) (off := 71) dX6_numberOf_1 (by decide) (by decide) (by decide +kernel) (by decide) ?_
    refine cm_aload0 (pc := 72) dX6_numberOf_72 ?_
    refine cm_getR (pc := 73) flX6_21 dX6_numberOf_73 hX.ox hX.r2 ?_
    refine cm_iconst (pc := 76) (v := 1) dX6_numberOf_76 (by decide) ?_
    refine cm_V1 (pc := 77) mX2_howManyOfKind_v mlX6_318 dX6_numberOf_77 hX.mp.1 (by omega) (Nat.le_of_ble_eq_true rfl) (Nat.le_refl _) (Nat.le_refl _) (cm_ct_us 5 (k_howManyOfKind (d := d) hX.mp (show cm_sf hi 5 0 3 = nI nb from h.1.1) hnb)) (fun r77 h77 hq77 => ?_)
    obtain ⟨rfl, rfl⟩ := hq77
    rw [cm_us_sf]
    exact cm_iret (pc := 80) dX6_numberOf_80 rfl ⟨by unfold cNum; rw [if_neg s1_0, if_neg s1_1, if_neg s1_2, if_pos s1_3]; try rfl, rfl⟩
  refine cm_split 4 (fun s1_4 => ?_) (fun s1_4 => ?_)
  · refine cm_tsIn (pc := 1) (tgt := 81) (off := 80) dX6_numberOf_1 (by decide) (by decide) (by decide +kernel) (by decide) ?_
    refine cm_aload0 (pc := 81) dX6_numberOf_81 ?_
    refine cm_getR (pc := 82) flX6_21 dX6_numberOf_82 hX.ox hX.r2 ?_
    refine cm_iconst (pc := 85) (v := 2) dX6_numberOf_85 (by decide) ?_
    refine cm_V1 (pc := 86) mX2_howManyOfKind_v mlX6_318 dX6_numberOf_86 hX.mp.1 (by omega) (Nat.le_of_ble_eq_true rfl) (Nat.le_refl _) (Nat.le_refl _) (cm_ct_us 5 (k_howManyOfKind (d := d) hX.mp (show cm_sf hi 5 0 3 = nI nb from h.1.1) hnb)) (fun r86 h86 hq86 => ?_)
    obtain ⟨rfl, rfl⟩ := hq86
    rw [cm_us_sf]
    exact cm_iret (pc := 89) dX6_numberOf_89 rfl ⟨by unfold cNum; rw [if_neg s1_0, if_neg s1_1, if_neg s1_2, if_neg s1_3, if_pos s1_4]; try rfl, rfl⟩
  refine cm_split 5 (fun s1_5 => ?_) (fun s1_5 => ?_)
  · refine cm_tsIn (pc := 1) (tgt := 90) (off := 89) dX6_numberOf_1 (by decide) (by decide) (by decide +kernel) (by decide) ?_
    refine cm_aload0 (pc := 90) dX6_numberOf_90 ?_
    refine cm_V0 (pc := 91) mX6_howManyKept_v mlX6_321 dX6_numberOf_91 hX.ox (by omega) (Nat.le_of_ble_eq_true rfl) (Nat.le_refl _) (Nat.le_refl _) (k_howManyKept (d := d) hX) (fun r91 h91 hq91 => ?_)
    obtain ⟨rfl, rfl⟩ := hq91
    exact cm_iret (pc := 94) dX6_numberOf_94 rfl ⟨by unfold cNum; rw [if_neg s1_0, if_neg s1_1, if_neg s1_2, if_neg s1_3, if_neg s1_4, if_pos s1_5]; try rfl, rfl⟩
  refine cm_split 6 (fun s1_6 => ?_) (fun s1_6 => ?_)
  · refine cm_tsIn (pc := 1) (tgt := 95) (off := 94) dX6_numberOf_1 (by decide) (by decide) (by decide +kernel) (by decide) ?_
    refine cm_aload0 (pc := 95) dX6_numberOf_95 ?_
    refine cm_getR (pc := 96) flX6_11 dX6_numberOf_96 hX.ox hX.r0 ?_
    refine cm_S1 (pc := 99) mX6_howManyThere_s mlX6_324 dX6_numberOf_99 (by omega) (Nat.le_of_ble_eq_true rfl) (Nat.le_refl _) (Nat.le_refl _) (k_howManyThere (d := d) (base := 61) hX.a3 (by decide) hX.row) (fun r99 h99 hq99 => ?_)
    obtain ⟨rfl, rfl⟩ := hq99
    exact cm_iret (pc := 102) dX6_numberOf_102 rfl ⟨by unfold cNum; rw [if_neg s1_0, if_neg s1_1, if_neg s1_2, if_neg s1_3, if_neg s1_4, if_neg s1_5, if_pos s1_6]; try rfl, rfl⟩
  refine cm_split 7 (fun s1_7 => ?_) (fun s1_7 => ?_)
  · refine cm_tsIn (pc := 1) (tgt := 103) (off := 102) dX6_numberOf_1 (by decide) (by decide) (by decide +kernel) (by decide) ?_
    refine cm_aload0 (pc := 103) dX6_numberOf_103 ?_
    refine cm_getR (pc := 104) flX6_15 dX6_numberOf_104 hX.ox hX.r1 ?_
    refine cm_S1 (pc := 107) mX6_howManyThere_s mlX6_324 dX6_numberOf_107 (by omega) (Nat.le_of_ble_eq_true rfl) (Nat.le_refl _) (Nat.le_refl _) (k_howManyThere (d := d) (base := 73) hX.a4 (by decide) hX.txt) (fun r107 h107 hq107 => ?_)
    obtain ⟨rfl, rfl⟩ := hq107
    exact cm_iret (pc := 110) dX6_numberOf_110 rfl ⟨by unfold cNum; rw [if_neg s1_0, if_neg s1_1, if_neg s1_2, if_neg s1_3, if_neg s1_4, if_neg s1_5, if_neg s1_6, if_pos s1_7]; try rfl, rfl⟩
  refine cm_tsOut (pc := 1) (tgt := 111) dX6_numberOf_1 (by have := cm_nez s1_0; have := cm_nez s1_1; have := cm_nez s1_2; have := cm_nez s1_3; have := cm_nez s1_4; have := cm_nez s1_5; have := cm_nez s1_6; have := cm_nez s1_7; simp at *; omega) (by decide) ?_
  refine cm_aload0 (pc := 111) dX6_numberOf_111 ?_
  refine cm_getR (pc := 112) flX6_21 dX6_numberOf_112 hX.ox hX.r2 ?_
  refine cm_V0 (pc := 115) mX2_howManyWant_v mlX6_328 dX6_numberOf_115 hX.mp.1 (by omega) (Nat.le_of_ble_eq_true rfl) (Nat.le_refl _) (Nat.le_refl _) (cm_ct_us 5 (k_howManyWant (d := d + 1) hX.mp (show cm_sf hi 5 0 3 = nI nb from h.1.1) hnb)) (fun r115 h115 hq115 => ?_)
  obtain ⟨rfl, rfl⟩ := hq115
  rw [cm_us_sf]
  exact cm_iret (pc := 118) dX6_numberOf_118 rfl ⟨by unfold cNum; rw [if_neg s1_0, if_neg s1_1, if_neg s1_2, if_neg s1_3, if_neg s1_4, if_neg s1_5, if_neg s1_6, if_neg s1_7]; try rfl, rfl⟩
set_option maxRecDepth 20000 in
theorem k_count (hX : cm_cls sh hr) {w : Int32} (h : mOk (cm_sf hi 5) nb ns) : cm_ct D mX6_count (d + 3) 0 0 [.ref 2, .int w] (sh, hi, hl, hr) (fun r9 h9 => r9 = some (.int (if isW w 9 then cNum hi nb w else -1)) ∧ h9 = (sh, hi, hl, hr)) := by
  have hnb := h.1.2.1
  have hns := h.1.2.2.2
  refine cm_ct_of (ls := [some (.ref 2), some (.int w)]) 0 (by decide +kernel) rfl rfl ?_
  refine cm_iload1 (pc := 0) dX6_count_0 ?_
  refine cm_bipush (pc := 1) (v := 9) dX6_count_1 (by decide) ?_
  refine cm_S2 (pc := 3) mX6_isWithin_s mlX6_64 dX6_count_3 (by omega) (Nat.le_of_ble_eq_true rfl) (Nat.le_refl _) (Nat.le_refl _) (k_isWithin (d := d + 2) ) (fun r3 h3 hq3 => ?_)
  obtain ⟨rfl, rfl⟩ := hq3
  refine cm_ifeqB (pc := 6) (tgt := 17) dX6_count_6 (by decide) (fun c6 => ?_) (fun c6 => ?_)
  · refine cm_iconst (pc := 17) (v := -1) dX6_count_17 (by decide) ?_
    exact cm_iret (pc := 18) dX6_count_18 rfl ⟨by simp [*], rfl⟩
  · refine cm_aload0 (pc := 9) dX6_count_9 ?_
    refine cm_iload1 (pc := 10) dX6_count_10 ?_
    refine cm_V1 (pc := 11) mX6_numberOf_v mlX6_294 dX6_count_11 hX.ox (by omega) (Nat.le_of_ble_eq_true rfl) (Nat.le_refl _) (Nat.le_refl _) (k_numberOf (d := d) hX h) (fun r11 h11 hq11 => ?_)
    obtain ⟨rfl, rfl⟩ := hq11
    refine cm_goto (pc := 14) (tgt := 18) dX6_count_14 (by decide) ?_
    exact cm_iret (pc := 18) dX6_count_18 rfl ⟨by simp [*], rfl⟩
set_option maxRecDepth 20000 in
theorem k_asked (hX : cm_cls sh hr)  : cm_ct D mX6_asked d 0 0 [.ref 2] (sh, hi, hl, hr) (fun r9 h9 => r9 = some (.int (hi 2 10)) ∧ h9 = (sh, hi, hl, hr)) := by
  refine cm_ct_of (ls := [some (.ref 2)]) 0 (by decide +kernel) rfl rfl ?_
  refine cm_aload0 (pc := 0) dX6_asked_0 ?_
  refine cm_getI (pc := 1) flX6_201 dX6_asked_1 hX.ox ?_
  exact cm_iret (pc := 4) dX6_asked_4 rfl ⟨rfl, rfl⟩
set_option maxRecDepth 20000 in
theorem k_finding (hX : cm_cls sh hr)  : cm_ct D mX6_finding d 0 0 [.ref 2] (sh, hi, hl, hr) (fun r9 h9 => r9 = some (.int (hi 2 9)) ∧ h9 = (sh, hi, hl, hr)) := by
  refine cm_ct_of (ls := [some (.ref 2)]) 0 (by decide +kernel) rfl rfl ?_
  refine cm_aload0 (pc := 0) dX6_finding_0 ?_
  refine cm_getI (pc := 1) flX6_297 dX6_finding_1 hX.ox ?_
  exact cm_iret (pc := 4) dX6_finding_4 rfl ⟨rfl, rfl⟩
set_option maxRecDepth 20000 in
theorem k_findings (hX : cm_cls sh hr) {f : Int32} : cm_ct D mX6_findings d 0 0 [.ref 2, .int f] (sh, hi, hl, hr) (fun r9 h9 => r9 = some (.int (if f < 1 ∨ ¬ f ≤ 5 then -1 else hi 60 f.toNatClampNeg)) ∧ h9 = (sh, hi, hl, hr)) := by
  refine cm_ct_of (ls := [some (.ref 2), some (.int f)]) 0 (by decide +kernel) rfl rfl ?_
  refine cm_iload1 (pc := 0) dX6_findings_0 ?_
  refine cm_iconst (pc := 1) (v := 1) dX6_findings_1 (by decide) ?_
  refine cm_icmp_lt (pc := 2) (tgt := 10) dX6_findings_2 (by decide) (fun c2 => ?_) (fun c2 => ?_)
  · refine cm_iconst (pc := 10) (v := -1) dX6_findings_10 (by decide) ?_
    refine cm_goto (pc := 11) (tgt := 20) dX6_findings_11 (by decide) ?_
    exact cm_iret (pc := 20) dX6_findings_20 rfl ⟨by rw [if_pos (Or.inl c2)], rfl⟩
  · refine cm_iload1 (pc := 5) dX6_findings_5 ?_
    refine cm_iconst (pc := 6) (v := 5) dX6_findings_6 (by decide) ?_
    refine cm_icmp_le (pc := 7) (tgt := 14) dX6_findings_7 (by decide) (fun c7 => ?_) (fun c7 => ?_)
    · have z2 := Int32.not_lt.mp c2
      rw [Int32.le_iff_toInt_le] at z2
      have z7 := Int32.le_iff_toInt_le.mp c7
      have e1 : (1 : Int32).toInt = 1 := by decide
      have e5 : (5 : Int32).toInt = 5 := by decide
      rw [e1] at z2
      rw [e5] at z7
      have w1 : f.toNatClampNeg = f.toInt.toNat := rfl
      refine cm_aload0 (pc := 14) dX6_findings_14 ?_
      refine cm_getR (pc := 15) flX6_57 dX6_findings_15 hX.ox hX.r8 ?_
      refine cm_iload1 (pc := 18) dX6_findings_18 ?_
      refine cm_ialE (pc := 19) (f.toNatClampNeg) dX6_findings_19 hX.a60 (z_of (by omega)) (by omega) (by decide) ?_
      exact cm_iret (pc := 20) dX6_findings_20 rfl ⟨by rw [if_neg (fun w => w.elim c2 (fun w => w c7))], rfl⟩
    · refine cm_iconst (pc := 10) (v := -1) dX6_findings_10 (by decide) ?_
      refine cm_goto (pc := 11) (tgt := 20) dX6_findings_11 (by decide) ?_
      exact cm_iret (pc := 20) dX6_findings_20 rfl ⟨by rw [if_pos (Or.inr c7)], rfl⟩
set_option maxRecDepth 20000 in
theorem k_upper (hX : cm_cls sh hr) (h : mOk (cm_sf hi 5) nb ns) : cm_ct D mX6_upper (d + 3) 0 0 [.ref 2] (sh, hi, hl, hr) (fun r9 h9 => r9 = some (.long (cUp hi nb ns)) ∧ h9 = (sh, hi, hl, hr)) := by
  have hnb := h.1.2.1
  have hns := h.1.2.2.2
  refine cm_ct_of (ls := [some (.ref 2), none, none, none, none]) 4 (by decide +kernel) rfl rfl ?_
  refine cm_aload0 (pc := 0) dX6_upper_0 ?_
  refine cm_getR (pc := 1) flX6_21 dX6_upper_1 hX.ox hX.r2 ?_
  refine cm_V0 (pc := 4) mX2_paidByAll_v mlX6_284 dX6_upper_4 hX.mp.1 (by omega) (Nat.le_of_ble_eq_true rfl) (Nat.le_refl _) (Nat.le_refl _) (cm_ct_us 5 (k_paidByAll (d := d + 2) hX.mp (show cm_sf hi 5 0 3 = nI nb from h.1.1) hnb)) (fun r4 h4 hq4 => ?_)
  obtain ⟨rfl, rfl⟩ := hq4
  rw [cm_us_sf, show cm_sf hi 5 8 = hi 13 from rfl]
  refine cm_i2l (pc := 7) dX6_upper_7 ?_
  refine cm_lstore1 (pc := 8) dX6_upper_8 (by decide) rfl ?_
  refine cm_aload0 (pc := 9) dX6_upper_9 ?_
  refine cm_getR (pc := 10) flX6_21 dX6_upper_10 hX.ox hX.r2 ?_
  refine cm_V0 (pc := 13) mX2_pricesOfAll_v mlX6_287 dX6_upper_13 hX.mp.1 (by omega) (Nat.le_of_ble_eq_true rfl) (Nat.le_refl _) (Nat.le_refl _) (cm_ct_us 5 (k_pricesOfAll (d := d + 2) hX.mp (show cm_sf hi 5 0 2 = nI ns from h.1.2.2.1) hns)) (fun r13 h13 hq13 => ?_)
  obtain ⟨rfl, rfl⟩ := hq13
  rw [cm_us_sf, show cm_sf hi 5 3 = hi 8 from rfl]
  refine cm_i2l (pc := 16) dX6_upper_16 ?_
  refine cm_lstore3 (pc := 17) dX6_upper_17 (by decide) rfl ?_
  refine cm_lload3 (pc := 18) dX6_upper_18 ?_
  refine cm_lconst (pc := 19) (v := 0) dX6_upper_19 (by decide) ?_
  refine cm_lcmp (pc := 20) dX6_upper_20 ?_
  refine cm_if_ne (pc := 21) (tgt := 28) dX6_upper_21 (by decide) (fun c21 => ?_) (fun c21 => ?_)
  · have q0 := fun w => c21 ((lg_cmp_eq _ _).mpr w)
    refine cm_lload1 (pc := 28) dX6_upper_28 ?_
    refine cm_lload3 (pc := 29) dX6_upper_29 ?_
    refine cm_lload1 (pc := 30) dX6_upper_30 ?_
    refine cm_S2 (pc := 31) mX6_commonDivisor_s mlX6_290 dX6_upper_31 (by omega) (Nat.le_of_ble_eq_true rfl) (Nat.le_refl _) (Nat.le_refl _) (k_commonDivisor (d := d)) (fun r31 h31 hq31 => ?_)
    obtain ⟨rfl, rfl⟩ := hq31
    refine cm_ldiv (pc := 34) dX6_upper_34 cCd_ne ?_
    exact cm_lret (pc := 35) dX6_upper_35 rfl ⟨by unfold cUp; rw [if_neg q0], rfl⟩
  · have q0 := (lg_cmp_eq _ _).mp c21
    refine cm_lconst (pc := 24) (v := 0) dX6_upper_24 (by decide) ?_
    refine cm_goto (pc := 25) (tgt := 35) dX6_upper_25 (by decide) ?_
    exact cm_lret (pc := 35) dX6_upper_35 rfl ⟨by unfold cUp; rw [if_pos q0], rfl⟩
set_option maxRecDepth 20000 in
theorem k_lower (hX : cm_cls sh hr) (h : mOk (cm_sf hi 5) nb ns) : cm_ct D mX6_lower (d + 3) 0 0 [.ref 2] (sh, hi, hl, hr) (fun r9 h9 => r9 = some (.long (cLow hi nb ns)) ∧ h9 = (sh, hi, hl, hr)) := by
  have hnb := h.1.2.1
  have hns := h.1.2.2.2
  refine cm_ct_of (ls := [some (.ref 2), none, none, none, none]) 4 (by decide +kernel) rfl rfl ?_
  refine cm_aload0 (pc := 0) dX6_lower_0 ?_
  refine cm_getR (pc := 1) flX6_21 dX6_lower_1 hX.ox hX.r2 ?_
  refine cm_V0 (pc := 4) mX2_paidByAll_v mlX6_284 dX6_lower_4 hX.mp.1 (by omega) (Nat.le_of_ble_eq_true rfl) (Nat.le_refl _) (Nat.le_refl _) (cm_ct_us 5 (k_paidByAll (d := d + 2) hX.mp (show cm_sf hi 5 0 3 = nI nb from h.1.1) hnb)) (fun r4 h4 hq4 => ?_)
  obtain ⟨rfl, rfl⟩ := hq4
  rw [cm_us_sf, show cm_sf hi 5 8 = hi 13 from rfl]
  refine cm_i2l (pc := 7) dX6_lower_7 ?_
  refine cm_lstore1 (pc := 8) dX6_lower_8 (by decide) rfl ?_
  refine cm_aload0 (pc := 9) dX6_lower_9 ?_
  refine cm_getR (pc := 10) flX6_21 dX6_lower_10 hX.ox hX.r2 ?_
  refine cm_V0 (pc := 13) mX2_pricesOfAll_v mlX6_287 dX6_lower_13 hX.mp.1 (by omega) (Nat.le_of_ble_eq_true rfl) (Nat.le_refl _) (Nat.le_refl _) (cm_ct_us 5 (k_pricesOfAll (d := d + 2) hX.mp (show cm_sf hi 5 0 2 = nI ns from h.1.2.2.1) hns)) (fun r13 h13 hq13 => ?_)
  obtain ⟨rfl, rfl⟩ := hq13
  rw [cm_us_sf, show cm_sf hi 5 3 = hi 8 from rfl]
  refine cm_i2l (pc := 16) dX6_lower_16 ?_
  refine cm_lstore3 (pc := 17) dX6_lower_17 (by decide) rfl ?_
  refine cm_lload3 (pc := 18) dX6_lower_18 ?_
  refine cm_lconst (pc := 19) (v := 0) dX6_lower_19 (by decide) ?_
  refine cm_lcmp (pc := 20) dX6_lower_20 ?_
  refine cm_if_ne (pc := 21) (tgt := 28) dX6_lower_21 (by decide) (fun c21 => ?_) (fun c21 => ?_)
  · have q0 := fun w => c21 ((lg_cmp_eq _ _).mpr w)
    refine cm_lload3 (pc := 28) dX6_lower_28 ?_
    refine cm_lload3 (pc := 29) dX6_lower_29 ?_
    refine cm_lload1 (pc := 30) dX6_lower_30 ?_
    refine cm_S2 (pc := 31) mX6_commonDivisor_s mlX6_290 dX6_lower_31 (by omega) (Nat.le_of_ble_eq_true rfl) (Nat.le_refl _) (Nat.le_refl _) (k_commonDivisor (d := d)) (fun r31 h31 hq31 => ?_)
    obtain ⟨rfl, rfl⟩ := hq31
    refine cm_ldiv (pc := 34) dX6_lower_34 cCd_ne ?_
    exact cm_lret (pc := 35) dX6_lower_35 rfl ⟨by unfold cLow; rw [if_neg q0], rfl⟩
  · have q0 := (lg_cmp_eq _ _).mp c21
    refine cm_lconst (pc := 24) (v := 1) dX6_lower_24 (by decide) ?_
    refine cm_goto (pc := 25) (tgt := 35) dX6_lower_25 (by decide) ?_
    exact cm_lret (pc := 35) dX6_lower_35 rfl ⟨by unfold cLow; rw [if_pos q0], rfl⟩
theorem k_sdig {n s : Nat} {h0 : Int64} (hS : cm_str sh hr s n) (hn : n ≤ 80) (hz : cSz hi s n) : cm_ct D mX4_digestOn d 0 0 [.ref s, .long h0] (sh, hi, hl, hr) (fun r9 h9 => r9 = some (.long (cDs hi s h0)) ∧ h9 = (sh, hi, hl, hr)) := by
  refine cm_ct_us s ?_
  rcases hz with hz | ⟨m, hm, hz⟩
  · refine cm_ct_imp (fun r h q => ?_) (k_digestOn0 (D := D) (d := d) (hl := hl) (g := cm_sf hi s) hS hz)
    rw [cm_us_sf] at q
    refine ⟨?_, q.2⟩
    rw [q.1]
    unfold cDs
    rw [if_pos hz]
    rfl
  · refine cm_ct_imp (fun r h q => ?_) (k_digestOn (D := D) (d := d) (hl := hl) (g := cm_sf hi s) hS (by omega) hm hz)
    rw [cm_us_sf] at q
    refine ⟨?_, q.2⟩
    rw [q.1]
    unfold cDs
    have hne : ¬ hi s 1 = -1 := by
      rw [hz]
      intro w
      have : (nI m).toInt = (-1 : Int32).toInt := by rw [w]
      rw [nI_toInt (by omega)] at this
      have e : (-1 : Int32).toInt = -1 := by decide
      omega
    rw [if_neg hne]
    have hc : (hi s 1).toNatClampNeg = m := by rw [hz]; exact nI_clamp (by omega)
    rw [hc]
    rfl
set_option maxRecDepth 20000 in
theorem l_dg4 (hX : cm_cls sh hr) (h : mOk (cm_sf hi 5) nb ns) (hI : cInv hi) : ∀ q k : Nat, k + q = 4 → cm_g D mX6_digest (d + 4) 0 0 (fun r9 h9 => r9 = some (.long (cDig hi nb ns)) ∧ h9 = (sh, hi, hl, hr)) 0 0 161 [some (.ref 2), some (.long (cDsN hi 73 (cDsN hi 61 (cDk hi (31 * cDigS (cP hi) (cDigB (cP hi) (31 * cDigF (cNum hi nb) 17 9 + (if hi 5 3 = 0 then 0 else hi 5 0).toInt64) nb) ns + (hi 5 1 - hi 17 1).toInt64) 3) 6) k)), none, some (.int (nI k))] [] (sh, hi, hl, hr) := by
  have hnb := h.1.2.1
  have hns := h.1.2.2.2
  intro q
  induction q with
  | zero =>
    intro k hk
    have h1 : k = 4 := by omega
    subst h1
    refine cm_iload3 (pc := 161) dX6_digest_161 ?_
    refine cm_iconst (pc := 162) (v := 4) dX6_digest_162 (by decide) ?_
    refine cm_icmp_ge (pc := 163) (tgt := 183) dX6_digest_163 (by decide) (fun c163 => ?_) (fun q => absurd (by decide) q)
    refine cm_lload1 (pc := 183) dX6_digest_183 ?_
    exact cm_lret (pc := 184) dX6_digest_184 rfl ⟨rfl, rfl⟩
  | succ q ih =>
    intro k hk
    have hst := ih (k + 1) (by omega)
    refine cm_iload3 (pc := 161) dX6_digest_161 ?_
    refine cm_iconst (pc := 162) (v := 4) dX6_digest_162 (by decide) ?_
    refine cm_icmp_ge (pc := 163) (tgt := 183) dX6_digest_163 (by decide) (fun q => absurd q (nI_ge (a := k) (b := 4) (by omega) (by omega))) (fun c163 => ?_)
    refine cm_aload0 (pc := 166) dX6_digest_166 ?_
    refine cm_getR (pc := 167) flX6_15 dX6_digest_167 hX.ox hX.r1 ?_
    refine cm_iload3 (pc := 170) dX6_digest_170 ?_
    refine cm_aal2 (pc := 171) dX6_digest_171 hX.a4 (by omega) (by decide) (hX.txt k (by omega)).1 ?_
    refine cm_lload1 (pc := 172) dX6_digest_172 ?_
    refine cm_V1 (pc := 173) mX4_digestOn_v mlX6_311 dX6_digest_173 (hX.txt k (by omega)).2.1 (by omega) (Nat.le_of_ble_eq_true rfl) (Nat.le_refl _) (Nat.le_refl _) (k_sdig (d := d + 3) (hX.txt k (by omega)).2 (by decide) (hI.2 k (by omega))) (fun r173 h173 hq173 => ?_)
    obtain ⟨rfl, rfl⟩ := hq173
    refine cm_lstore1 (pc := 176) dX6_digest_176 (by decide) rfl ?_
    refine cm_incN3 (pc := 177) dX6_digest_177 (by decide) rfl ?_
    refine cm_goto (pc := 180) (tgt := 161) dX6_digest_180 (by decide) ?_
    exact hst
set_option maxRecDepth 20000 in
theorem l_dg3 (hX : cm_cls sh hr) (h : mOk (cm_sf hi 5) nb ns) (hI : cInv hi) : ∀ q k : Nat, k + q = 6 → cm_g D mX6_digest (d + 4) 0 0 (fun r9 h9 => r9 = some (.long (cDig hi nb ns)) ∧ h9 = (sh, hi, hl, hr)) 0 0 136 [some (.ref 2), some (.long (cDsN hi 61 (cDk hi (31 * cDigS (cP hi) (cDigB (cP hi) (31 * cDigF (cNum hi nb) 17 9 + (if hi 5 3 = 0 then 0 else hi 5 0).toInt64) nb) ns + (hi 5 1 - hi 17 1).toInt64) 3) k)), none, some (.int (nI k))] [] (sh, hi, hl, hr) := by
  have hnb := h.1.2.1
  have hns := h.1.2.2.2
  intro q
  induction q with
  | zero =>
    intro k hk
    have h1 : k = 6 := by omega
    subst h1
    refine cm_iload3 (pc := 136) dX6_digest_136 ?_
    refine cm_bipush (pc := 137) (v := 6) dX6_digest_137 (by decide) ?_
    refine cm_icmp_ge (pc := 139) (tgt := 159) dX6_digest_139 (by decide) (fun c139 => ?_) (fun q => absurd (by decide) q)
    refine cm_iconst (pc := 159) (v := 0) dX6_digest_159 (by decide) ?_
    refine cm_istore3 (pc := 160) dX6_digest_160 (by decide) rfl ?_
    exact l_dg4 hX h hI 4 0 (by omega)
  | succ q ih =>
    intro k hk
    have hst := ih (k + 1) (by omega)
    refine cm_iload3 (pc := 136) dX6_digest_136 ?_
    refine cm_bipush (pc := 137) (v := 6) dX6_digest_137 (by decide) ?_
    refine cm_icmp_ge (pc := 139) (tgt := 159) dX6_digest_139 (by decide) (fun q => absurd q (nI_ge (a := k) (b := 6) (by omega) (by omega))) (fun c139 => ?_)
    refine cm_aload0 (pc := 142) dX6_digest_142 ?_
    refine cm_getR (pc := 143) flX6_11 dX6_digest_143 hX.ox hX.r0 ?_
    refine cm_iload3 (pc := 146) dX6_digest_146 ?_
    refine cm_aal2 (pc := 147) dX6_digest_147 hX.a3 (by omega) (by decide) (hX.row k (by omega)).1 ?_
    refine cm_lload1 (pc := 148) dX6_digest_148 ?_
    refine cm_V1 (pc := 149) mX4_digestOn_v mlX6_311 dX6_digest_149 (hX.row k (by omega)).2.1 (by omega) (Nat.le_of_ble_eq_true rfl) (Nat.le_refl _) (Nat.le_refl _) (k_sdig (d := d + 3) (hX.row k (by omega)).2 (by decide) (hI.1 k (by omega))) (fun r149 h149 hq149 => ?_)
    obtain ⟨rfl, rfl⟩ := hq149
    refine cm_lstore1 (pc := 152) dX6_digest_152 (by decide) rfl ?_
    refine cm_incN3 (pc := 153) dX6_digest_153 (by decide) rfl ?_
    refine cm_goto (pc := 156) (tgt := 136) dX6_digest_156 (by decide) ?_
    exact hst
set_option maxRecDepth 20000 in
theorem l_dg2 (hX : cm_cls sh hr) (h : mOk (cm_sf hi 5) nb ns) (hI : cInv hi) : ∀ q k : Nat, k + q = 3 → cm_g D mX6_digest (d + 4) 0 0 (fun r9 h9 => r9 = some (.long (cDig hi nb ns)) ∧ h9 = (sh, hi, hl, hr)) 0 0 94 [some (.ref 2), some (.long (cDk hi (31 * cDigS (cP hi) (cDigB (cP hi) (31 * cDigF (cNum hi nb) 17 9 + (if hi 5 3 = 0 then 0 else hi 5 0).toInt64) nb) ns + (hi 5 1 - hi 17 1).toInt64) k)), none, some (.int (nI k))] [] (sh, hi, hl, hr) := by
  have hnb := h.1.2.1
  have hns := h.1.2.2.2
  intro q
  induction q with
  | zero =>
    intro k hk
    have h1 : k = 3 := by omega
    subst h1
    refine cm_iload3 (pc := 94) dX6_digest_94 ?_
    refine cm_iconst (pc := 95) (v := 3) dX6_digest_95 (by decide) ?_
    refine cm_icmp_ge (pc := 96) (tgt := 134) dX6_digest_96 (by decide) (fun c96 => ?_) (fun q => absurd (by decide) q)
    refine cm_iconst (pc := 134) (v := 0) dX6_digest_134 (by decide) ?_
    refine cm_istore3 (pc := 135) dX6_digest_135 (by decide) rfl ?_
    exact l_dg3 hX h hI 6 0 (by omega)
  | succ q ih =>
    intro k hk
    have hst := ih (k + 1) (by omega)
    refine cm_iload3 (pc := 94) dX6_digest_94 ?_
    refine cm_iconst (pc := 95) (v := 3) dX6_digest_95 (by decide) ?_
    refine cm_icmp_ge (pc := 96) (tgt := 134) dX6_digest_96 (by decide) (fun q => absurd q (nI_ge (a := k) (b := 3) (by omega) (by omega))) (fun c96 => ?_)
    refine cm_ldc2 (pc := 99) dX6_digest_99 ctX6_302 ?_
    refine cm_lload1 (pc := 102) dX6_digest_102 ?_
    refine cm_lmul (pc := 103) dX6_digest_103 ?_
    refine cm_aload0 (pc := 104) dX6_digest_104 ?_
    refine cm_iload3 (pc := 105) dX6_digest_105 ?_
    refine cm_V1 (pc := 106) mX6_isKept_v mlX6_210 dX6_digest_106 hX.ox (by omega) (Nat.le_of_ble_eq_true rfl) (Nat.le_refl _) (Nat.le_refl _) (k_isKept (d := d + 3) hX (j := k) (by omega)) (fun r106 h106 hq106 => ?_)
    obtain ⟨rfl, rfl⟩ := hq106
    refine cm_ifeqB (pc := 109) (tgt := 124) dX6_digest_109 (by decide) (fun c109 => ?_) (fun c109 => ?_)
    · have q9 := of_decide_eq_false c109
      simp only [cDk] at hst
      rw [if_neg q9] at hst
      refine cm_iconst (pc := 124) (v := -1) dX6_digest_124 (by decide) ?_
      refine cm_i2l (pc := 125) dX6_digest_125 ?_
      refine cm_ladd (pc := 126) dX6_digest_126 ?_
      refine cm_lstore1 (pc := 127) dX6_digest_127 (by decide) rfl ?_
      refine cm_incN3 (pc := 128) dX6_digest_128 (by decide) rfl ?_
      refine cm_goto (pc := 131) (tgt := 94) dX6_digest_131 (by decide) ?_
      exact hst
    · have q9 := of_decide_eq_true c109
      simp only [cDk] at hst
      rw [if_pos q9] at hst
      refine cm_aload0 (pc := 112) dX6_digest_112 ?_
      refine cm_getR (pc := 113) flX6_25 dX6_digest_113 hX.ox hX.r3 ?_
      refine cm_iload3 (pc := 116) dX6_digest_116 ?_
      refine cm_aal3 (pc := 117) dX6_digest_117 hX.a16 (by omega) (by decide) (hX.kpt k (by omega)).1 ?_
      refine cm_getI (pc := 118) flX6_126 dX6_digest_118 (hX.kpt k (by omega)).2.1 ?_
      refine cm_goto (pc := 121) (tgt := 125) dX6_digest_121 (by decide) ?_
      refine cm_i2l (pc := 125) dX6_digest_125 ?_
      refine cm_ladd (pc := 126) dX6_digest_126 ?_
      refine cm_lstore1 (pc := 127) dX6_digest_127 (by decide) rfl ?_
      refine cm_incN3 (pc := 128) dX6_digest_128 (by decide) rfl ?_
      refine cm_goto (pc := 131) (tgt := 94) dX6_digest_131 (by decide) ?_
      exact hst
set_option maxRecDepth 20000 in
theorem t_dg (hX : cm_cls sh hr) (h : mOk (cm_sf hi 5) nb ns) (hI : cInv hi) {x3 : Option Value} : cm_g D mX6_digest (d + 4) 0 0 (fun r9 h9 => r9 = some (.long (cDig hi nb ns)) ∧ h9 = (sh, hi, hl, hr)) 0 0 31 [some (.ref 2), some (.long (cDigF (cNum hi nb) 17 9)), none, x3] [] (sh, hi, hl, hr) := by
  have hnb := h.1.2.1
  have hns := h.1.2.2.2
  refine cm_ldc2 (pc := 31) dX6_digest_31 ctX6_302 ?_
  refine cm_lload1 (pc := 34) dX6_digest_34 ?_
  refine cm_lmul (pc := 35) dX6_digest_35 ?_
  refine cm_aload0 (pc := 36) dX6_digest_36 ?_
  refine cm_getR (pc := 37) flX6_21 dX6_digest_37 hX.ox hX.r2 ?_
  refine cm_getI (pc := 40) flX6_136 dX6_digest_40 hX.mp.1 ?_
  refine cm_if_ne (pc := 43) (tgt := 50) dX6_digest_43 (by decide) (fun c43 => ?_) (fun c43 => ?_)
  · have hif : (if hi 5 3 = 0 then (0 : Int32) else hi 5 0) = hi 5 0 := if_neg c43
    refine cm_aload0 (pc := 50) dX6_digest_50 ?_
    refine cm_getR (pc := 51) flX6_21 dX6_digest_51 hX.ox hX.r2 ?_
    refine cm_getI (pc := 54) flX6_304 dX6_digest_54 hX.mp.1 ?_
    refine cm_i2l (pc := 57) dX6_digest_57 ?_
    refine cm_ladd (pc := 58) dX6_digest_58 ?_
    refine cm_lstore1 (pc := 59) dX6_digest_59 (by decide) rfl ?_
    refine cm_aload0 (pc := 60) dX6_digest_60 ?_
    refine cm_getR (pc := 61) flX6_21 dX6_digest_61 hX.ox hX.r2 ?_
    refine cm_lload1 (pc := 64) dX6_digest_64 ?_
    refine cm_V1 (pc := 65) mX2_digestOn_v mlX6_307 dX6_digest_65 hX.mp.1 (by omega) (Nat.le_of_ble_eq_true rfl) (Nat.le_refl _) (Nat.le_refl _) (cm_ct_us 5 (k_mdigest (d := d + 2) hX.mp (show cm_sf hi 5 0 3 = nI nb from h.1.1) hnb (show cm_sf hi 5 0 2 = nI ns from h.1.2.2.1) hns)) (fun r65 h65 hq65 => ?_)
    obtain ⟨rfl, rfl⟩ := hq65
    rw [cm_us_sf]
    refine cm_lstore1 (pc := 68) dX6_digest_68 (by decide) rfl ?_
    refine cm_ldc2 (pc := 69) dX6_digest_69 ctX6_302 ?_
    refine cm_lload1 (pc := 72) dX6_digest_72 ?_
    refine cm_lmul (pc := 73) dX6_digest_73 ?_
    refine cm_aload0 (pc := 74) dX6_digest_74 ?_
    refine cm_getR (pc := 75) flX6_21 dX6_digest_75 hX.ox hX.r2 ?_
    refine cm_getI (pc := 78) flX6_126 dX6_digest_78 hX.mp.1 ?_
    refine cm_aload0 (pc := 81) dX6_digest_81 ?_
    refine cm_getR (pc := 82) flX6_32 dX6_digest_82 hX.ox hX.r4 ?_
    refine cm_V0 (pc := 85) mX1_first_v mlX6_188 dX6_digest_85 hX.oh (by omega) (Nat.le_of_ble_eq_true rfl) (Nat.le_refl _) (Nat.le_refl _) (k_first (d := d + 3) hX) (fun r85 h85 hq85 => ?_)
    obtain ⟨rfl, rfl⟩ := hq85
    refine cm_isub (pc := 88) dX6_digest_88 ?_
    refine cm_i2l (pc := 89) dX6_digest_89 ?_
    refine cm_ladd (pc := 90) dX6_digest_90 ?_
    refine cm_lstore1 (pc := 91) dX6_digest_91 (by decide) rfl ?_
    refine cm_iconst (pc := 92) (v := 0) dX6_digest_92 (by decide) ?_
    refine cm_istore3 (pc := 93) dX6_digest_93 (by decide) rfl ?_
    have k9 := l_dg2 (D := D) (d := d) (hl := hl) hX h hI 3 0 (by omega)
    simp only [cDk] at k9
    rw [hif] at k9
    exact k9
  · have hif : (if hi 5 3 = 0 then (0 : Int32) else hi 5 0) = 0 := if_pos c43
    refine cm_iconst (pc := 46) (v := 0) dX6_digest_46 (by decide) ?_
    refine cm_goto (pc := 47) (tgt := 57) dX6_digest_47 (by decide) ?_
    refine cm_i2l (pc := 57) dX6_digest_57 ?_
    refine cm_ladd (pc := 58) dX6_digest_58 ?_
    refine cm_lstore1 (pc := 59) dX6_digest_59 (by decide) rfl ?_
    refine cm_aload0 (pc := 60) dX6_digest_60 ?_
    refine cm_getR (pc := 61) flX6_21 dX6_digest_61 hX.ox hX.r2 ?_
    refine cm_lload1 (pc := 64) dX6_digest_64 ?_
    refine cm_V1 (pc := 65) mX2_digestOn_v mlX6_307 dX6_digest_65 hX.mp.1 (by omega) (Nat.le_of_ble_eq_true rfl) (Nat.le_refl _) (Nat.le_refl _) (cm_ct_us 5 (k_mdigest (d := d + 2) hX.mp (show cm_sf hi 5 0 3 = nI nb from h.1.1) hnb (show cm_sf hi 5 0 2 = nI ns from h.1.2.2.1) hns)) (fun r65 h65 hq65 => ?_)
    obtain ⟨rfl, rfl⟩ := hq65
    rw [cm_us_sf]
    refine cm_lstore1 (pc := 68) dX6_digest_68 (by decide) rfl ?_
    refine cm_ldc2 (pc := 69) dX6_digest_69 ctX6_302 ?_
    refine cm_lload1 (pc := 72) dX6_digest_72 ?_
    refine cm_lmul (pc := 73) dX6_digest_73 ?_
    refine cm_aload0 (pc := 74) dX6_digest_74 ?_
    refine cm_getR (pc := 75) flX6_21 dX6_digest_75 hX.ox hX.r2 ?_
    refine cm_getI (pc := 78) flX6_126 dX6_digest_78 hX.mp.1 ?_
    refine cm_aload0 (pc := 81) dX6_digest_81 ?_
    refine cm_getR (pc := 82) flX6_32 dX6_digest_82 hX.ox hX.r4 ?_
    refine cm_V0 (pc := 85) mX1_first_v mlX6_188 dX6_digest_85 hX.oh (by omega) (Nat.le_of_ble_eq_true rfl) (Nat.le_refl _) (Nat.le_refl _) (k_first (d := d + 3) hX) (fun r85 h85 hq85 => ?_)
    obtain ⟨rfl, rfl⟩ := hq85
    refine cm_isub (pc := 88) dX6_digest_88 ?_
    refine cm_i2l (pc := 89) dX6_digest_89 ?_
    refine cm_ladd (pc := 90) dX6_digest_90 ?_
    refine cm_lstore1 (pc := 91) dX6_digest_91 (by decide) rfl ?_
    refine cm_iconst (pc := 92) (v := 0) dX6_digest_92 (by decide) ?_
    refine cm_istore3 (pc := 93) dX6_digest_93 (by decide) rfl ?_
    have k9 := l_dg2 (D := D) (d := d) (hl := hl) hX h hI 3 0 (by omega)
    simp only [cDk] at k9
    rw [hif] at k9
    exact k9
set_option maxRecDepth 20000 in
theorem l_dg1 (hX : cm_cls sh hr) (h : mOk (cm_sf hi 5) nb ns) (hI : cInv hi) : ∀ q k : Nat, k + q = 9 → cm_g D mX6_digest (d + 4) 0 0 (fun r9 h9 => r9 = some (.long (cDig hi nb ns)) ∧ h9 = (sh, hi, hl, hr)) 0 0 6 [some (.ref 2), some (.long (cDigF (cNum hi nb) 17 k)), none, some (.int (nI k))] [] (sh, hi, hl, hr) := by
  have hnb := h.1.2.1
  have hns := h.1.2.2.2
  intro q
  induction q with
  | zero =>
    intro k hk
    have h1 : k = 9 := by omega
    subst h1
    refine cm_iload3 (pc := 6) dX6_digest_6 ?_
    refine cm_bipush (pc := 7) (v := 9) dX6_digest_7 (by decide) ?_
    refine cm_icmp_ge (pc := 9) (tgt := 31) dX6_digest_9 (by decide) (fun c9 => ?_) (fun q => absurd (by decide) q)
    exact t_dg hX h hI
  | succ q ih =>
    intro k hk
    have hst := ih (k + 1) (by omega)
    refine cm_iload3 (pc := 6) dX6_digest_6 ?_
    refine cm_bipush (pc := 7) (v := 9) dX6_digest_7 (by decide) ?_
    refine cm_icmp_ge (pc := 9) (tgt := 31) dX6_digest_9 (by decide) (fun q => absurd q (nI_ge (a := k) (b := 9) (by omega) (by omega))) (fun c9 => ?_)
    refine cm_ldc2 (pc := 12) dX6_digest_12 ctX6_302 ?_
    refine cm_lload1 (pc := 15) dX6_digest_15 ?_
    refine cm_lmul (pc := 16) dX6_digest_16 ?_
    refine cm_aload0 (pc := 17) dX6_digest_17 ?_
    refine cm_iload3 (pc := 18) dX6_digest_18 ?_
    refine cm_V1 (pc := 19) mX6_numberOf_v mlX6_294 dX6_digest_19 hX.ox (by omega) (Nat.le_of_ble_eq_true rfl) (Nat.le_refl _) (Nat.le_refl _) (k_numberOf (d := d + 1) hX h) (fun r19 h19 hq19 => ?_)
    obtain ⟨rfl, rfl⟩ := hq19
    refine cm_i2l (pc := 22) dX6_digest_22 ?_
    refine cm_ladd (pc := 23) dX6_digest_23 ?_
    refine cm_lstore1 (pc := 24) dX6_digest_24 (by decide) rfl ?_
    refine cm_incN3 (pc := 25) dX6_digest_25 (by decide) rfl ?_
    refine cm_goto (pc := 28) (tgt := 6) dX6_digest_28 (by decide) ?_
    exact hst
set_option maxRecDepth 20000 in
theorem k_digest (hX : cm_cls sh hr) (h : mOk (cm_sf hi 5) nb ns) (hI : cInv hi) : cm_ct D mX6_digest (d + 4) 0 0 [.ref 2] (sh, hi, hl, hr) (fun r9 h9 => r9 = some (.long (cDig hi nb ns)) ∧ h9 = (sh, hi, hl, hr)) := by
  refine cm_ct_of (ls := [some (.ref 2), none, none, none]) 3 (by decide +kernel) rfl rfl ?_
  refine cm_ldc2 (pc := 0) dX6_digest_0 ctX6_300 ?_
  refine cm_lstore1 (pc := 3) dX6_digest_3 (by decide) rfl ?_
  refine cm_iconst (pc := 4) (v := 0) dX6_digest_4 (by decide) ?_
  refine cm_istore3 (pc := 5) dX6_digest_5 (by decide) rfl ?_
  exact l_dg1 hX h hI 9 0 (by omega)
end C4
