/-! PART market2: Market: counts, sums, shade of stalls, shift -/
def cAbs (v : Int32) : Int32 := if 0 ≤ v then v else 0 - v
def mSlack (g : cm_g2) (i : Nat) (kd : Int32) : Int32 := if g 5 i = 4 ∨ kd = 4 then 20 else g 0 0
def mShs (g : cm_g2) (nb : Nat) (mv : Int32) : Nat → Int32
  | 0 => 0
  | k + 1 => if mShaded g nb (g 1 k) mv then mShs g nb mv k ||| (1 <<< (nI k &&& 31)) else mShs g nb mv k
section MK6
variable {D : cm_D} {d : Nat} {sh : List cm_Sh} {hi g : cm_g2} {hl : Nat → Nat → Int64} {hr : Nat → Nat → Option Nat} {a nb ns : Nat}
set_option maxRecDepth 20000 in
theorem k_slackBehind (hM : cm_mkt sh hr a) {i : Nat} {kd : Int32} (hi6 : i < 6) : cm_ct D mX2_slackBehind d 0 0 [.ref a, .int (nI i), .int kd] (sh, cm_us hi a g, hl, hr) (fun r9 h9 => r9 = some (.int (mSlack g i kd)) ∧ h9 = (sh, cm_us hi a g, hl, hr)) := by
  refine cm_ct_of (ls := [some (.ref a), some (.int (nI i)), some (.int kd)]) 0 (by decide +kernel) rfl rfl ?_
  refine cm_aload0 (pc := 0) dX2_slackBehind_0 ?_
  refine cm_getR (pc := 1) flX2_24 dX2_slackBehind_1 hM.1 hM.r8 ?_
  refine cm_iload1 (pc := 4) dX2_slackBehind_4 ?_
  refine mk_get (pc := 5) dX2_slackBehind_5 hM.a5 (by omega) (by decide) ?_
  refine cm_iconst (pc := 6) (v := 4) dX2_slackBehind_6 (by decide) ?_
  refine cm_icmp_eq (pc := 7) (tgt := 15) dX2_slackBehind_7 (by decide) (fun c7 => ?_) (fun c7 => ?_)
  · refine cm_bipush (pc := 15) (v := 20) dX2_slackBehind_15 (by decide) ?_
    refine cm_goto (pc := 17) (tgt := 24) dX2_slackBehind_17 (by decide) ?_
    exact cm_iret (pc := 24) dX2_slackBehind_24 rfl ⟨by simp [mSlack, *], rfl⟩
  · refine cm_iload2 (pc := 10) dX2_slackBehind_10 ?_
    refine cm_iconst (pc := 11) (v := 4) dX2_slackBehind_11 (by decide) ?_
    refine cm_icmp_ne (pc := 12) (tgt := 20) dX2_slackBehind_12 (by decide) (fun c12 => ?_) (fun c12 => ?_)
    · refine cm_aload0 (pc := 20) dX2_slackBehind_20 ?_
      refine mk_fld (pc := 21) flX2_42 dX2_slackBehind_21 hM.1 ?_
      exact cm_iret (pc := 24) dX2_slackBehind_24 rfl ⟨by simp [mSlack, *], rfl⟩
    · refine cm_bipush (pc := 15) (v := 20) dX2_slackBehind_15 (by decide) ?_
      refine cm_goto (pc := 17) (tgt := 24) dX2_slackBehind_17 (by decide) ?_
      exact cm_iret (pc := 24) dX2_slackBehind_24 rfl ⟨by simp [mSlack, *], rfl⟩
set_option maxRecDepth 20000 in
theorem k_clear (hM : cm_mkt sh hr a)  : cm_ct D mX2_clear d 0 0 [.ref a] (sh, cm_us hi a g, hl, hr) (fun r9 h9 => r9 = none ∧ h9 = (sh, cm_us hi a (va_up g 0 (upd (upd (upd (upd (g 0) 0 0) 1 0) 2 0) 3 0)), hl, hr)) := by
  refine cm_ct_of (ls := [some (.ref a)]) 0 (by decide +kernel) rfl rfl ?_
  refine cm_aload0 (pc := 0) dX2_clear_0 ?_
  refine cm_iconst (pc := 1) (v := 0) dX2_clear_1 (by decide) ?_
  refine mk_set (pc := 2) fpX2_42 dX2_clear_2 hM.1 ?_
  refine cm_aload0 (pc := 5) dX2_clear_5 ?_
  refine cm_iconst (pc := 6) (v := 0) dX2_clear_6 (by decide) ?_
  refine mk_set (pc := 7) fpX2_46 dX2_clear_7 hM.1 ?_
  refine cm_aload0 (pc := 10) dX2_clear_10 ?_
  refine cm_iconst (pc := 11) (v := 0) dX2_clear_11 (by decide) ?_
  refine mk_set (pc := 12) fpX2_49 dX2_clear_12 hM.1 ?_
  refine cm_aload0 (pc := 15) dX2_clear_15 ?_
  refine cm_iconst (pc := 16) (v := 0) dX2_clear_16 (by decide) ?_
  refine mk_set (pc := 17) fpX2_52 dX2_clear_17 hM.1 ?_
  exact cm_vret (pc := 20) dX2_clear_20 rfl ⟨rfl, by simp only [bx_uu, va_up_self]⟩
set_option maxRecDepth 20000 in
theorem l_paidByAll (hM : cm_mkt sh hr a)  (hb : g 0 3 = nI nb) (hnb : nb ≤ 6)  : ∀ q k : Nat, k + q = nb → cm_g D mX2_paidByAll (d) 0 0 (fun r9 h9 => r9 = some (.int (sumP (g 8) nb)) ∧ h9 = (sh, cm_us hi a g, hl, hr)) 0 0 4 [some (.ref a), some (.int (sumP (g 8) k)), some (.int (nI k))] [] (sh, cm_us hi a g, hl, hr) := by
  intro q
  induction q with
  | zero =>
    intro k hk
    have h1 : k = nb := by omega
    subst h1
    refine cm_iload2 (pc := 4) dX2_paidByAll_4 ?_
    refine cm_aload0 (pc := 5) dX2_paidByAll_5 ?_
    refine mk_fld (pc := 6) flX2_52 dX2_paidByAll_6 hM.1 ?_
    rw [hb]
    refine cm_geN (pc := 9) (tgt := 27) dX2_paidByAll_9 (by decide) (by omega) (by omega) (fun c9 => ?_) (fun c9 => ?_)
    · refine cm_iload1 (pc := 27) dX2_paidByAll_27 ?_
      exact cm_iret (pc := 28) dX2_paidByAll_28 rfl ⟨rfl, rfl⟩
    · exact absurd c9 (by omega)
  | succ q ih =>
    intro k hk
    have hst := ih (k + 1) (by omega)
    refine cm_iload2 (pc := 4) dX2_paidByAll_4 ?_
    refine cm_aload0 (pc := 5) dX2_paidByAll_5 ?_
    refine mk_fld (pc := 6) flX2_52 dX2_paidByAll_6 hM.1 ?_
    rw [hb]
    refine cm_geN (pc := 9) (tgt := 27) dX2_paidByAll_9 (by decide) (by omega) (by omega) (fun c9 => ?_) (fun c9 => ?_)
    · exact absurd c9 (by omega)
    · refine cm_iload1 (pc := 12) dX2_paidByAll_12 ?_
      refine cm_aload0 (pc := 13) dX2_paidByAll_13 ?_
      refine cm_getR (pc := 14) flX2_33 dX2_paidByAll_14 hM.1 hM.r11 ?_
      refine cm_iload2 (pc := 17) dX2_paidByAll_17 ?_
      refine mk_get (pc := 18) dX2_paidByAll_18 hM.a8 (by omega) (by decide) ?_
      refine cm_iadd (pc := 19) dX2_paidByAll_19 ?_
      refine cm_istore1 (pc := 20) dX2_paidByAll_20 (by decide) rfl ?_
      refine cm_incN2 (pc := 21) dX2_paidByAll_21 (by decide) rfl ?_
      refine cm_goto (pc := 24) (tgt := 4) dX2_paidByAll_24 (by decide) ?_
      exact hst
set_option maxRecDepth 20000 in
theorem k_paidByAll (hM : cm_mkt sh hr a)  (hb : g 0 3 = nI nb) (hnb : nb ≤ 6)  : cm_ct D mX2_paidByAll d 0 0 [.ref a] (sh, cm_us hi a g, hl, hr) (fun r9 h9 => r9 = some (.int (sumP (g 8) nb)) ∧ h9 = (sh, cm_us hi a g, hl, hr)) := by
  refine cm_ct_of (ls := [some (.ref a), none, none]) 2 (by decide +kernel) rfl rfl ?_
  refine cm_iconst (pc := 0) (v := 0) dX2_paidByAll_0 (by decide) ?_
  refine cm_istore1 (pc := 1) dX2_paidByAll_1 (by decide) rfl ?_
  refine cm_iconst (pc := 2) (v := 0) dX2_paidByAll_2 (by decide) ?_
  refine cm_istore2 (pc := 3) dX2_paidByAll_3 (by decide) rfl ?_
  exact l_paidByAll hM hb hnb  nb 0 (by omega)
set_option maxRecDepth 20000 in
theorem l_pricesOfAll (hM : cm_mkt sh hr a)  (hs : g 0 2 = nI ns) (hns : ns ≤ 6)  : ∀ q k : Nat, k + q = ns → cm_g D mX2_pricesOfAll (d) 0 0 (fun r9 h9 => r9 = some (.int (sumP (g 3) ns)) ∧ h9 = (sh, cm_us hi a g, hl, hr)) 0 0 4 [some (.ref a), some (.int (sumP (g 3) k)), some (.int (nI k))] [] (sh, cm_us hi a g, hl, hr) := by
  intro q
  induction q with
  | zero =>
    intro k hk
    have h1 : k = ns := by omega
    subst h1
    refine cm_iload2 (pc := 4) dX2_pricesOfAll_4 ?_
    refine cm_aload0 (pc := 5) dX2_pricesOfAll_5 ?_
    refine mk_fld (pc := 6) flX2_49 dX2_pricesOfAll_6 hM.1 ?_
    rw [hs]
    refine cm_geN (pc := 9) (tgt := 27) dX2_pricesOfAll_9 (by decide) (by omega) (by omega) (fun c9 => ?_) (fun c9 => ?_)
    · refine cm_iload1 (pc := 27) dX2_pricesOfAll_27 ?_
      exact cm_iret (pc := 28) dX2_pricesOfAll_28 rfl ⟨rfl, rfl⟩
    · exact absurd c9 (by omega)
  | succ q ih =>
    intro k hk
    have hst := ih (k + 1) (by omega)
    refine cm_iload2 (pc := 4) dX2_pricesOfAll_4 ?_
    refine cm_aload0 (pc := 5) dX2_pricesOfAll_5 ?_
    refine mk_fld (pc := 6) flX2_49 dX2_pricesOfAll_6 hM.1 ?_
    rw [hs]
    refine cm_geN (pc := 9) (tgt := 27) dX2_pricesOfAll_9 (by decide) (by omega) (by omega) (fun c9 => ?_) (fun c9 => ?_)
    · exact absurd c9 (by omega)
    · refine cm_iload1 (pc := 12) dX2_pricesOfAll_12 ?_
      refine cm_aload0 (pc := 13) dX2_pricesOfAll_13 ?_
      refine cm_getR (pc := 14) flX2_18 dX2_pricesOfAll_14 hM.1 hM.r6 ?_
      refine cm_iload2 (pc := 17) dX2_pricesOfAll_17 ?_
      refine mk_get (pc := 18) dX2_pricesOfAll_18 hM.a3 (by omega) (by decide) ?_
      refine cm_iadd (pc := 19) dX2_pricesOfAll_19 ?_
      refine cm_istore1 (pc := 20) dX2_pricesOfAll_20 (by decide) rfl ?_
      refine cm_incN2 (pc := 21) dX2_pricesOfAll_21 (by decide) rfl ?_
      refine cm_goto (pc := 24) (tgt := 4) dX2_pricesOfAll_24 (by decide) ?_
      exact hst
set_option maxRecDepth 20000 in
theorem k_pricesOfAll (hM : cm_mkt sh hr a)  (hs : g 0 2 = nI ns) (hns : ns ≤ 6)  : cm_ct D mX2_pricesOfAll d 0 0 [.ref a] (sh, cm_us hi a g, hl, hr) (fun r9 h9 => r9 = some (.int (sumP (g 3) ns)) ∧ h9 = (sh, cm_us hi a g, hl, hr)) := by
  refine cm_ct_of (ls := [some (.ref a), none, none]) 2 (by decide +kernel) rfl rfl ?_
  refine cm_iconst (pc := 0) (v := 0) dX2_pricesOfAll_0 (by decide) ?_
  refine cm_istore1 (pc := 1) dX2_pricesOfAll_1 (by decide) rfl ?_
  refine cm_iconst (pc := 2) (v := 0) dX2_pricesOfAll_2 (by decide) ?_
  refine cm_istore2 (pc := 3) dX2_pricesOfAll_3 (by decide) rfl ?_
  exact l_pricesOfAll hM hs hns  ns 0 (by omega)
set_option maxRecDepth 20000 in
theorem l_howManyWant (hM : cm_mkt sh hr a)  (hb : g 0 3 = nI nb) (hnb : nb ≤ 6)  : ∀ q k : Nat, k + q = nb → cm_g D mX2_howManyWant (d) 0 0 (fun r9 h9 => r9 = some (.int (sumP (fun i => if g 7 i = 4 then 0 else 1) nb)) ∧ h9 = (sh, cm_us hi a g, hl, hr)) 0 0 4 [some (.ref a), some (.int (sumP (fun i => if g 7 i = 4 then 0 else 1) k)), some (.int (nI k))] [] (sh, cm_us hi a g, hl, hr) := by
  intro q
  induction q with
  | zero =>
    intro k hk
    have h1 : k = nb := by omega
    subst h1
    refine cm_iload2 (pc := 4) dX2_howManyWant_4 ?_
    refine cm_aload0 (pc := 5) dX2_howManyWant_5 ?_
    refine mk_fld (pc := 6) flX2_52 dX2_howManyWant_6 hM.1 ?_
    rw [hb]
    refine cm_geN (pc := 9) (tgt := 36) dX2_howManyWant_9 (by decide) (by omega) (by omega) (fun c9 => ?_) (fun c9 => ?_)
    · refine cm_iload1 (pc := 36) dX2_howManyWant_36 ?_
      exact cm_iret (pc := 37) dX2_howManyWant_37 rfl ⟨rfl, rfl⟩
    · exact absurd c9 (by omega)
  | succ q ih =>
    intro k hk
    have hst := ih (k + 1) (by omega)
    refine cm_iload2 (pc := 4) dX2_howManyWant_4 ?_
    refine cm_aload0 (pc := 5) dX2_howManyWant_5 ?_
    refine mk_fld (pc := 6) flX2_52 dX2_howManyWant_6 hM.1 ?_
    rw [hb]
    refine cm_geN (pc := 9) (tgt := 36) dX2_howManyWant_9 (by decide) (by omega) (by omega) (fun c9 => ?_) (fun c9 => ?_)
    · exact absurd c9 (by omega)
    · refine cm_iload1 (pc := 12) dX2_howManyWant_12 ?_
      refine cm_aload0 (pc := 13) dX2_howManyWant_13 ?_
      refine cm_getR (pc := 14) flX2_30 dX2_howManyWant_14 hM.1 hM.r10 ?_
      refine cm_iload2 (pc := 17) dX2_howManyWant_17 ?_
      refine mk_get (pc := 18) dX2_howManyWant_18 hM.a7 (by omega) (by decide) ?_
      refine cm_iconst (pc := 19) (v := 4) dX2_howManyWant_19 (by decide) ?_
      refine cm_icmp_eq (pc := 20) (tgt := 27) dX2_howManyWant_20 (by decide) (fun c20 => ?_) (fun c20 => ?_)
      · have e9 : sumP (fun i => if g 7 i = 4 then 0 else 1) (k + 1) = sumP (fun i => if g 7 i = 4 then 0 else 1) k + 0 := by simp [sumP, c20]
        rw [e9] at hst
        refine cm_iconst (pc := 27) (v := 0) dX2_howManyWant_27 (by decide) ?_
        refine cm_iadd (pc := 28) dX2_howManyWant_28 ?_
        refine cm_istore1 (pc := 29) dX2_howManyWant_29 (by decide) rfl ?_
        refine cm_incN2 (pc := 30) dX2_howManyWant_30 (by decide) rfl ?_
        refine cm_goto (pc := 33) (tgt := 4) dX2_howManyWant_33 (by decide) ?_
        exact hst
      · have e9 : sumP (fun i => if g 7 i = 4 then 0 else 1) (k + 1) = sumP (fun i => if g 7 i = 4 then 0 else 1) k + 1 := by simp [sumP, c20]
        rw [e9] at hst
        refine cm_iconst (pc := 23) (v := 1) dX2_howManyWant_23 (by decide) ?_
        refine cm_goto (pc := 24) (tgt := 28) dX2_howManyWant_24 (by decide) ?_
        refine cm_iadd (pc := 28) dX2_howManyWant_28 ?_
        refine cm_istore1 (pc := 29) dX2_howManyWant_29 (by decide) rfl ?_
        refine cm_incN2 (pc := 30) dX2_howManyWant_30 (by decide) rfl ?_
        refine cm_goto (pc := 33) (tgt := 4) dX2_howManyWant_33 (by decide) ?_
        exact hst
set_option maxRecDepth 20000 in
theorem k_howManyWant (hM : cm_mkt sh hr a)  (hb : g 0 3 = nI nb) (hnb : nb ≤ 6)  : cm_ct D mX2_howManyWant d 0 0 [.ref a] (sh, cm_us hi a g, hl, hr) (fun r9 h9 => r9 = some (.int (sumP (fun i => if g 7 i = 4 then 0 else 1) nb)) ∧ h9 = (sh, cm_us hi a g, hl, hr)) := by
  refine cm_ct_of (ls := [some (.ref a), none, none]) 2 (by decide +kernel) rfl rfl ?_
  refine cm_iconst (pc := 0) (v := 0) dX2_howManyWant_0 (by decide) ?_
  refine cm_istore1 (pc := 1) dX2_howManyWant_1 (by decide) rfl ?_
  refine cm_iconst (pc := 2) (v := 0) dX2_howManyWant_2 (by decide) ?_
  refine cm_istore2 (pc := 3) dX2_howManyWant_3 (by decide) rfl ?_
  exact l_howManyWant hM hb hnb  nb 0 (by omega)
set_option maxRecDepth 20000 in
theorem l_howManyOfKind (hM : cm_mkt sh hr a) {kd : Int32} (hb : g 0 3 = nI nb) (hnb : nb ≤ 6)  : ∀ q k : Nat, k + q = nb → cm_g D mX2_howManyOfKind (d + 1) 0 0 (fun r9 h9 => r9 = some (.int (sumP (fun i => cm_bi (mOf g i kd)) nb)) ∧ h9 = (sh, cm_us hi a g, hl, hr)) 0 0 4 [some (.ref a), some (.int kd), some (.int (sumP (fun i => cm_bi (mOf g i kd)) k)), some (.int (nI k))] [] (sh, cm_us hi a g, hl, hr) := by
  intro q
  induction q with
  | zero =>
    intro k hk
    have h1 : k = nb := by omega
    subst h1
    refine cm_iload3 (pc := 4) dX2_howManyOfKind_4 ?_
    refine cm_aload0 (pc := 5) dX2_howManyOfKind_5 ?_
    refine mk_fld (pc := 6) flX2_52 dX2_howManyOfKind_6 hM.1 ?_
    rw [hb]
    refine cm_geN (pc := 9) (tgt := 35) dX2_howManyOfKind_9 (by decide) (by omega) (by omega) (fun c9 => ?_) (fun c9 => ?_)
    · refine cm_iload2 (pc := 35) dX2_howManyOfKind_35 ?_
      exact cm_iret (pc := 36) dX2_howManyOfKind_36 rfl ⟨rfl, rfl⟩
    · exact absurd c9 (by omega)
  | succ q ih =>
    intro k hk
    have hst := ih (k + 1) (by omega)
    refine cm_iload3 (pc := 4) dX2_howManyOfKind_4 ?_
    refine cm_aload0 (pc := 5) dX2_howManyOfKind_5 ?_
    refine mk_fld (pc := 6) flX2_52 dX2_howManyOfKind_6 hM.1 ?_
    rw [hb]
    refine cm_geN (pc := 9) (tgt := 35) dX2_howManyOfKind_9 (by decide) (by omega) (by omega) (fun c9 => ?_) (fun c9 => ?_)
    · exact absurd c9 (by omega)
    · refine cm_iload2 (pc := 12) dX2_howManyOfKind_12 ?_
      refine cm_aload0 (pc := 13) dX2_howManyOfKind_13 ?_
      refine cm_iload3 (pc := 14) dX2_howManyOfKind_14 ?_
      refine cm_iload1 (pc := 15) dX2_howManyOfKind_15 ?_
      refine cm_V2 (pc := 16) mX2_isOfKind_v mlX2_145 dX2_howManyOfKind_16 hM.1 (by omega) (Nat.le_of_ble_eq_true rfl) (Nat.le_refl _) (Nat.le_refl _) (k_isOfKind hM (d := d) (i := k) (by omega)) (fun r16 h16 hq16 => ?_)
      obtain ⟨rfl, rfl⟩ := hq16
      refine cm_ifeqB (pc := 19) (tgt := 26) dX2_howManyOfKind_19 (by decide) (fun c19 => ?_) (fun c19 => ?_)
      · have e9 : sumP (fun i => cm_bi (mOf g i kd)) (k + 1) = sumP (fun i => cm_bi (mOf g i kd)) k + 0 := by simp [sumP, cm_bi, c19]
        rw [e9] at hst
        refine cm_iconst (pc := 26) (v := 0) dX2_howManyOfKind_26 (by decide) ?_
        refine cm_iadd (pc := 27) dX2_howManyOfKind_27 ?_
        refine cm_istore2 (pc := 28) dX2_howManyOfKind_28 (by decide) rfl ?_
        refine cm_incN3 (pc := 29) dX2_howManyOfKind_29 (by decide) rfl ?_
        refine cm_goto (pc := 32) (tgt := 4) dX2_howManyOfKind_32 (by decide) ?_
        exact hst
      · have e9 : sumP (fun i => cm_bi (mOf g i kd)) (k + 1) = sumP (fun i => cm_bi (mOf g i kd)) k + 1 := by simp [sumP, cm_bi, c19]
        rw [e9] at hst
        refine cm_iconst (pc := 22) (v := 1) dX2_howManyOfKind_22 (by decide) ?_
        refine cm_goto (pc := 23) (tgt := 27) dX2_howManyOfKind_23 (by decide) ?_
        refine cm_iadd (pc := 27) dX2_howManyOfKind_27 ?_
        refine cm_istore2 (pc := 28) dX2_howManyOfKind_28 (by decide) rfl ?_
        refine cm_incN3 (pc := 29) dX2_howManyOfKind_29 (by decide) rfl ?_
        refine cm_goto (pc := 32) (tgt := 4) dX2_howManyOfKind_32 (by decide) ?_
        exact hst
set_option maxRecDepth 20000 in
theorem k_howManyOfKind (hM : cm_mkt sh hr a) {kd : Int32} (hb : g 0 3 = nI nb) (hnb : nb ≤ 6)  : cm_ct D mX2_howManyOfKind (d + 1) 0 0 [.ref a, .int kd] (sh, cm_us hi a g, hl, hr) (fun r9 h9 => r9 = some (.int (sumP (fun i => cm_bi (mOf g i kd)) nb)) ∧ h9 = (sh, cm_us hi a g, hl, hr)) := by
  refine cm_ct_of (ls := [some (.ref a), some (.int kd), none, none]) 2 (by decide +kernel) rfl rfl ?_
  refine cm_iconst (pc := 0) (v := 0) dX2_howManyOfKind_0 (by decide) ?_
  refine cm_istore2 (pc := 1) dX2_howManyOfKind_1 (by decide) rfl ?_
  refine cm_iconst (pc := 2) (v := 0) dX2_howManyOfKind_2 (by decide) ?_
  refine cm_istore3 (pc := 3) dX2_howManyOfKind_3 (by decide) rfl ?_
  exact l_howManyOfKind hM hb hnb  nb 0 (by omega)
set_option maxRecDepth 20000 in
theorem l_stallsInReach (hM : cm_mkt sh hr a) {i : Nat} (hs : g 0 2 = nI ns) (hns : ns ≤ 6) (hi6 : i < 6) : ∀ q k : Nat, k + q = ns → cm_g D mX2_stallsInReach (d + 1) 0 0 (fun r9 h9 => r9 = some (.int (sumP (fun x => cm_bi (!decide (g 0 0 < cAbs (g 1 x - g 6 i)))) ns)) ∧ h9 = (sh, cm_us hi a g, hl, hr)) 0 0 4 [some (.ref a), some (.int (nI i)), some (.int (sumP (fun x => cm_bi (!decide (g 0 0 < cAbs (g 1 x - g 6 i)))) k)), some (.int (nI k))] [] (sh, cm_us hi a g, hl, hr) := by
  intro q
  induction q with
  | zero =>
    intro k hk
    have h1 : k = ns := by omega
    subst h1
    refine cm_iload3 (pc := 4) dX2_stallsInReach_4 ?_
    refine cm_aload0 (pc := 5) dX2_stallsInReach_5 ?_
    refine mk_fld (pc := 6) flX2_49 dX2_stallsInReach_6 hM.1 ?_
    rw [hs]
    refine cm_geN (pc := 9) (tgt := 49) dX2_stallsInReach_9 (by decide) (by omega) (by omega) (fun c9 => ?_) (fun c9 => ?_)
    · refine cm_iload2 (pc := 49) dX2_stallsInReach_49 ?_
      exact cm_iret (pc := 50) dX2_stallsInReach_50 rfl ⟨rfl, rfl⟩
    · exact absurd c9 (by omega)
  | succ q ih =>
    intro k hk
    have hst := ih (k + 1) (by omega)
    refine cm_iload3 (pc := 4) dX2_stallsInReach_4 ?_
    refine cm_aload0 (pc := 5) dX2_stallsInReach_5 ?_
    refine mk_fld (pc := 6) flX2_49 dX2_stallsInReach_6 hM.1 ?_
    rw [hs]
    refine cm_geN (pc := 9) (tgt := 49) dX2_stallsInReach_9 (by decide) (by omega) (by omega) (fun c9 => ?_) (fun c9 => ?_)
    · exact absurd c9 (by omega)
    · refine cm_iload2 (pc := 12) dX2_stallsInReach_12 ?_
      refine cm_aload0 (pc := 13) dX2_stallsInReach_13 ?_
      refine cm_getR (pc := 14) flX2_9 dX2_stallsInReach_14 hM.1 hM.r4 ?_
      refine cm_iload3 (pc := 17) dX2_stallsInReach_17 ?_
      refine mk_get (pc := 18) dX2_stallsInReach_18 hM.a1 (by omega) (by decide) ?_
      refine cm_aload0 (pc := 19) dX2_stallsInReach_19 ?_
      refine cm_getR (pc := 20) flX2_27 dX2_stallsInReach_20 hM.1 hM.r9 ?_
      refine cm_iload1 (pc := 23) dX2_stallsInReach_23 ?_
      refine mk_get (pc := 24) dX2_stallsInReach_24 hM.a6 (by omega) (by decide) ?_
      refine cm_isub (pc := 25) dX2_stallsInReach_25 ?_
      refine cm_abs (pc := 26) mJ9_abs_0f7a4_s lmX2_83 dX2_stallsInReach_26 (by omega) (Nat.le_of_ble_eq_true rfl) (Nat.le_refl _) (Nat.le_refl _) ?_
      refine cm_aload0 (pc := 29) dX2_stallsInReach_29 ?_
      refine mk_fld (pc := 30) flX2_42 dX2_stallsInReach_30 hM.1 ?_
      refine cm_icmp_gt (pc := 33) (tgt := 40) dX2_stallsInReach_33 (by decide) (fun c33 => ?_) (fun c33 => ?_)
      · have c33b : g 0 0 < cAbs (g 1 k - g 6 i) := c33
        have e9 : sumP (fun x => cm_bi (!decide (g 0 0 < cAbs (g 1 x - g 6 i)))) (k + 1) = sumP (fun x => cm_bi (!decide (g 0 0 < cAbs (g 1 x - g 6 i)))) k + 0 := by simp [sumP, cm_bi, c33b]
        rw [e9] at hst
        refine cm_iconst (pc := 40) (v := 0) dX2_stallsInReach_40 (by decide) ?_
        refine cm_iadd (pc := 41) dX2_stallsInReach_41 ?_
        refine cm_istore2 (pc := 42) dX2_stallsInReach_42 (by decide) rfl ?_
        refine cm_incN3 (pc := 43) dX2_stallsInReach_43 (by decide) rfl ?_
        refine cm_goto (pc := 46) (tgt := 4) dX2_stallsInReach_46 (by decide) ?_
        exact hst
      · have c33b : ¬ g 0 0 < cAbs (g 1 k - g 6 i) := c33
        have e9 : sumP (fun x => cm_bi (!decide (g 0 0 < cAbs (g 1 x - g 6 i)))) (k + 1) = sumP (fun x => cm_bi (!decide (g 0 0 < cAbs (g 1 x - g 6 i)))) k + 1 := by simp [sumP, cm_bi, c33b]
        rw [e9] at hst
        refine cm_iconst (pc := 36) (v := 1) dX2_stallsInReach_36 (by decide) ?_
        refine cm_goto (pc := 37) (tgt := 41) dX2_stallsInReach_37 (by decide) ?_
        refine cm_iadd (pc := 41) dX2_stallsInReach_41 ?_
        refine cm_istore2 (pc := 42) dX2_stallsInReach_42 (by decide) rfl ?_
        refine cm_incN3 (pc := 43) dX2_stallsInReach_43 (by decide) rfl ?_
        refine cm_goto (pc := 46) (tgt := 4) dX2_stallsInReach_46 (by decide) ?_
        exact hst
set_option maxRecDepth 20000 in
theorem k_stallsInReach (hM : cm_mkt sh hr a) {i : Nat} (hs : g 0 2 = nI ns) (hns : ns ≤ 6) (hi6 : i < 6) : cm_ct D mX2_stallsInReach (d + 1) 0 0 [.ref a, .int (nI i)] (sh, cm_us hi a g, hl, hr) (fun r9 h9 => r9 = some (.int (sumP (fun x => cm_bi (!decide (g 0 0 < cAbs (g 1 x - g 6 i)))) ns)) ∧ h9 = (sh, cm_us hi a g, hl, hr)) := by
  refine cm_ct_of (ls := [some (.ref a), some (.int (nI i)), none, none]) 2 (by decide +kernel) rfl rfl ?_
  refine cm_iconst (pc := 0) (v := 0) dX2_stallsInReach_0 (by decide) ?_
  refine cm_istore2 (pc := 1) dX2_stallsInReach_1 (by decide) rfl ?_
  refine cm_iconst (pc := 2) (v := 0) dX2_stallsInReach_2 (by decide) ?_
  refine cm_istore3 (pc := 3) dX2_stallsInReach_3 (by decide) rfl ?_
  exact l_stallsInReach hM hs hns hi6 ns 0 (by omega)
set_option maxRecDepth 20000 in
theorem l_stallsShaded (hM : cm_mkt sh hr a) {mv : Int32} (hs : g 0 2 = nI ns) (hns : ns ≤ 6) (hb : g 0 3 = nI nb) (hnb : nb ≤ 6) : ∀ q k : Nat, k + q = ns → cm_g D mX2_stallsShaded (d + 2) 0 0 (fun r9 h9 => r9 = some (.int (mShs g nb mv ns)) ∧ h9 = (sh, cm_us hi a g, hl, hr)) 0 0 4 [some (.ref a), some (.int mv), some (.int (mShs g nb mv k)), some (.int (nI k))] [] (sh, cm_us hi a g, hl, hr) := by
  intro q
  induction q with
  | zero =>
    intro k hk
    have h1 : k = ns := by omega
    subst h1
    refine cm_iload3 (pc := 4) dX2_stallsShaded_4 ?_
    refine cm_aload0 (pc := 5) dX2_stallsShaded_5 ?_
    refine mk_fld (pc := 6) flX2_49 dX2_stallsShaded_6 hM.1 ?_
    rw [hs]
    refine cm_geN (pc := 9) (tgt := 38) dX2_stallsShaded_9 (by decide) (by omega) (by omega) (fun c9 => ?_) (fun c9 => ?_)
    · refine cm_iload2 (pc := 38) dX2_stallsShaded_38 ?_
      exact cm_iret (pc := 39) dX2_stallsShaded_39 rfl ⟨rfl, rfl⟩
    · exact absurd c9 (by omega)
  | succ q ih =>
    intro k hk
    have hst := ih (k + 1) (by omega)
    refine cm_iload3 (pc := 4) dX2_stallsShaded_4 ?_
    refine cm_aload0 (pc := 5) dX2_stallsShaded_5 ?_
    refine mk_fld (pc := 6) flX2_49 dX2_stallsShaded_6 hM.1 ?_
    rw [hs]
    refine cm_geN (pc := 9) (tgt := 38) dX2_stallsShaded_9 (by decide) (by omega) (by omega) (fun c9 => ?_) (fun c9 => ?_)
    · exact absurd c9 (by omega)
    · refine cm_aload0 (pc := 12) dX2_stallsShaded_12 ?_
      refine cm_aload0 (pc := 13) dX2_stallsShaded_13 ?_
      refine cm_getR (pc := 14) flX2_9 dX2_stallsShaded_14 hM.1 hM.r4 ?_
      refine cm_iload3 (pc := 17) dX2_stallsShaded_17 ?_
      refine mk_get (pc := 18) dX2_stallsShaded_18 hM.a1 (by omega) (by decide) ?_
      refine cm_iload1 (pc := 19) dX2_stallsShaded_19 ?_
      refine cm_V2 (pc := 20) mX2_isShaded_v mlX2_125 dX2_stallsShaded_20 hM.1 (by omega) (Nat.le_of_ble_eq_true rfl) (Nat.le_refl _) (Nat.le_refl _) (k_isShaded hM (d := d) hb hnb) (fun r20 h20 hq20 => ?_)
      obtain ⟨rfl, rfl⟩ := hq20
      refine cm_ifeqB (pc := 23) (tgt := 32) dX2_stallsShaded_23 (by decide) (fun c23 => ?_) (fun c23 => ?_)
      · rw [show mShs g nb mv (k + 1) = mShs g nb mv k by simp [mShs, c23]] at hst
        refine cm_incN3 (pc := 32) dX2_stallsShaded_32 (by decide) rfl ?_
        refine cm_goto (pc := 35) (tgt := 4) dX2_stallsShaded_35 (by decide) ?_
        exact hst
      · rw [show mShs g nb mv (k + 1) = mShs g nb mv k ||| (1 <<< (nI k &&& 31)) by simp [mShs, c23]] at hst
        refine cm_iload2 (pc := 26) dX2_stallsShaded_26 ?_
        refine cm_iconst (pc := 27) (v := 1) dX2_stallsShaded_27 (by decide) ?_
        refine cm_iload3 (pc := 28) dX2_stallsShaded_28 ?_
        refine cm_ishl (pc := 29) dX2_stallsShaded_29 ?_
        refine cm_ior (pc := 30) dX2_stallsShaded_30 ?_
        refine cm_istore2 (pc := 31) dX2_stallsShaded_31 (by decide) rfl ?_
        refine cm_incN3 (pc := 32) dX2_stallsShaded_32 (by decide) rfl ?_
        refine cm_goto (pc := 35) (tgt := 4) dX2_stallsShaded_35 (by decide) ?_
        exact hst
set_option maxRecDepth 20000 in
theorem k_stallsShaded (hM : cm_mkt sh hr a) {mv : Int32} (hs : g 0 2 = nI ns) (hns : ns ≤ 6) (hb : g 0 3 = nI nb) (hnb : nb ≤ 6) : cm_ct D mX2_stallsShaded (d + 2) 0 0 [.ref a, .int mv] (sh, cm_us hi a g, hl, hr) (fun r9 h9 => r9 = some (.int (mShs g nb mv ns)) ∧ h9 = (sh, cm_us hi a g, hl, hr)) := by
  refine cm_ct_of (ls := [some (.ref a), some (.int mv), none, none]) 2 (by decide +kernel) rfl rfl ?_
  refine cm_iconst (pc := 0) (v := 0) dX2_stallsShaded_0 (by decide) ?_
  refine cm_istore2 (pc := 1) dX2_stallsShaded_1 (by decide) rfl ?_
  refine cm_iconst (pc := 2) (v := 0) dX2_stallsShaded_2 (by decide) ?_
  refine cm_istore3 (pc := 3) dX2_stallsShaded_3 (by decide) rfl ?_
  exact l_stallsShaded hM hs hns hb hnb ns 0 (by omega)
set_option maxRecDepth 20000 in
theorem k_neighboursApart (hM : cm_mkt sh hr a) {i : Nat} (hb : g 0 3 = nI nb) (hnb : nb ≤ 6) (hi6 : i < nb) : cm_ct D mX2_neighboursApart d 0 0 [.ref a, .int (nI i)] (sh, cm_us hi a g, hl, hr) (fun r9 h9 => r9 = some (.int (if 0 < i ∧ i + 1 < nb then g 6 (i + 1) - g 6 (i - 1) else 0)) ∧ h9 = (sh, cm_us hi a g, hl, hr)) := by
  refine cm_ct_of (ls := [some (.ref a), some (.int (nI i))]) 0 (by decide +kernel) rfl rfl ?_
  refine cm_iload1 (pc := 0) dX2_neighboursApart_0 ?_
  refine cm_if_le (pc := 1) (tgt := 34) dX2_neighboursApart_1 (by decide) (fun c1 => ?_) (fun c1 => ?_)
  · have h0 : ¬ 0 < i := by
      rcases Nat.eq_zero_or_pos i with q | q
      · omega
      · exact absurd c1 (nI_nle q (by omega))
    refine cm_iconst (pc := 34) (v := 0) dX2_neighboursApart_34 (by decide) ?_
    exact cm_iret (pc := 35) dX2_neighboursApart_35 rfl ⟨by simp [*], rfl⟩
  · have h0 : 0 < i := by
      rcases Nat.eq_zero_or_pos i with q | q
      · subst q; exact absurd (show nI 0 ≤ 0 by decide) c1
      · exact q
    refine cm_iload1 (pc := 4) dX2_neighboursApart_4 ?_
    refine cm_iconst (pc := 5) (v := 1) dX2_neighboursApart_5 (by decide) ?_
    refine cm_iadd (pc := 6) dX2_neighboursApart_6 ?_
    rw [nI_1]
    refine cm_aload0 (pc := 7) dX2_neighboursApart_7 ?_
    refine mk_fld (pc := 8) flX2_52 dX2_neighboursApart_8 hM.1 ?_
    rw [hb]
    refine cm_geN (pc := 11) (tgt := 34) dX2_neighboursApart_11 (by decide) (by omega) (by omega) (fun c11 => ?_) (fun c11 => ?_)
    · have h1 : ¬ i + 1 < nb := by omega
      refine cm_iconst (pc := 34) (v := 0) dX2_neighboursApart_34 (by decide) ?_
      exact cm_iret (pc := 35) dX2_neighboursApart_35 rfl ⟨by simp [*], rfl⟩
    · have h1 : i + 1 < nb := c11
      refine cm_aload0 (pc := 14) dX2_neighboursApart_14 ?_
      refine cm_getR (pc := 15) flX2_27 dX2_neighboursApart_15 hM.1 hM.r9 ?_
      refine cm_iload1 (pc := 18) dX2_neighboursApart_18 ?_
      refine cm_iconst (pc := 19) (v := 1) dX2_neighboursApart_19 (by decide) ?_
      refine cm_iadd (pc := 20) dX2_neighboursApart_20 ?_
      rw [nI_1]
      refine mk_get (pc := 21) dX2_neighboursApart_21 hM.a6 (by omega) (by decide) ?_
      refine cm_aload0 (pc := 22) dX2_neighboursApart_22 ?_
      refine cm_getR (pc := 23) flX2_27 dX2_neighboursApart_23 hM.1 hM.r9 ?_
      refine cm_iload1 (pc := 26) dX2_neighboursApart_26 ?_
      refine cm_iconst (pc := 27) (v := 1) dX2_neighboursApart_27 (by decide) ?_
      refine cm_isub (pc := 28) dX2_neighboursApart_28 ?_
      rw [show nI i - 1 = nI (i - 1) from pk_sub (b := 1) h0]
      refine mk_get (pc := 29) dX2_neighboursApart_29 hM.a6 (by omega) (by decide) ?_
      refine cm_isub (pc := 30) dX2_neighboursApart_30 ?_
      refine cm_goto (pc := 31) (tgt := 35) dX2_neighboursApart_31 (by decide) ?_
      exact cm_iret (pc := 35) dX2_neighboursApart_35 rfl ⟨by simp [*], rfl⟩
set_option maxRecDepth 20000 in
theorem k_takenAlongRight (hM : cm_mkt sh hr a) {i : Nat} (hb : g 0 3 = nI nb) (hnb : nb ≤ 6) (hi6 : i < nb) : cm_ct D mX2_takenAlongRight (d + 2) 0 0 [.ref a, .int (nI i)] (sh, cm_us hi a g, hl, hr) (fun r9 h9 => r9 = some (.int (if mCan g (mFirst g 1 i) (mLast g nb 1 nb i) 1 then cm_oi (mLast g nb 1 nb i) - cm_oi (mFirst g 1 i) else 0)) ∧ h9 = (sh, cm_us hi a g, hl, hr)) := by
  refine cm_ct_of (ls := [some (.ref a), some (.int (nI i)), none, none]) 2 (by decide +kernel) rfl rfl ?_
  refine cm_aload0 (pc := 0) dX2_takenAlongRight_0 ?_
  refine cm_iload1 (pc := 1) dX2_takenAlongRight_1 ?_
  refine cm_iconst (pc := 2) (v := 1) dX2_takenAlongRight_2 (by decide) ?_
  refine cm_V2 (pc := 3) mX2_firstTaken_v mlX2_116 dX2_takenAlongRight_3 hM.1 (by omega) (Nat.le_of_ble_eq_true rfl) (Nat.le_refl _) (Nat.le_refl _) (k_firstTaken hM (d := d) (i := i) (by omega)) (fun r3 h3 hq3 => ?_)
  obtain ⟨rfl, rfl⟩ := hq3
  refine cm_istore2 (pc := 6) dX2_takenAlongRight_6 (by decide) rfl ?_
  refine cm_aload0 (pc := 7) dX2_takenAlongRight_7 ?_
  refine cm_iload1 (pc := 8) dX2_takenAlongRight_8 ?_
  refine cm_iconst (pc := 9) (v := 1) dX2_takenAlongRight_9 (by decide) ?_
  refine cm_V2 (pc := 10) mX2_lastTaken_v mlX2_119 dX2_takenAlongRight_10 hM.1 (by omega) (Nat.le_of_ble_eq_true rfl) (Nat.le_refl _) (Nat.le_refl _) (k_lastTaken hM (d := d) (i := i) hb hnb (by omega)) (fun r10 h10 hq10 => ?_)
  obtain ⟨rfl, rfl⟩ := hq10
  refine cm_istore3 (pc := 13) dX2_takenAlongRight_13 (by decide) rfl ?_
  refine cm_aload0 (pc := 14) dX2_takenAlongRight_14 ?_
  refine cm_iload2 (pc := 15) dX2_takenAlongRight_15 ?_
  refine cm_iload3 (pc := 16) dX2_takenAlongRight_16 ?_
  refine cm_iconst (pc := 17) (v := 1) dX2_takenAlongRight_17 (by decide) ?_
  refine cm_V3 (pc := 18) mX2_canGo_v mlX2_122 dX2_takenAlongRight_18 hM.1 (by omega) (Nat.le_of_ble_eq_true rfl) (Nat.le_refl _) (Nat.le_refl _) (k_canGo hM (d := d + 1) (f := mFirst g 1 i) (t := mLast g nb 1 nb i) (fun k hk => by have := mFirst_le hk; omega) (fun k hk => by have := mLast_ge hk; omega)) (fun r18 h18 hq18 => ?_)
  obtain ⟨rfl, rfl⟩ := hq18
  refine cm_ifeqB (pc := 21) (tgt := 30) dX2_takenAlongRight_21 (by decide) (fun c21 => ?_) (fun c21 => ?_)
  · refine cm_iconst (pc := 30) (v := 0) dX2_takenAlongRight_30 (by decide) ?_
    exact cm_iret (pc := 31) dX2_takenAlongRight_31 rfl ⟨by simp [*], rfl⟩
  · refine cm_iload3 (pc := 24) dX2_takenAlongRight_24 ?_
    refine cm_iload2 (pc := 25) dX2_takenAlongRight_25 ?_
    refine cm_isub (pc := 26) dX2_takenAlongRight_26 ?_
    refine cm_goto (pc := 27) (tgt := 31) dX2_takenAlongRight_27 (by decide) ?_
    exact cm_iret (pc := 31) dX2_takenAlongRight_31 rfl ⟨by simp [*], rfl⟩
end MK6
