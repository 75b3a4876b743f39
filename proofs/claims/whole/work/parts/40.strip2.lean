/-! PART strip2: Strip, the rest -/
def stGet (g : cm_g2) (i : Int32) : Int32 := if isW i (g 0 1) then g 1 i.toNatClampNeg else -1000
def stPut (g : cm_g2) (i v : Int32) : cm_g2 := if isW i (g 0 1) then va_up g 1 (upd (g 1) i.toNatClampNeg v) else g
def stFill (g : cm_g2) (m : Nat) (v : Int32) (k : Nat) : cm_g2 := va_up (va_up g 0 (upd (g 0) 1 (nI m))) 1 (fun x => if x < k then v else g 1 x)
def stDel (g : cm_g2) : cm_g2 := va_up g 0 (upd (g 0) 1 (-1))
def stSum (f : Nat → Int32) : Nat → Int64
  | 0 => 0
  | k + 1 => stSum f k + (f k).toInt64
def stDig (f : Nat → Int32) (h : Int64) : Nat → Int64
  | 0 => h
  | k + 1 => 31 * stDig f h k + (f k).toInt64
theorem isW_nI {i sz : Int32} (h : isW i sz = true) : i = nI i.toNatClampNeg := z_of (isW_z.mp h).1
theorem isW_lt {i sz : Int32} {n : Nat} (h : isW i sz = true) (hs : sz.toInt ≤ n) : i.toNatClampNeg < n := by
  have := isW_z.mp h
  rw [z_cl]
  omega
theorem isU_z {v m : Int32} : isU v m = true ↔ 0 ≤ v.toInt ∧ v.toInt ≤ m.toInt := by
  unfold isU
  simp only [Bool.and_eq_true, Bool.not_eq_true', decide_eq_false_iff_not, Int32.lt_iff_toInt_lt]
  have z0 : (0 : Int32).toInt = 0 := by decide
  rw [z0]
  omega
theorem stFill_0 {g : cm_g2} {m : Nat} {v : Int32} : stFill g m v 0 = va_up g 0 (upd (g 0) 1 (nI m)) := by
  funext c x
  unfold stFill va_up
  by_cases h : c = 1
  · subst h; simp
  · simp [h]
theorem stFill_s {g : cm_g2} {m k : Nat} {v : Int32} : va_up (stFill g m v k) 1 (upd (stFill g m v k 1) k v) = stFill g m v (k + 1) := by
  unfold stFill
  rw [va_up_self, bx_uu]
  congr 1
  funext x
  unfold upd
  by_cases h : x = k
  · subst h
    rw [if_pos rfl, if_pos (show x < x + 1 by omega)]
  · rw [if_neg h]
    show (if x < k then v else g 1 x) = _
    by_cases h2 : x < k
    · rw [if_pos h2, if_pos (show x < k + 1 by omega)]
    · rw [if_neg h2, if_neg (show ¬ x < k + 1 by omega)]
section ST2
variable {D : cm_D} {d : Nat} {sh : List cm_Sh} {hi g : cm_g2} {hl : Nat → Nat → Int64} {hr : Nat → Nat → Option Nat} {a n : Nat}
set_option maxRecDepth 20000 in
theorem k_get (hS : cm_str sh hr a n) (hn : n < 2147483648) (hsz : (g 0 1).toInt ≤ n) {i : Int32} : cm_ct D mX4_get (d + 2) 0 0 [.ref a, .int i] (sh, cm_us hi a g, hl, hr) (fun r9 h9 => r9 = some (.int (stGet g i)) ∧ h9 = (sh, cm_us hi a g, hl, hr)) := by
  refine cm_ct_of (ls := [some (.ref a), some (.int i)]) 0 (by decide +kernel) rfl rfl ?_
  refine cm_iload1 (pc := 0) dX4_get_0 ?_
  refine cm_if_lt (pc := 1) (tgt := 21) dX4_get_1 (by decide) (fun c1 => ?_) (fun c1 => ?_)
  · refine cm_sipush (pc := 21) (v := -1000) dX4_get_21 (by decide) ?_
    exact cm_iret (pc := 24) dX4_get_24 rfl ⟨by simp [stGet, isW, *], rfl⟩
  · refine cm_iload1 (pc := 4) dX4_get_4 ?_
    refine cm_aload0 (pc := 5) dX4_get_5 ?_
    refine mk_fld (pc := 6) flX4_11 dX4_get_6 hS.1 ?_
    refine cm_icmp_ge (pc := 9) (tgt := 21) dX4_get_9 (by decide) (fun c9 => ?_) (fun c9 => ?_)
    · refine cm_sipush (pc := 21) (v := -1000) dX4_get_21 (by decide) ?_
      exact cm_iret (pc := 24) dX4_get_24 rfl ⟨by simp [stGet, isW, *], rfl⟩
    · have c5 : isW i (g 0 1) = true := by simp [isW, *]
      refine cm_aload0 (pc := 12) dX4_get_12 ?_
      refine cm_getR (pc := 13) flX4_15 dX4_get_13 hS.1 hS.2.1 ?_
      refine cm_iload1 (pc := 16) dX4_get_16 ?_
      refine mk_getE (pc := 17) (i.toNatClampNeg) dX4_get_17 hS.2.2 (isW_nI c5) (isW_lt c5 hsz) hn ?_
      refine cm_goto (pc := 18) (tgt := 24) dX4_get_18 (by decide) ?_
      exact cm_iret (pc := 24) dX4_get_24 rfl ⟨by simp [stGet, c5], rfl⟩
set_option maxRecDepth 20000 in
theorem k_exchange (hS : cm_str sh hr a n) (hn : n < 2147483648) (hsz : (g 0 1).toInt ≤ n) {i v : Int32} : cm_ct D mX4_exchange (d + 3) 0 0 [.ref a, .int i, .int v] (sh, cm_us hi a g, hl, hr) (fun r9 h9 => r9 = some (.int (stGet g i)) ∧ h9 = (sh, cm_us hi a (stPut g i v), hl, hr)) := by
  refine cm_ct_of (ls := [some (.ref a), some (.int i), some (.int v), none]) 1 (by decide +kernel) rfl rfl ?_
  refine cm_aload0 (pc := 0) dX4_exchange_0 ?_
  refine cm_iload1 (pc := 1) dX4_exchange_1 ?_
  refine cm_V1 (pc := 2) mX4_get_v mlX4_23 dX4_exchange_2 hS.1 (by omega) (Nat.le_of_ble_eq_true rfl) (Nat.le_refl _) (Nat.le_refl _) (k_get hS hn hsz (d := d)) (fun r2 h2 hq2 => ?_)
  obtain ⟨rfl, rfl⟩ := hq2
  refine cm_istore3 (pc := 5) dX4_exchange_5 (by decide) rfl ?_
  refine cm_aload0 (pc := 6) dX4_exchange_6 ?_
  refine cm_iload1 (pc := 7) dX4_exchange_7 ?_
  refine cm_V1 (pc := 8) mX4_has_v mlX4_27 dX4_exchange_8 hS.1 (by omega) (Nat.le_of_ble_eq_true rfl) (Nat.le_refl _) (Nat.le_refl _) (k_has hS (d := d + 1)) (fun r8 h8 hq8 => ?_)
  obtain ⟨rfl, rfl⟩ := hq8
  rw [cm_us_0]
  refine cm_ifeqB (pc := 11) (tgt := 21) dX4_exchange_11 (by decide) (fun c11 => ?_) (fun c11 => ?_)
  · refine cm_iload3 (pc := 21) dX4_exchange_21 ?_
    exact cm_iret (pc := 22) dX4_exchange_22 rfl ⟨rfl, by simp [stPut, *]⟩
  · refine cm_aload0 (pc := 14) dX4_exchange_14 ?_
    refine cm_getR (pc := 15) flX4_15 dX4_exchange_15 hS.1 hS.2.1 ?_
    refine cm_iload1 (pc := 18) dX4_exchange_18 ?_
    refine cm_iload2 (pc := 19) dX4_exchange_19 ?_
    refine mk_putE (pc := 20) (i.toNatClampNeg) dX4_exchange_20 hS.2.2 (isW_nI c11) (isW_lt c11 hsz) hn ?_
    refine cm_iload3 (pc := 21) dX4_exchange_21 ?_
    exact cm_iret (pc := 22) dX4_exchange_22 rfl ⟨rfl, by simp [stPut, *]⟩
set_option maxRecDepth 20000 in
theorem k_remove (hS : cm_str sh hr a n) : cm_ct D mX4_remove d 0 0 [.ref a] (sh, cm_us hi a g, hl, hr) (fun r9 h9 => r9 = none ∧ h9 = (sh, cm_us hi a (stDel g), hl, hr)) := by
  refine cm_ct_of (ls := [some (.ref a)]) 0 (by decide +kernel) rfl rfl ?_
  refine cm_aload0 (pc := 0) dX4_remove_0 ?_
  refine cm_iconst (pc := 1) (v := -1) dX4_remove_1 (by decide) ?_
  refine mk_set (pc := 2) fpX4_11 dX4_remove_2 hS.1 ?_
  exact cm_vret (pc := 5) dX4_remove_5 rfl ⟨rfl, rfl⟩
set_option maxRecDepth 20000 in
theorem l_renew (hS : cm_str sh hr a n) (hn : n < 2147483648) {m : Nat} {v : Int32} (hm : m ≤ n) : ∀ q k : Nat, k + q = m → cm_g D mX4_renew (d + 1) 0 0 (fun r9 h9 => r9 = none ∧ h9 = (sh, cm_us hi a (stFill g m v m), hl, hr)) 0 0 23 [some (.ref a), some (.int (nI m)), some (.int v), some (.int (nI k))] [] (sh, cm_us hi a (stFill g m v k), hl, hr) := by
  intro q
  induction q with
  | zero =>
    intro k hk
    have h1 : k = m := by omega
    subst h1
    have e : stFill g k v k 0 1 = nI k := by simp [stFill, va_up, upd]
    refine cm_iload3 (pc := 23) dX4_renew_23 ?_
    refine cm_aload0 (pc := 24) dX4_renew_24 ?_
    refine mk_fld (pc := 25) flX4_11 dX4_renew_25 hS.1 ?_
    rw [e]
    refine cm_geN (pc := 28) (tgt := 44) dX4_renew_28 (by decide) (by omega) (by omega) (fun c28 => ?_) (fun c28 => ?_)
    · exact cm_vret (pc := 44) dX4_renew_44 rfl ⟨rfl, rfl⟩
    · exact absurd c28 (by omega)
  | succ q ih =>
    intro k hk
    have e : stFill g m v k 0 1 = nI m := by simp [stFill, va_up, upd]
    refine cm_iload3 (pc := 23) dX4_renew_23 ?_
    refine cm_aload0 (pc := 24) dX4_renew_24 ?_
    refine mk_fld (pc := 25) flX4_11 dX4_renew_25 hS.1 ?_
    rw [e]
    refine cm_geN (pc := 28) (tgt := 44) dX4_renew_28 (by decide) (by omega) (by omega) (fun c28 => ?_) (fun c28 => ?_)
    · exact absurd c28 (by omega)
    · refine cm_aload0 (pc := 31) dX4_renew_31 ?_
      refine cm_getR (pc := 32) flX4_15 dX4_renew_32 hS.1 hS.2.1 ?_
      refine cm_iload3 (pc := 35) dX4_renew_35 ?_
      refine cm_iload2 (pc := 36) dX4_renew_36 ?_
      refine mk_put (pc := 37) dX4_renew_37 hS.2.2 (by omega) hn ?_
      rw [stFill_s]
      refine cm_incN3 (pc := 38) dX4_renew_38 (by decide) rfl ?_
      refine cm_goto (pc := 41) (tgt := 23) dX4_renew_41 (by decide) ?_
      exact ih (k + 1) (by omega)
set_option maxRecDepth 20000 in
theorem k_renew (hS : cm_str sh hr a n) (hn : n < 2147483648) {m : Nat} {v : Int32} (hm : m ≤ n) : cm_ct D mX4_renew (d + 1) 0 0 [.ref a, .int (nI m), .int v] (sh, cm_us hi a g, hl, hr) (fun r9 h9 => r9 = none ∧ h9 = (sh, cm_us hi a (stFill g m v m), hl, hr)) := by
  refine cm_ct_of (ls := [some (.ref a), some (.int (nI m)), some (.int v), none]) 1 (by decide +kernel) rfl rfl ?_
  refine cm_aload0 (pc := 0) dX4_renew_0 ?_
  refine cm_iload1 (pc := 1) dX4_renew_1 ?_
  refine cm_aload0 (pc := 2) dX4_renew_2 ?_
  refine cm_getR (pc := 3) flX4_15 dX4_renew_3 hS.1 hS.2.1 ?_
  refine cm_alen (pc := 6) dX4_renew_6 hS.2.2 ?_
  refine cm_S2 (pc := 7) mX6_isUpTo_s mlX4_19 dX4_renew_7 (by omega) (Nat.le_of_ble_eq_true rfl) (Nat.le_refl _) (Nat.le_refl _) (k_isUpTo (d := d)) (fun r7 h7 hq7 => ?_)
  obtain ⟨rfl, rfl⟩ := hq7
  refine cm_ifeqB (pc := 10) (tgt := 17) dX4_renew_10 (by decide) (fun c10 => ?_) (fun c10 => ?_)
  · exact absurd ((isU_z (v := nI m) (m := nI n)).mpr (by rw [nI_toInt (show m < 2 ^ 31 by omega), nI_toInt (show n < 2 ^ 31 by omega)]; omega)) (by rw [c10]; decide)
  · refine cm_iload1 (pc := 13) dX4_renew_13 ?_
    refine cm_goto (pc := 14) (tgt := 18) dX4_renew_14 (by decide) ?_
    refine mk_set (pc := 18) fpX4_11 dX4_renew_18 hS.1 ?_
    refine cm_iconst (pc := 21) (v := 0) dX4_renew_21 (by decide) ?_
    refine cm_istore3 (pc := 22) dX4_renew_22 (by decide) rfl ?_
    refine cm_h_eq (show _ = (sh, cm_us hi a (stFill g m v 0), hl, hr) by rw [stFill_0]) ?_
    exact l_renew hS hn hm m 0 (by omega)
set_option maxRecDepth 20000 in
theorem l_ssum (hS : cm_str sh hr a n) (hn : n < 2147483648) {m : Nat} (hm : m ≤ n) (hz : g 0 1 = nI m) : ∀ q k : Nat, k + q = m → cm_g D mX4_sum (d) 0 0 (fun r9 h9 => r9 = some (.long (stSum (g 1) m)) ∧ h9 = (sh, cm_us hi a g, hl, hr)) 0 0 4 [some (.ref a), some (.long (stSum (g 1) k)), none, some (.int (nI k))] [] (sh, cm_us hi a g, hl, hr) := by
  intro q
  induction q with
  | zero =>
    intro k hk
    have h1 : k = m := by omega
    subst h1
    refine cm_iload3 (pc := 4) dX4_sum_4 ?_
    refine cm_aload0 (pc := 5) dX4_sum_5 ?_
    refine mk_fld (pc := 6) flX4_11 dX4_sum_6 hS.1 ?_
    rw [hz]
    refine cm_geN (pc := 9) (tgt := 28) dX4_sum_9 (by decide) (by omega) (by omega) (fun c9 => ?_) (fun c9 => ?_)
    · refine cm_lload1 (pc := 28) dX4_sum_28 ?_
      exact cm_lret (pc := 29) dX4_sum_29 rfl ⟨rfl, rfl⟩
    · exact absurd c9 (by omega)
  | succ q ih =>
    intro k hk
    refine cm_iload3 (pc := 4) dX4_sum_4 ?_
    refine cm_aload0 (pc := 5) dX4_sum_5 ?_
    refine mk_fld (pc := 6) flX4_11 dX4_sum_6 hS.1 ?_
    rw [hz]
    refine cm_geN (pc := 9) (tgt := 28) dX4_sum_9 (by decide) (by omega) (by omega) (fun c9 => ?_) (fun c9 => ?_)
    · exact absurd c9 (by omega)
    · refine cm_lload1 (pc := 12) dX4_sum_12 ?_
      refine cm_aload0 (pc := 13) dX4_sum_13 ?_
      refine cm_getR (pc := 14) flX4_15 dX4_sum_14 hS.1 hS.2.1 ?_
      refine cm_iload3 (pc := 17) dX4_sum_17 ?_
      refine mk_get (pc := 18) dX4_sum_18 hS.2.2 (by omega) hn ?_
      refine cm_i2l (pc := 19) dX4_sum_19 ?_
      refine cm_ladd (pc := 20) dX4_sum_20 ?_
      refine cm_lstore1 (pc := 21) dX4_sum_21 (by decide) rfl ?_
      refine cm_incN3 (pc := 22) dX4_sum_22 (by decide) rfl ?_
      refine cm_goto (pc := 25) (tgt := 4) dX4_sum_25 (by decide) ?_
      exact ih (k + 1) (by omega)
set_option maxRecDepth 20000 in
theorem k_sum (hS : cm_str sh hr a n) (hn : n < 2147483648) {m : Nat} (hm : m ≤ n) (hz : g 0 1 = nI m) : cm_ct D mX4_sum d 0 0 [.ref a] (sh, cm_us hi a g, hl, hr) (fun r9 h9 => r9 = some (.long (stSum (g 1) m)) ∧ h9 = (sh, cm_us hi a g, hl, hr)) := by
  refine cm_ct_of (ls := [some (.ref a), none, none, none]) 3 (by decide +kernel) rfl rfl ?_
  refine cm_lconst (pc := 0) (v := 0) dX4_sum_0 (by decide) ?_
  refine cm_lstore1 (pc := 1) dX4_sum_1 (by decide) rfl ?_
  refine cm_iconst (pc := 2) (v := 0) dX4_sum_2 (by decide) ?_
  refine cm_istore3 (pc := 3) dX4_sum_3 (by decide) rfl ?_
  exact l_ssum hS hn hm hz m 0 (by omega)
set_option maxRecDepth 20000 in
theorem l_dig (hS : cm_str sh hr a n) (hn : n < 2147483648) {m : Nat} (hm : m ≤ n) (hz : g 0 1 = nI m) {h0 : Int64} : ∀ q k : Nat, k + q = m → cm_g D mX4_digestOn (d) 0 0 (fun r9 h9 => r9 = some (.long (stDig (g 1) (31 * h0 + (g 0 1).toInt64) m)) ∧ h9 = (sh, cm_us hi a g, hl, hr)) 0 0 14 [some (.ref a), some (.long (stDig (g 1) (31 * h0 + (g 0 1).toInt64) k)), none, some (.int (nI k))] [] (sh, cm_us hi a g, hl, hr) := by
  intro q
  induction q with
  | zero =>
    intro k hk
    have h1 : k = m := by omega
    subst h1
    refine cm_iload3 (pc := 14) dX4_digestOn_14 ?_
    refine cm_aload0 (pc := 15) dX4_digestOn_15 ?_
    refine mk_fld (pc := 16) flX4_11 dX4_digestOn_16 hS.1 ?_
    refine cm_top_eq hz ?_
    refine cm_geN (pc := 19) (tgt := 42) dX4_digestOn_19 (by decide) (by omega) (by omega) (fun c19 => ?_) (fun c19 => ?_)
    · refine cm_lload1 (pc := 42) dX4_digestOn_42 ?_
      exact cm_lret (pc := 43) dX4_digestOn_43 rfl ⟨rfl, rfl⟩
    · exact absurd c19 (by omega)
  | succ q ih =>
    intro k hk
    refine cm_iload3 (pc := 14) dX4_digestOn_14 ?_
    refine cm_aload0 (pc := 15) dX4_digestOn_15 ?_
    refine mk_fld (pc := 16) flX4_11 dX4_digestOn_16 hS.1 ?_
    refine cm_top_eq hz ?_
    refine cm_geN (pc := 19) (tgt := 42) dX4_digestOn_19 (by decide) (by omega) (by omega) (fun c19 => ?_) (fun c19 => ?_)
    · exact absurd c19 (by omega)
    · refine cm_ldc2 (pc := 22) dX4_digestOn_22 ctX4_40 ?_
      refine cm_lload1 (pc := 25) dX4_digestOn_25 ?_
      refine cm_lmul (pc := 26) dX4_digestOn_26 ?_
      refine cm_aload0 (pc := 27) dX4_digestOn_27 ?_
      refine cm_getR (pc := 28) flX4_15 dX4_digestOn_28 hS.1 hS.2.1 ?_
      refine cm_iload3 (pc := 31) dX4_digestOn_31 ?_
      refine mk_get (pc := 32) dX4_digestOn_32 hS.2.2 (by omega) hn ?_
      refine cm_i2l (pc := 33) dX4_digestOn_33 ?_
      refine cm_ladd (pc := 34) dX4_digestOn_34 ?_
      refine cm_lstore1 (pc := 35) dX4_digestOn_35 (by decide) rfl ?_
      refine cm_incN3 (pc := 36) dX4_digestOn_36 (by decide) rfl ?_
      refine cm_goto (pc := 39) (tgt := 14) dX4_digestOn_39 (by decide) ?_
      exact ih (k + 1) (by omega)
set_option maxRecDepth 20000 in
theorem k_digestOn (hS : cm_str sh hr a n) (hn : n < 2147483648) {m : Nat} (hm : m ≤ n) (hz : g 0 1 = nI m) {h0 : Int64} : cm_ct D mX4_digestOn d 0 0 [.ref a, .long h0] (sh, cm_us hi a g, hl, hr) (fun r9 h9 => r9 = some (.long (stDig (g 1) (31 * h0 + (g 0 1).toInt64) m)) ∧ h9 = (sh, cm_us hi a g, hl, hr)) := by
  refine cm_ct_of (ls := [some (.ref a), some (.long h0), none, none]) 1 (by decide +kernel) rfl rfl ?_
  refine cm_ldc2 (pc := 0) dX4_digestOn_0 ctX4_40 ?_
  refine cm_lload1 (pc := 3) dX4_digestOn_3 ?_
  refine cm_lmul (pc := 4) dX4_digestOn_4 ?_
  refine cm_aload0 (pc := 5) dX4_digestOn_5 ?_
  refine mk_fld (pc := 6) flX4_11 dX4_digestOn_6 hS.1 ?_
  refine cm_i2l (pc := 9) dX4_digestOn_9 ?_
  refine cm_ladd (pc := 10) dX4_digestOn_10 ?_
  refine cm_lstore1 (pc := 11) dX4_digestOn_11 (by decide) rfl ?_
  refine cm_iconst (pc := 12) (v := 0) dX4_digestOn_12 (by decide) ?_
  refine cm_istore3 (pc := 13) dX4_digestOn_13 (by decide) rfl ?_
  exact l_dig hS hn hm hz m 0 (by omega)
set_option maxRecDepth 20000 in
theorem k_digestOn0 (hS : cm_str sh hr a n) (hz : g 0 1 = -1) {h0 : Int64} : cm_ct D mX4_digestOn d 0 0 [.ref a, .long h0] (sh, cm_us hi a g, hl, hr) (fun r9 h9 => r9 = some (.long (31 * h0 + (g 0 1).toInt64)) ∧ h9 = (sh, cm_us hi a g, hl, hr)) := by
  refine cm_ct_of (ls := [some (.ref a), some (.long h0), none, none]) 1 (by decide +kernel) rfl rfl ?_
  refine cm_ldc2 (pc := 0) dX4_digestOn_0 ctX4_40 ?_
  refine cm_lload1 (pc := 3) dX4_digestOn_3 ?_
  refine cm_lmul (pc := 4) dX4_digestOn_4 ?_
  refine cm_aload0 (pc := 5) dX4_digestOn_5 ?_
  refine mk_fld (pc := 6) flX4_11 dX4_digestOn_6 hS.1 ?_
  refine cm_i2l (pc := 9) dX4_digestOn_9 ?_
  refine cm_ladd (pc := 10) dX4_digestOn_10 ?_
  refine cm_lstore1 (pc := 11) dX4_digestOn_11 (by decide) rfl ?_
  refine cm_iconst (pc := 12) (v := 0) dX4_digestOn_12 (by decide) ?_
  refine cm_istore3 (pc := 13) dX4_digestOn_13 (by decide) rfl ?_
  refine cm_iload3 (pc := 14) dX4_digestOn_14 ?_
  refine cm_aload0 (pc := 15) dX4_digestOn_15 ?_
  refine mk_fld (pc := 16) flX4_11 dX4_digestOn_16 hS.1 ?_
  refine cm_top_eq hz ?_
  refine cm_icmp_ge (pc := 19) (tgt := 42) dX4_digestOn_19 (by decide) (fun c19 => ?_) (fun q => absurd (by decide) q)
  refine cm_lload1 (pc := 42) dX4_digestOn_42 ?_
  exact cm_lret (pc := 43) dX4_digestOn_43 rfl ⟨rfl, rfl⟩
end ST2
