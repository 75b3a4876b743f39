/-! PART strip: small static methods; Strip -/
def cm_bi (b : Bool) : Int32 := if b then 1 else 0
theorem cm_nb (b : Bool) : narrow .boolean (.int (cm_bi b)) = .int (cm_bi b) := by cases b <;> rfl
theorem cm_bi0 {b : Bool} : cm_bi b = 0 ↔ b = false := by cases b <;> decide
section CMB
variable {D : cm_D} {M : cm_M} {d rc rs : Nat} {Q : Option Value → cm_H → Prop} {cells slots pc : Nat} {ls : List (Option Value)} {st : List Value} {h : cm_H}
theorem cm_ifeqB {b : Bool} {off : Int} {tgt : Nat} (hd : decode M.2.1 pc = .ok (.ifCond .eq off, 3)) (ht : (pc : Int) + off = (tgt : Int)) (kt : b = false → cm_g D M d rc rs Q cells slots tgt ls st h) (kf : b = true → cm_g D M d rc rs Q cells slots (pc + 3) ls st h) : cm_g D M d rc rs Q cells slots pc ls (.int (cm_bi b) :: st) h :=
  cm_if_eq hd ht (fun q => kt (cm_bi0.mp q)) (fun q => kf (by cases b with | false => exact absurd (cm_bi0.mpr rfl) q | true => rfl))
theorem cm_ifneB {b : Bool} {off : Int} {tgt : Nat} (hd : decode M.2.1 pc = .ok (.ifCond .ne off, 3)) (ht : (pc : Int) + off = (tgt : Int)) (kt : b = true → cm_g D M d rc rs Q cells slots tgt ls st h) (kf : b = false → cm_g D M d rc rs Q cells slots (pc + 3) ls st h) : cm_g D M d rc rs Q cells slots pc ls (.int (cm_bi b) :: st) h :=
  cm_if_ne hd ht (fun q => kt (by cases b with | false => exact absurd (cm_bi0.mpr rfl) q | true => rfl)) (fun q => kf (cm_bi0.mp q))
end CMB
def isW (v b : Int32) : Bool := !decide (v < 0) && !decide (b ≤ v)
def isU (v m : Int32) : Bool := !decide (v < 0) && !decide (m < v)
def isI (s i : Int32) : Bool := !decide ((s >>> (i &&& 31)) &&& 1 = 0)
section ST
variable {D : cm_D} {d : Nat} {sh : List cm_Sh} {hi : Nat → Nat → Int32} {hl : Nat → Nat → Int64} {hr : Nat → Nat → Option Nat}

set_option maxRecDepth 20000 in
theorem k_isWithin {v b : Int32} {h : cm_H} : cm_ct D mX6_isWithin d 0 0 [.int v, .int b] h (fun r9 h9 => r9 = some (.int (cm_bi (isW v b))) ∧ h9 = h) := by
  refine cm_ct_of (ls := [some (.int v), some (.int b)]) 0 (by decide +kernel) rfl rfl ?_
  refine cm_iload0 (pc := 0) dX6_isWithin_0 ?_
  refine cm_if_lt (pc := 1) (tgt := 13) dX6_isWithin_1 (by decide) (fun c1 => ?_) (fun c1 => ?_)
  · refine cm_iconst (pc := 13) (v := 0) dX6_isWithin_13 (by decide) ?_
    exact cm_zret (pc := 14) dX6_isWithin_14 rfl rfl ⟨by simp [cm_bi, isW, *], rfl⟩
  · refine cm_iload0 (pc := 4) dX6_isWithin_4 ?_
    refine cm_iload1 (pc := 5) dX6_isWithin_5 ?_
    refine cm_icmp_ge (pc := 6) (tgt := 13) dX6_isWithin_6 (by decide) (fun c6 => ?_) (fun c6 => ?_)
    · refine cm_iconst (pc := 13) (v := 0) dX6_isWithin_13 (by decide) ?_
      exact cm_zret (pc := 14) dX6_isWithin_14 rfl rfl ⟨by simp [cm_bi, isW, *], rfl⟩
    · refine cm_iconst (pc := 9) (v := 1) dX6_isWithin_9 (by decide) ?_
      refine cm_goto (pc := 10) (tgt := 14) dX6_isWithin_10 (by decide) ?_
      exact cm_zret (pc := 14) dX6_isWithin_14 rfl rfl ⟨by simp [cm_bi, isW, *], rfl⟩
set_option maxRecDepth 20000 in
theorem k_isUpTo {v b : Int32} {h : cm_H} : cm_ct D mX6_isUpTo d 0 0 [.int v, .int b] h (fun r9 h9 => r9 = some (.int (cm_bi (isU v b))) ∧ h9 = h) := by
  refine cm_ct_of (ls := [some (.int v), some (.int b)]) 0 (by decide +kernel) rfl rfl ?_
  refine cm_iload0 (pc := 0) dX6_isUpTo_0 ?_
  refine cm_if_lt (pc := 1) (tgt := 13) dX6_isUpTo_1 (by decide) (fun c1 => ?_) (fun c1 => ?_)
  · refine cm_iconst (pc := 13) (v := 0) dX6_isUpTo_13 (by decide) ?_
    exact cm_zret (pc := 14) dX6_isUpTo_14 rfl rfl ⟨by simp [cm_bi, isU, *], rfl⟩
  · refine cm_iload0 (pc := 4) dX6_isUpTo_4 ?_
    refine cm_iload1 (pc := 5) dX6_isUpTo_5 ?_
    refine cm_icmp_gt (pc := 6) (tgt := 13) dX6_isUpTo_6 (by decide) (fun c6 => ?_) (fun c6 => ?_)
    · refine cm_iconst (pc := 13) (v := 0) dX6_isUpTo_13 (by decide) ?_
      exact cm_zret (pc := 14) dX6_isUpTo_14 rfl rfl ⟨by simp [cm_bi, isU, *], rfl⟩
    · refine cm_iconst (pc := 9) (v := 1) dX6_isUpTo_9 (by decide) ?_
      refine cm_goto (pc := 10) (tgt := 14) dX6_isUpTo_10 (by decide) ?_
      exact cm_zret (pc := 14) dX6_isUpTo_14 rfl rfl ⟨by simp [cm_bi, isU, *], rfl⟩
set_option maxRecDepth 20000 in
theorem k_isIn {v b : Int32} {h : cm_H} : cm_ct D mX6_isIn d 0 0 [.int v, .int b] h (fun r9 h9 => r9 = some (.int (cm_bi (isI v b))) ∧ h9 = h) := by
  refine cm_ct_of (ls := [some (.int v), some (.int b)]) 0 (by decide +kernel) rfl rfl ?_
  refine cm_iload0 (pc := 0) dX6_isIn_0 ?_
  refine cm_iload1 (pc := 1) dX6_isIn_1 ?_
  refine cm_ishr (pc := 2) dX6_isIn_2 ?_
  refine cm_iconst (pc := 3) (v := 1) dX6_isIn_3 (by decide) ?_
  refine cm_iand (pc := 4) dX6_isIn_4 ?_
  refine cm_if_eq (pc := 5) (tgt := 12) dX6_isIn_5 (by decide) (fun c5 => ?_) (fun c5 => ?_)
  · refine cm_iconst (pc := 12) (v := 0) dX6_isIn_12 (by decide) ?_
    exact cm_zret (pc := 13) dX6_isIn_13 rfl rfl ⟨by simp [cm_bi, isI, *], rfl⟩
  · refine cm_iconst (pc := 8) (v := 1) dX6_isIn_8 (by decide) ?_
    refine cm_goto (pc := 9) (tgt := 13) dX6_isIn_9 (by decide) ?_
    exact cm_zret (pc := 13) dX6_isIn_13 rfl rfl ⟨by simp [cm_bi, isI, *], rfl⟩
theorem cm_abs {M : cm_M} {rc rs : Nat} {Q : Option Value → cm_H → Prop} {cells slots pc : Nat} {ls : List (Option Value)} {st : List Value} {h : cm_H} {idx : Nat} {x : Int32} (hM : cm_MS mJ9_abs_0f7a4 1) (hlk : Cond.methodLink M.1.cls idx yJ9_abs_0f7a4 ∈ cm_good) (hd : decode M.2.1 pc = .ok (.invokestatic idx, 3)) (h1 : 1 ≤ d) (hst : (st.map fun v => v.category).sum ≤ 8) (h2 : cells ≤ rc) (h3 : slots ≤ rs) (kk : cm_g D M d rc rs Q cells slots (pc + 3) ls (.int (if 0 ≤ x then x else 0 - x) :: st) h) : cm_g D M d rc rs Q cells slots pc ls (.int x :: st) h := by
  intro p l e R s m args below meth c H locs lsA E hP hK hS hl9
  have hts := E.2.2.2.2.2.1
  have hroom := E.2.2.2.2.2.2.2.2.1
  exact va_mabs E.1 E.2.1 (by rw [E.2.2.2.1]; exact hl9.1.symm) E.2.2.2.2.1 (hts _ hlk) (hts _ hM.2) (hts _ hM.1.2.1) (hts _ hM.1.1) (by omega) (by rw [cm_cat_sum]; omega) (by omega) (by omega) hd (kk p l e R s m args below meth c H locs lsA E hP hK hS hl9)
theorem cm_maxl {M : cm_M} {rc rs : Nat} {Q : Option Value → cm_H → Prop} {cells slots pc : Nat} {ls : List (Option Value)} {st : List Value} {h : cm_H} {idx : Nat} {x y : Int64} (hM : cm_MS mJ9_max_f86c9 2) (hlk : Cond.methodLink M.1.cls idx yJ9_max_f86c9 ∈ cm_good) (hd : decode M.2.1 pc = .ok (.invokestatic idx, 3)) (h1 : 1 ≤ d) (hst : (st.map fun v => v.category).sum ≤ 8) (h2 : cells ≤ rc) (h3 : slots ≤ rs) (kk : cm_g D M d rc rs Q cells slots (pc + 3) ls (.long (if y < x then x else y) :: st) h) : cm_g D M d rc rs Q cells slots pc ls (.long y :: .long x :: st) h := by
  intro p l e R s m args below meth c H locs lsA E hP hK hS hl9
  have hts := E.2.2.2.2.2.1
  have hroom := E.2.2.2.2.2.2.2.2.1
  exact va_mmax_long E.1 E.2.1 (by rw [E.2.2.2.1]; exact hl9.1.symm) E.2.2.2.2.1 (hts _ hlk) (hts _ hM.2) (hts _ hM.1.2.1) (hts _ hM.1.1) (by omega) (by rw [cm_cat_sum]; omega) (by omega) (by omega) hd (kk p l e R s m args below meth c H locs lsA E hP hK hS hl9)
def bitC (v : Int32) : Int32 :=
  let a := v - ((v.toUInt32 >>> ((1 : Int32).toUInt32 &&& Int32.toUInt32 31)).toInt32 &&& 1431655765)
  let b := (a &&& 858993459) + ((a.toUInt32 >>> ((2 : Int32).toUInt32 &&& Int32.toUInt32 31)).toInt32 &&& 858993459)
  let c := (b + (b.toUInt32 >>> ((4 : Int32).toUInt32 &&& Int32.toUInt32 31)).toInt32) &&& 252645135
  let e := c + (c.toUInt32 >>> ((8 : Int32).toUInt32 &&& Int32.toUInt32 31)).toInt32
  let f := e + (e.toUInt32 >>> ((16 : Int32).toUInt32 &&& Int32.toUInt32 31)).toInt32
  f &&& 63
set_option maxRecDepth 20000 in
theorem k_bitCount {v : Int32} {h : cm_H} : cm_ct D mJ6_bitCount_0f7a4 d 0 0 [.int v] h (fun r9 h9 => r9 = some (.int (bitC v)) ∧ h9 = h) := by
  refine cm_ct_of (ls := [some (.int v)]) 0 (by decide +kernel) rfl rfl ?_
  refine cm_iload0 (pc := 0) dJ6_bitCount_0f7a4_0 ?_
  refine cm_iload0 (pc := 1) dJ6_bitCount_0f7a4_1 ?_
  refine cm_iconst (pc := 2) (v := 1) dJ6_bitCount_0f7a4_2 (by decide) ?_
  refine cm_iushr (pc := 3) dJ6_bitCount_0f7a4_3 ?_
  refine cm_ldcw (pc := 4) dJ6_bitCount_0f7a4_4 ctJ6_265 ?_
  refine cm_iand (pc := 7) dJ6_bitCount_0f7a4_7 ?_
  refine cm_isub (pc := 8) dJ6_bitCount_0f7a4_8 ?_
  refine cm_istore0 (pc := 9) dJ6_bitCount_0f7a4_9 (by decide) ?_
  refine cm_iload0 (pc := 10) dJ6_bitCount_0f7a4_10 ?_
  refine cm_ldcw (pc := 11) dJ6_bitCount_0f7a4_11 ctJ6_266 ?_
  refine cm_iand (pc := 14) dJ6_bitCount_0f7a4_14 ?_
  refine cm_iload0 (pc := 15) dJ6_bitCount_0f7a4_15 ?_
  refine cm_iconst (pc := 16) (v := 2) dJ6_bitCount_0f7a4_16 (by decide) ?_
  refine cm_iushr (pc := 17) dJ6_bitCount_0f7a4_17 ?_
  refine cm_ldcw (pc := 18) dJ6_bitCount_0f7a4_18 ctJ6_266 ?_
  refine cm_iand (pc := 21) dJ6_bitCount_0f7a4_21 ?_
  refine cm_iadd (pc := 22) dJ6_bitCount_0f7a4_22 ?_
  refine cm_istore0 (pc := 23) dJ6_bitCount_0f7a4_23 (by decide) ?_
  refine cm_iload0 (pc := 24) dJ6_bitCount_0f7a4_24 ?_
  refine cm_iload0 (pc := 25) dJ6_bitCount_0f7a4_25 ?_
  refine cm_iconst (pc := 26) (v := 4) dJ6_bitCount_0f7a4_26 (by decide) ?_
  refine cm_iushr (pc := 27) dJ6_bitCount_0f7a4_27 ?_
  refine cm_iadd (pc := 28) dJ6_bitCount_0f7a4_28 ?_
  refine cm_ldcw (pc := 29) dJ6_bitCount_0f7a4_29 ctJ6_267 ?_
  refine cm_iand (pc := 32) dJ6_bitCount_0f7a4_32 ?_
  refine cm_istore0 (pc := 33) dJ6_bitCount_0f7a4_33 (by decide) ?_
  refine cm_iload0 (pc := 34) dJ6_bitCount_0f7a4_34 ?_
  refine cm_iload0 (pc := 35) dJ6_bitCount_0f7a4_35 ?_
  refine cm_bipush (pc := 36) (v := 8) dJ6_bitCount_0f7a4_36 (by decide) ?_
  refine cm_iushr (pc := 38) dJ6_bitCount_0f7a4_38 ?_
  refine cm_iadd (pc := 39) dJ6_bitCount_0f7a4_39 ?_
  refine cm_istore0 (pc := 40) dJ6_bitCount_0f7a4_40 (by decide) ?_
  refine cm_iload0 (pc := 41) dJ6_bitCount_0f7a4_41 ?_
  refine cm_iload0 (pc := 42) dJ6_bitCount_0f7a4_42 ?_
  refine cm_bipush (pc := 43) (v := 16) dJ6_bitCount_0f7a4_43 (by decide) ?_
  refine cm_iushr (pc := 45) dJ6_bitCount_0f7a4_45 ?_
  refine cm_iadd (pc := 46) dJ6_bitCount_0f7a4_46 ?_
  refine cm_istore0 (pc := 47) dJ6_bitCount_0f7a4_47 (by decide) ?_
  refine cm_iload0 (pc := 48) dJ6_bitCount_0f7a4_48 ?_
  refine cm_bipush (pc := 49) (v := 63) dJ6_bitCount_0f7a4_49 (by decide) ?_
  refine cm_iand (pc := 51) dJ6_bitCount_0f7a4_51 ?_
  exact cm_iret (pc := 52) dJ6_bitCount_0f7a4_52 rfl ⟨rfl, rfl⟩
/-- a Strip of n places at a -/
def cm_str (sh : List cm_Sh) (hr : Nat → Nat → Option Nat) (a n : Nat) : Prop := cm_ob sh a 4 ∧ hr a 0 = some (a + 1) ∧ cm_ar sh (a + 1) 0 n
set_option maxRecDepth 20000 in
theorem k_size {a n : Nat} (hS : cm_str sh hr a n) : cm_ct D mX4_size d 0 0 [.ref a] (sh, hi, hl, hr) (fun r9 h9 => r9 = some (.int (hi a 1)) ∧ h9 = (sh, hi, hl, hr)) := by
  refine cm_ct_of (ls := [some (.ref a)]) 0 (by decide +kernel) rfl rfl ?_
  refine cm_aload0 (pc := 0) dX4_size_0 ?_
  refine cm_getI (pc := 1) flX4_11 dX4_size_1 hS.1 ?_
  exact cm_iret (pc := 4) dX4_size_4 rfl ⟨rfl, rfl⟩
set_option maxRecDepth 20000 in
theorem k_isThere {a n : Nat} (hS : cm_str sh hr a n) : cm_ct D mX4_isThere d 0 0 [.ref a] (sh, hi, hl, hr) (fun r9 h9 => r9 = some (.int (cm_bi (!decide (hi a 1 = -1)))) ∧ h9 = (sh, hi, hl, hr)) := by
  refine cm_ct_of (ls := [some (.ref a)]) 0 (by decide +kernel) rfl rfl ?_
  refine cm_aload0 (pc := 0) dX4_isThere_0 ?_
  refine cm_getI (pc := 1) flX4_11 dX4_isThere_1 hS.1 ?_
  refine cm_iconst (pc := 4) (v := -1) dX4_isThere_4 (by decide) ?_
  refine cm_icmp_eq (pc := 5) (tgt := 12) dX4_isThere_5 (by decide) (fun c5 => ?_) (fun c5 => ?_)
  · refine cm_iconst (pc := 12) (v := 0) dX4_isThere_12 (by decide) ?_
    exact cm_zret (pc := 13) dX4_isThere_13 rfl rfl ⟨by simp [cm_bi, *], rfl⟩
  · refine cm_iconst (pc := 8) (v := 1) dX4_isThere_8 (by decide) ?_
    refine cm_goto (pc := 9) (tgt := 13) dX4_isThere_9 (by decide) ?_
    exact cm_zret (pc := 13) dX4_isThere_13 rfl rfl ⟨by simp [cm_bi, *], rfl⟩
set_option maxRecDepth 20000 in
theorem k_has {a n : Nat} {i : Int32} (hS : cm_str sh hr a n) : cm_ct D mX4_has (d + 1) 0 0 [.ref a, .int i] (sh, hi, hl, hr) (fun r9 h9 => r9 = some (.int (cm_bi (isW i (hi a 1)))) ∧ h9 = (sh, hi, hl, hr)) := by
  refine cm_ct_of (ls := [some (.ref a), some (.int i)]) 0 (by decide +kernel) rfl rfl ?_
  refine cm_iload1 (pc := 0) dX4_has_0 ?_
  refine cm_if_lt (pc := 1) (tgt := 16) dX4_has_1 (by decide) (fun c1 => ?_) (fun c1 => ?_)
  · refine cm_iconst (pc := 16) (v := 0) dX4_has_16 (by decide) ?_
    exact cm_zret (pc := 17) dX4_has_17 rfl rfl ⟨by simp [cm_bi, isW, *], rfl⟩
  · refine cm_iload1 (pc := 4) dX4_has_4 ?_
    refine cm_aload0 (pc := 5) dX4_has_5 ?_
    refine cm_getI (pc := 6) flX4_11 dX4_has_6 hS.1 ?_
    refine cm_icmp_ge (pc := 9) (tgt := 16) dX4_has_9 (by decide) (fun c9 => ?_) (fun c9 => ?_)
    · refine cm_iconst (pc := 16) (v := 0) dX4_has_16 (by decide) ?_
      exact cm_zret (pc := 17) dX4_has_17 rfl rfl ⟨by simp [cm_bi, isW, *], rfl⟩
    · refine cm_iconst (pc := 12) (v := 1) dX4_has_12 (by decide) ?_
      refine cm_goto (pc := 13) (tgt := 17) dX4_has_13 (by decide) ?_
      exact cm_zret (pc := 17) dX4_has_17 rfl rfl ⟨by simp [cm_bi, isW, *], rfl⟩
set_option maxRecDepth 20000 in
theorem k_hasPart {a n : Nat} {i m : Int32} (hS : cm_str sh hr a n) : cm_ct D mX4_hasPart (d + 1) 0 0 [.ref a, .int i, .int m] (sh, hi, hl, hr) (fun r9 h9 => r9 = some (.int (cm_bi (isU i (hi a 1) && isU m (hi a 1 - i)))) ∧ h9 = (sh, hi, hl, hr)) := by
  refine cm_ct_of (ls := [some (.ref a), some (.int i), some (.int m)]) 0 (by decide +kernel) rfl rfl ?_
  refine cm_iload1 (pc := 0) dX4_hasPart_0 ?_
  refine cm_aload0 (pc := 1) dX4_hasPart_1 ?_
  refine cm_getI (pc := 2) flX4_11 dX4_hasPart_2 hS.1 ?_
  refine cm_S2 (pc := 5) mX6_isUpTo_s mlX4_19 dX4_hasPart_5 (by omega) (Nat.le_of_ble_eq_true rfl) (Nat.le_refl _) (Nat.le_refl _) (k_isUpTo (d := d)) (fun r5 h5 hq5 => ?_)
  obtain ⟨rfl, rfl⟩ := hq5
  refine cm_ifeqB (pc := 8) (tgt := 28) dX4_hasPart_8 (by decide) (fun c8 => ?_) (fun c8 => ?_)
  · refine cm_iconst (pc := 28) (v := 0) dX4_hasPart_28 (by decide) ?_
    exact cm_zret (pc := 29) dX4_hasPart_29 rfl rfl ⟨by simp [cm_bi, *], rfl⟩
  · refine cm_iload2 (pc := 11) dX4_hasPart_11 ?_
    refine cm_aload0 (pc := 12) dX4_hasPart_12 ?_
    refine cm_getI (pc := 13) flX4_11 dX4_hasPart_13 hS.1 ?_
    refine cm_iload1 (pc := 16) dX4_hasPart_16 ?_
    refine cm_isub (pc := 17) dX4_hasPart_17 ?_
    refine cm_S2 (pc := 18) mX6_isUpTo_s mlX4_19 dX4_hasPart_18 (by omega) (Nat.le_of_ble_eq_true rfl) (Nat.le_refl _) (Nat.le_refl _) (k_isUpTo (d := d)) (fun r18 h18 hq18 => ?_)
    obtain ⟨rfl, rfl⟩ := hq18
    refine cm_ifeqB (pc := 21) (tgt := 28) dX4_hasPart_21 (by decide) (fun c21 => ?_) (fun c21 => ?_)
    · refine cm_iconst (pc := 28) (v := 0) dX4_hasPart_28 (by decide) ?_
      exact cm_zret (pc := 29) dX4_hasPart_29 rfl rfl ⟨by simp [cm_bi, *], rfl⟩
    · refine cm_iconst (pc := 24) (v := 1) dX4_hasPart_24 (by decide) ?_
      refine cm_goto (pc := 25) (tgt := 29) dX4_hasPart_25 (by decide) ?_
      exact cm_zret (pc := 29) dX4_hasPart_29 rfl rfl ⟨by simp [cm_bi, *], rfl⟩
end ST
