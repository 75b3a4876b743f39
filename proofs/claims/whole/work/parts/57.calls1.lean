/-! PART calls1: the class's calls: rows, texts -/
def kRef (hi : cm_g2) (f : Nat) : cm_g2 := va_up (va_up hi 2 (upd (hi 2) 9 (nI f))) 60 (upd (hi 60) f (hi 60 f + 1))
def kTell (hi : cm_g2) (v : Int32) : cm_g2 := va_up hi 2 (upd (hi 2) 10 v)
def cMiss (hi : cm_g2) (s : Nat) (i : Int32) : Nat := if hi s 1 = -1 then 1 else if isW i (hi s 1) then 0 else 2
theorem cMiss_le {hi : cm_g2} {s : Nat} {i : Int32} : cMiss hi s i ≤ 2 := by
  unfold cMiss
  split
  · decide
  · split <;> decide
theorem isW_ex {r b : Int32} (n : Nat) (h : isW r b = true) (hb : b = nI n := by rfl) (hn : n < 2 ^ 31 := by decide) : ∃ j, j < n ∧ r = nI j := by
  subst hb
  have h1 := isW_z.mp h
  rw [nI_toInt hn] at h1
  exact ⟨r.toInt.toNat, by omega, z_of h1.1⟩
def cSz (hi : cm_g2) (s n : Nat) : Prop := hi s 1 = -1 ∨ ∃ m, m ≤ n ∧ hi s 1 = nI m
theorem cSz.le {hi : cm_g2} {s n : Nat} (h : cSz hi s n) (hn : n ≤ 80) : (hi s 1).toInt ≤ n := by
  rcases h with h | ⟨m, hm, h⟩
  · rw [h]
    have : (-1 : Int32).toInt = -1 := by decide
    omega
  · rw [h, nI_toInt (by omega)]
    omega
def cInv (hi : cm_g2) : Prop := (∀ r, r < 6 → cSz hi (61 + 2 * r) 40) ∧ ∀ t, t < 4 → cSz hi (73 + 2 * t) 80
abbrev sR (r : Int32) : Nat := 61 + 2 * r.toNatClampNeg
abbrev sT (t : Int32) : Nat := 73 + 2 * t.toNatClampNeg
def cRow (hi : cm_g2) (r n : Int32) : Int32 × cm_g2 := if isW r 6 = false ∨ ¬ n ≤ 40 then (-1, hi) else if 0 ≤ n then (n, cm_us hi (sR r) (stFill (cm_sf hi (sR r)) n.toNatClampNeg 0 n.toNatClampNeg)) else (-3, kRef hi 5)
def cText (hi : cm_g2) (r n : Int32) : Int32 × cm_g2 := if isW r 4 = false ∨ ¬ n ≤ 80 then (-1, hi) else if 0 ≤ n then (n, cm_us hi (sT r) (stFill (cm_sf hi (sT r)) n.toNatClampNeg 32 n.toNatClampNeg)) else (-3, kRef hi 5)
def cLay (hi : cm_g2) (r i v : Int32) : Int32 × cm_g2 := if isW r 6 = false then (-1, hi) else if cMiss hi (sR r) i = 0 then (1, kTell (cm_us hi (sR r) (stPut (cm_sf hi (sR r)) i v)) (stGet (cm_sf hi (sR r)) i)) else (-3, kRef hi (cMiss hi (sR r) i))
def cAt (hi : cm_g2) (r i : Int32) : Int32 × cm_g2 := if isW r 6 = false then (-1, hi) else if cMiss hi (sR r) i = 0 then (1, kTell hi (stGet (cm_sf hi (sR r)) i)) else (-3, kRef hi (cMiss hi (sR r) i))
def cTear (hi : cm_g2) (r : Int32) : Int32 × cm_g2 := if isW r 6 = false then (-1, hi) else if hi (sR r) 1 = -1 then (-3, kRef hi 1) else (1, cm_us hi (sR r) (stDel (cm_sf hi (sR r))))
def cPut (hi : cm_g2) (t i v : Int32) : Int32 × cm_g2 := if isW t 4 = false then (-1, hi) else if cMiss hi (sT t) i = 0 then (1000 + stGet (cm_sf hi (sT t)) i, cm_us hi (sT t) (stPut (cm_sf hi (sT t)) i v.toInt8.toInt32)) else (-3, kRef hi (cMiss hi (sT t) i))
def cPart (hi : cm_g2) (s : Nat) (i n : Int32) : Bool := isU i (hi s 1) && isU n (hi s 1 - i)
def cCopy (hi : cm_g2) (r i to j n : Int32) : Int32 × cm_g2 := if isW r 6 = false ∨ isW to 6 = false then (-1, hi) else if 0 ≤ n then (if hi (sR r) 1 = -1 ∨ hi (sR to) 1 = -1 then (-3, kRef hi 1) else if cPart hi (sR r) i n = false ∨ cPart hi (sR to) j n = false then (-3, kRef hi 2) else (1, va_up hi (sR to + 1) (fun x => if j.toNatClampNeg ≤ x ∧ x < j.toNatClampNeg + n.toNatClampNeg then hi (sR r + 1) (i.toNatClampNeg + (x - j.toNatClampNeg)) else hi (sR to + 1) x))) else (-3, kRef hi 5)
def cMean (hi : cm_g2) (r : Int32) : Int32 × cm_g2 := if isW r 6 = false then (-1, hi) else if 0 ≤ hi (sR r) 1 then (if hi (sR r) 1 = 0 then (-3, kRef hi 4) else (1, kTell hi (stSum (hi (sR r + 1)) (hi (sR r) 1).toNatClampNeg / (hi (sR r) 1).toInt64).toInt32)) else (-3, kRef hi 1)
theorem i64_ne {x : Int32} (h : ¬ x = 0) : ¬ x.toInt64 = 0 := fun w => h (by
  have h0 : x.toInt64.toInt = (0 : Int64).toInt := by rw [w]
  rw [Int32.toInt_toInt64] at h0
  exact Int32.toInt_inj.mp h0)
theorem upG {hi G : cm_g2} {x : Nat} {V : Nat → Int32} (e : ∀ c, c ≠ x → G c = hi c) (f : G x = V) : G = va_up hi x V := by
  funext c
  by_cases h : c = x
  · subst h; rw [f, va_up_self]
  · rw [e c h, va_up_ne _ _ h]
section C1
variable {D : cm_D} {d : Nat} {sh : List cm_Sh} {hi : cm_g2} {hl : Nat → Nat → Int64} {hr : Nat → Nat → Option Nat} {nb ns a b n : Nat}
set_option maxRecDepth 20000 in
theorem k_takePart  {i j m : Int32} (hS : cm_str sh hr a n) (hS2 : cm_str sh hr b n) (hza : (hi a 1).toInt ≤ n) (hzb : (hi b 1).toInt ≤ n) (hn : n < 2147483648) : cm_ct D mX4_takePart (d + 2) 0 0 [.ref a, .ref b, .int i, .int j, .int m] (sh, hi, hl, hr) (fun r9 h9 => r9 = none ∧ h9 = (sh, if (isU i (hi b 1) && isU m (hi b 1 - i)) && (isU j (hi a 1) && isU m (hi a 1 - j)) then va_up hi (a + 1) (fun x => if j.toNatClampNeg ≤ x ∧ x < j.toNatClampNeg + m.toNatClampNeg then hi (b + 1) (i.toNatClampNeg + (x - j.toNatClampNeg)) else hi (a + 1) x) else hi, hl, hr)) := by
  refine cm_ct_of (ls := [some (.ref a), some (.ref b), some (.int i), some (.int j), some (.int m)]) 0 (by decide +kernel) rfl rfl ?_
  refine cm_aload1 (pc := 0) dX4_takePart_0 ?_
  refine cm_iload2 (pc := 1) dX4_takePart_1 ?_
  refine cm_iload4 (pc := 2) dX4_takePart_2 ?_
  refine cm_V2 (pc := 4) mX4_hasPart_v mlX4_31 dX4_takePart_4 hS2.1 (by omega) (Nat.le_of_ble_eq_true rfl) (Nat.le_refl _) (Nat.le_refl _) (k_hasPart hS2 (d := d)) (fun r4 h4 hq4 => ?_)
  obtain ⟨rfl, rfl⟩ := hq4
  refine cm_ifeqB (pc := 7) (tgt := 35) dX4_takePart_7 (by decide) (fun c7 => ?_) (fun c7 => ?_)
  · exact cm_vret (pc := 35) dX4_takePart_35 rfl ⟨rfl, by rw [if_neg (by rw [c7]; simp)]⟩
  · refine cm_aload0 (pc := 10) dX4_takePart_10 ?_
    refine cm_iload3 (pc := 11) dX4_takePart_11 ?_
    refine cm_iload4 (pc := 12) dX4_takePart_12 ?_
    refine cm_V2 (pc := 14) mX4_hasPart_v mlX4_31 dX4_takePart_14 hS.1 (by omega) (Nat.le_of_ble_eq_true rfl) (Nat.le_refl _) (Nat.le_refl _) (k_hasPart hS (d := d)) (fun r14 h14 hq14 => ?_)
    obtain ⟨rfl, rfl⟩ := hq14
    refine cm_ifeqB (pc := 17) (tgt := 35) dX4_takePart_17 (by decide) (fun c17 => ?_) (fun c17 => ?_)
    · exact cm_vret (pc := 35) dX4_takePart_35 rfl ⟨rfl, by rw [if_neg (by rw [c17]; simp)]⟩
    · refine cm_aload1 (pc := 20) dX4_takePart_20 ?_
      refine cm_getR (pc := 21) flX4_15 dX4_takePart_21 hS2.1 hS2.2.1 ?_
      refine cm_iload2 (pc := 24) dX4_takePart_24 ?_
      refine cm_aload0 (pc := 25) dX4_takePart_25 ?_
      refine cm_getR (pc := 26) flX4_15 dX4_takePart_26 hS.1 hS.2.1 ?_
      refine cm_iload3 (pc := 29) dX4_takePart_29 ?_
      refine cm_iload4 (pc := 30) dX4_takePart_30 ?_
      have z1 := isU_z.mp (Bool.and_eq_true_iff.mp c7).1
      have z2 := isU_z.mp (Bool.and_eq_true_iff.mp c7).2
      have z3 := isU_z.mp (Bool.and_eq_true_iff.mp c17).1
      have z4 := isU_z.mp (Bool.and_eq_true_iff.mp c17).2
      rw [zsub (by omega)] at z2 z4
      have y1 : i = nI i.toNatClampNeg := z_of z1.1
      have y2 : j = nI j.toNatClampNeg := z_of z3.1
      have y3 : m = nI m.toNatClampNeg := z_of z2.1
      have w1 : i.toNatClampNeg = i.toInt.toNat := rfl
      have w2 : j.toNatClampNeg = j.toInt.toNat := rfl
      have w3 : m.toNatClampNeg = m.toInt.toNat := rfl
      have u1 : i.toNatClampNeg + m.toNatClampNeg ≤ n := by omega
      have u2 : j.toNatClampNeg + m.toNatClampNeg ≤ n := by omega
      refine cm_cpyE (pc := 32) (i.toNatClampNeg) (j.toNatClampNeg) (m.toNatClampNeg) acX4_34 dX4_takePart_32 hS2.2.2 hS.2.2 y1 y2 y3 u1 u2 hn hn (by omega) (fun G32 e32 f32 => ?_)
      exact cm_vret (pc := 35) dX4_takePart_35 rfl ⟨rfl, by rw [upG e32 f32, if_pos (by rw [c7, c17]; rfl)]⟩
set_option maxRecDepth 20000 in
theorem k_refuse (hX : cm_cls sh hr) {f : Nat} (hf : f < 6) : cm_ct D mX6_refuse d 0 0 [.ref 2, .int (nI f)] (sh, hi, hl, hr) (fun r9 h9 => r9 = some (.int (-3)) ∧ h9 = (sh, kRef hi f, hl, hr)) := by
  refine cm_ct_of (ls := [some (.ref 2), some (.int (nI f))]) 0 (by decide +kernel) rfl rfl ?_
  refine cm_aload0 (pc := 0) dX6_refuse_0 ?_
  refine cm_iload1 (pc := 1) dX6_refuse_1 ?_
  refine cm_putI (pc := 2) fpX6_297 dX6_refuse_2 hX.ox ?_
  refine cm_aload0 (pc := 5) dX6_refuse_5 ?_
  refine cm_getR (pc := 6) flX6_57 dX6_refuse_6 hX.ox hX.r8 ?_
  refine cm_iload1 (pc := 9) dX6_refuse_9 ?_
  refine cm_dup2 (pc := 10) dX6_refuse_10 rfl rfl ?_
  refine cm_ialN (pc := 11) dX6_refuse_11 hX.a60 (by omega) (by decide) ?_
  refine cm_iconst (pc := 12) (v := 1) dX6_refuse_12 (by decide) ?_
  refine cm_iadd (pc := 13) dX6_refuse_13 ?_
  refine cm_iasN (pc := 14) dX6_refuse_14 hX.a60 (by omega) (by decide) ?_
  refine cm_bipush (pc := 15) (v := -3) dX6_refuse_15 (by decide) ?_
  exact cm_iret (pc := 17) dX6_refuse_17 rfl ⟨rfl, rfl⟩
set_option maxRecDepth 20000 in
theorem k_tell (hX : cm_cls sh hr) {v : Int32} : cm_ct D mX6_tell d 0 0 [.ref 2, .int v] (sh, hi, hl, hr) (fun r9 h9 => r9 = some (.int 1) ∧ h9 = (sh, kTell hi v, hl, hr)) := by
  refine cm_ct_of (ls := [some (.ref 2), some (.int v)]) 0 (by decide +kernel) rfl rfl ?_
  refine cm_aload0 (pc := 0) dX6_tell_0 ?_
  refine cm_iload1 (pc := 1) dX6_tell_1 ?_
  refine cm_putI (pc := 2) fpX6_201 dX6_tell_2 hX.ox ?_
  refine cm_iconst (pc := 5) (v := 1) dX6_tell_5 (by decide) ?_
  exact cm_iret (pc := 6) dX6_tell_6 rfl ⟨rfl, rfl⟩
set_option maxRecDepth 20000 in
theorem k_missingPlace (hX : cm_cls sh hr) {i : Int32} (hS : cm_str sh hr a n) : cm_ct D mX6_missingPlace (d + 2) 0 0 [.ref 2, .ref a, .int i] (sh, hi, hl, hr) (fun r9 h9 => r9 = some (.int (nI (cMiss hi a i))) ∧ h9 = (sh, hi, hl, hr)) := by
  refine cm_ct_of (ls := [some (.ref 2), some (.ref a), some (.int i)]) 0 (by decide +kernel) rfl rfl ?_
  refine cm_aload1 (pc := 0) dX6_missingPlace_0 ?_
  refine cm_V0 (pc := 1) mX4_isThere_v mlX6_90 dX6_missingPlace_1 hS.1 (by omega) (Nat.le_of_ble_eq_true rfl) (Nat.le_refl _) (Nat.le_refl _) (k_isThere hS (d := d + 1)) (fun r1 h1 hq1 => ?_)
  obtain ⟨rfl, rfl⟩ := hq1
  refine cm_ifneB (pc := 4) (tgt := 9) dX6_missingPlace_4 (by decide) (fun c4 => ?_) (fun c4 => ?_)
  · have q1 : ¬ hi a 1 = -1 := by simpa using c4
    refine cm_aload1 (pc := 9) dX6_missingPlace_9 ?_
    refine cm_iload2 (pc := 10) dX6_missingPlace_10 ?_
    refine cm_V1 (pc := 11) mX4_has_v mlX6_312 dX6_missingPlace_11 hS.1 (by omega) (Nat.le_of_ble_eq_true rfl) (Nat.le_refl _) (Nat.le_refl _) (k_has hS (d := d)) (fun r11 h11 hq11 => ?_)
    obtain ⟨rfl, rfl⟩ := hq11
    refine cm_ifeqB (pc := 14) (tgt := 21) dX6_missingPlace_14 (by decide) (fun c14 => ?_) (fun c14 => ?_)
    · refine cm_iconst (pc := 21) (v := 2) dX6_missingPlace_21 (by decide) ?_
      exact cm_iret (pc := 22) dX6_missingPlace_22 rfl ⟨by simp [cMiss, *] <;> rfl, rfl⟩
    · refine cm_iconst (pc := 17) (v := 0) dX6_missingPlace_17 (by decide) ?_
      refine cm_goto (pc := 18) (tgt := 22) dX6_missingPlace_18 (by decide) ?_
      exact cm_iret (pc := 22) dX6_missingPlace_22 rfl ⟨by simp [cMiss, *] <;> rfl, rfl⟩
  · have q1 : hi a 1 = -1 := by simpa using c4
    refine cm_iconst (pc := 7) (v := 1) dX6_missingPlace_7 (by decide) ?_
    exact cm_iret (pc := 8) dX6_missingPlace_8 rfl ⟨by simp [cMiss, *] <;> rfl, rfl⟩
set_option maxRecDepth 20000 in
theorem k_isBuyer (hX : cm_cls sh hr) {i : Int32} : cm_ct D mX6_isBuyer (d + 1) 0 0 [.ref 2, .int i] (sh, hi, hl, hr) (fun r9 h9 => r9 = some (.int (cm_bi (isW i (hi 5 3)))) ∧ h9 = (sh, hi, hl, hr)) := by
  refine cm_ct_of (ls := [some (.ref 2), some (.int i)]) 0 (by decide +kernel) rfl rfl ?_
  refine cm_iload1 (pc := 0) dX6_isBuyer_0 ?_
  refine cm_aload0 (pc := 1) dX6_isBuyer_1 ?_
  refine cm_getR (pc := 2) flX6_21 dX6_isBuyer_2 hX.ox hX.r2 ?_
  refine cm_getI (pc := 5) flX6_136 dX6_isBuyer_5 hX.mp.1 ?_
  refine cm_S2 (pc := 8) mX6_isWithin_s mlX6_64 dX6_isBuyer_8 (by omega) (Nat.le_of_ble_eq_true rfl) (Nat.le_refl _) (Nat.le_refl _) (k_isWithin (d := d) ) (fun r8 h8 hq8 => ?_)
  obtain ⟨rfl, rfl⟩ := hq8
  exact cm_zret (pc := 11) dX6_isBuyer_11 rfl (cm_nb _) ⟨rfl, rfl⟩
set_option maxRecDepth 20000 in
theorem k_isStall (hX : cm_cls sh hr) {i : Int32} : cm_ct D mX6_isStall (d + 1) 0 0 [.ref 2, .int i] (sh, hi, hl, hr) (fun r9 h9 => r9 = some (.int (cm_bi (isW i (hi 5 2)))) ∧ h9 = (sh, hi, hl, hr)) := by
  refine cm_ct_of (ls := [some (.ref 2), some (.int i)]) 0 (by decide +kernel) rfl rfl ?_
  refine cm_iload1 (pc := 0) dX6_isStall_0 ?_
  refine cm_aload0 (pc := 1) dX6_isStall_1 ?_
  refine cm_getR (pc := 2) flX6_21 dX6_isStall_2 hX.ox hX.r2 ?_
  refine cm_getI (pc := 5) flX6_315 dX6_isStall_5 hX.mp.1 ?_
  refine cm_S2 (pc := 8) mX6_isWithin_s mlX6_64 dX6_isStall_8 (by omega) (Nat.le_of_ble_eq_true rfl) (Nat.le_refl _) (Nat.le_refl _) (k_isWithin (d := d) ) (fun r8 h8 hq8 => ?_)
  obtain ⟨rfl, rfl⟩ := hq8
  exact cm_zret (pc := 11) dX6_isStall_11 rfl (cm_nb _) ⟨rfl, rfl⟩
set_option maxRecDepth 20000 in
theorem k_row (hX : cm_cls sh hr) {r n : Int32} (hI : cInv hi) : cm_ct D mX6_row (d + 2) 0 0 [.ref 2, .int r, .int n] (sh, hi, hl, hr) (fun r9 h9 => r9 = some (.int (cRow hi r n).1) ∧ h9 = (sh, (cRow hi r n).2, hl, hr)) := by
  refine cm_ct_of (ls := [some (.ref 2), some (.int r), some (.int n)]) 0 (by decide +kernel) rfl rfl ?_
  refine cm_iload1 (pc := 0) dX6_row_0 ?_
  refine cm_bipush (pc := 1) (v := 6) dX6_row_1 (by decide) ?_
  refine cm_S2 (pc := 3) mX6_isWithin_s mlX6_64 dX6_row_3 (by omega) (Nat.le_of_ble_eq_true rfl) (Nat.le_refl _) (Nat.le_refl _) (k_isWithin (d := d + 1) ) (fun r3 h3 hq3 => ?_)
  obtain ⟨rfl, rfl⟩ := hq3
  refine cm_ifeqB (pc := 6) (tgt := 15) dX6_row_6 (by decide) (fun c6 => ?_) (fun c6 => ?_)
  · refine cm_iconst (pc := 15) (v := -1) dX6_row_15 (by decide) ?_
    exact cm_iret (pc := 16) dX6_row_16 rfl ⟨by first | rfl | (simp [cRow, kRef, sR, sT, *]; done), by first | rfl | (simp [cRow, kRef, sR, sT, *]; done)⟩
  · refine cm_iload2 (pc := 9) dX6_row_9 ?_
    refine cm_bipush (pc := 10) (v := 40) dX6_row_10 (by decide) ?_
    refine cm_icmp_le (pc := 12) (tgt := 17) dX6_row_12 (by decide) (fun c12 => ?_) (fun c12 => ?_)
    · obtain ⟨j, hj, rfl⟩ := isW_ex 6 c6
      have hjc : (nI j).toNatClampNeg = j := nI_clamp (by omega)
      have hS := (hX.row j hj).2
      have zhS := hI.1 j hj
      refine cm_iload2 (pc := 17) dX6_row_17 ?_
      refine cm_if_ge (pc := 18) (tgt := 27) dX6_row_18 (by decide) (fun c18 => ?_) (fun c18 => ?_)
      · obtain ⟨m, hm, rfl⟩ := nI_of2 (n := 40) (M := 40) (by decide) (fun w => absurd c18 (Int32.not_le.mpr w)) c12
        have hmc : (nI m).toNatClampNeg = m := nI_clamp (by omega)
        refine cm_aload0 (pc := 27) dX6_row_27 ?_
        refine cm_getR (pc := 28) flX6_11 dX6_row_28 hX.ox hX.r0 ?_
        refine cm_iload1 (pc := 31) dX6_row_31 ?_
        refine cm_aal2 (pc := 32) dX6_row_32 hX.a3 (by omega) (by decide) (hX.row j hj).1 ?_
        refine cm_iload2 (pc := 33) dX6_row_33 ?_
        refine cm_iconst (pc := 34) (v := 0) dX6_row_34 (by decide) ?_
        refine cm_V2 (pc := 35) mX4_renew_v mlX6_72 dX6_row_35 hS.1 (by omega) (Nat.le_of_ble_eq_true rfl) (Nat.le_refl _) (Nat.le_refl _) (cm_ct_us _ (k_renew (d := d) hS (by decide) hm)) (fun r35 h35 hq35 => ?_)
        obtain ⟨rfl, rfl⟩ := hq35
        
        refine cm_iload2 (pc := 38) dX6_row_38 ?_
        exact cm_iret (pc := 39) dX6_row_39 rfl ⟨by first | rfl | (simp [cRow, kRef, sR, sT, *]; done), by first | rfl | (simp [cRow, kRef, sR, sT, *]; done)⟩
      · refine cm_aload0 (pc := 21) dX6_row_21 ?_
        refine cm_iconst (pc := 22) (v := 5) dX6_row_22 (by decide) ?_
        refine cm_V1 (pc := 23) mX6_refuse_v mlX6_68 dX6_row_23 hX.ox (by omega) (Nat.le_of_ble_eq_true rfl) (Nat.le_refl _) (Nat.le_refl _) (k_refuse (d := d + 1) hX (f := 5) (by decide)) (fun r23 h23 hq23 => ?_)
        obtain ⟨rfl, rfl⟩ := hq23
        exact cm_iret (pc := 26) dX6_row_26 rfl ⟨by first | rfl | (simp [cRow, kRef, sR, sT, *]; done), by first | rfl | (simp [cRow, kRef, sR, sT, *]; done)⟩
    · refine cm_iconst (pc := 15) (v := -1) dX6_row_15 (by decide) ?_
      exact cm_iret (pc := 16) dX6_row_16 rfl ⟨by first | rfl | (simp [cRow, kRef, sR, sT, *]; done), by first | rfl | (simp [cRow, kRef, sR, sT, *]; done)⟩
set_option maxRecDepth 20000 in
theorem k_text (hX : cm_cls sh hr) {r n : Int32} (hI : cInv hi) : cm_ct D mX6_text (d + 2) 0 0 [.ref 2, .int r, .int n] (sh, hi, hl, hr) (fun r9 h9 => r9 = some (.int (cText hi r n).1) ∧ h9 = (sh, (cText hi r n).2, hl, hr)) := by
  refine cm_ct_of (ls := [some (.ref 2), some (.int r), some (.int n)]) 0 (by decide +kernel) rfl rfl ?_
  refine cm_iload1 (pc := 0) dX6_text_0 ?_
  refine cm_iconst (pc := 1) (v := 4) dX6_text_1 (by decide) ?_
  refine cm_S2 (pc := 2) mX6_isWithin_s mlX6_64 dX6_text_2 (by omega) (Nat.le_of_ble_eq_true rfl) (Nat.le_refl _) (Nat.le_refl _) (k_isWithin (d := d + 1) ) (fun r2 h2 hq2 => ?_)
  obtain ⟨rfl, rfl⟩ := hq2
  refine cm_ifeqB (pc := 5) (tgt := 14) dX6_text_5 (by decide) (fun c5 => ?_) (fun c5 => ?_)
  · refine cm_iconst (pc := 14) (v := -1) dX6_text_14 (by decide) ?_
    exact cm_iret (pc := 15) dX6_text_15 rfl ⟨by first | rfl | (simp [cText, kRef, sR, sT, *]; done), by first | rfl | (simp [cText, kRef, sR, sT, *]; done)⟩
  · refine cm_iload2 (pc := 8) dX6_text_8 ?_
    refine cm_bipush (pc := 9) (v := 80) dX6_text_9 (by decide) ?_
    refine cm_icmp_le (pc := 11) (tgt := 16) dX6_text_11 (by decide) (fun c11 => ?_) (fun c11 => ?_)
    · obtain ⟨j, hj, rfl⟩ := isW_ex 4 c5
      have hjc : (nI j).toNatClampNeg = j := nI_clamp (by omega)
      have hS := (hX.txt j hj).2
      have zhS := hI.2 j hj
      refine cm_iload2 (pc := 16) dX6_text_16 ?_
      refine cm_if_ge (pc := 17) (tgt := 26) dX6_text_17 (by decide) (fun c17 => ?_) (fun c17 => ?_)
      · obtain ⟨m, hm, rfl⟩ := nI_of2 (n := 80) (M := 80) (by decide) (fun w => absurd c17 (Int32.not_le.mpr w)) c11
        have hmc : (nI m).toNatClampNeg = m := nI_clamp (by omega)
        refine cm_aload0 (pc := 26) dX6_text_26 ?_
        refine cm_getR (pc := 27) flX6_15 dX6_text_27 hX.ox hX.r1 ?_
        refine cm_iload1 (pc := 30) dX6_text_30 ?_
        refine cm_aal2 (pc := 31) dX6_text_31 hX.a4 (by omega) (by decide) (hX.txt j hj).1 ?_
        refine cm_iload2 (pc := 32) dX6_text_32 ?_
        refine cm_bipush (pc := 33) (v := 32) dX6_text_33 (by decide) ?_
        refine cm_V2 (pc := 35) mX4_renew_v mlX6_72 dX6_text_35 hS.1 (by omega) (Nat.le_of_ble_eq_true rfl) (Nat.le_refl _) (Nat.le_refl _) (cm_ct_us _ (k_renew (d := d) hS (by decide) hm)) (fun r35 h35 hq35 => ?_)
        obtain ⟨rfl, rfl⟩ := hq35
        
        refine cm_iload2 (pc := 38) dX6_text_38 ?_
        exact cm_iret (pc := 39) dX6_text_39 rfl ⟨by first | rfl | (simp [cText, kRef, sR, sT, *]; done), by first | rfl | (simp [cText, kRef, sR, sT, *]; done)⟩
      · refine cm_aload0 (pc := 20) dX6_text_20 ?_
        refine cm_iconst (pc := 21) (v := 5) dX6_text_21 (by decide) ?_
        refine cm_V1 (pc := 22) mX6_refuse_v mlX6_68 dX6_text_22 hX.ox (by omega) (Nat.le_of_ble_eq_true rfl) (Nat.le_refl _) (Nat.le_refl _) (k_refuse (d := d + 1) hX (f := 5) (by decide)) (fun r22 h22 hq22 => ?_)
        obtain ⟨rfl, rfl⟩ := hq22
        exact cm_iret (pc := 25) dX6_text_25 rfl ⟨by first | rfl | (simp [cText, kRef, sR, sT, *]; done), by first | rfl | (simp [cText, kRef, sR, sT, *]; done)⟩
    · refine cm_iconst (pc := 14) (v := -1) dX6_text_14 (by decide) ?_
      exact cm_iret (pc := 15) dX6_text_15 rfl ⟨by first | rfl | (simp [cText, kRef, sR, sT, *]; done), by first | rfl | (simp [cText, kRef, sR, sT, *]; done)⟩
set_option maxRecDepth 20000 in
theorem k_lay (hX : cm_cls sh hr) {r i v : Int32} (hI : cInv hi) : cm_ct D mX6_lay (d + 5) 0 0 [.ref 2, .int r, .int i, .int v] (sh, hi, hl, hr) (fun r9 h9 => r9 = some (.int (cLay hi r i v).1) ∧ h9 = (sh, (cLay hi r i v).2, hl, hr)) := by
  refine cm_ct_of (ls := [some (.ref 2), some (.int r), some (.int i), some (.int v), none]) 1 (by decide +kernel) rfl rfl ?_
  refine cm_iload1 (pc := 0) dX6_lay_0 ?_
  refine cm_bipush (pc := 1) (v := 6) dX6_lay_1 (by decide) ?_
  refine cm_S2 (pc := 3) mX6_isWithin_s mlX6_64 dX6_lay_3 (by omega) (Nat.le_of_ble_eq_true rfl) (Nat.le_refl _) (Nat.le_refl _) (k_isWithin (d := d + 4) ) (fun r3 h3 hq3 => ?_)
  obtain ⟨rfl, rfl⟩ := hq3
  refine cm_ifneB (pc := 6) (tgt := 11) dX6_lay_6 (by decide) (fun c6 => ?_) (fun c6 => ?_)
  · obtain ⟨j, hj, rfl⟩ := isW_ex 6 c6
    have hjc : (nI j).toNatClampNeg = j := nI_clamp (by omega)
    have hS := (hX.row j hj).2
    have zhS := hI.1 j hj
    refine cm_aload0 (pc := 11) dX6_lay_11 ?_
    refine cm_aload0 (pc := 12) dX6_lay_12 ?_
    refine cm_getR (pc := 13) flX6_11 dX6_lay_13 hX.ox hX.r0 ?_
    refine cm_iload1 (pc := 16) dX6_lay_16 ?_
    refine cm_aal2 (pc := 17) dX6_lay_17 hX.a3 (by omega) (by decide) (hX.row j hj).1 ?_
    refine cm_iload2 (pc := 18) dX6_lay_18 ?_
    refine cm_V2 (pc := 19) mX6_missingPlace_v mlX6_76 dX6_lay_19 hX.ox (by omega) (Nat.le_of_ble_eq_true rfl) (Nat.le_refl _) (Nat.le_refl _) (k_missingPlace (d := d + 2) hX hS) (fun r19 h19 hq19 => ?_)
    obtain ⟨rfl, rfl⟩ := hq19
    refine cm_istore4 (pc := 22) dX6_lay_22 (by decide) rfl ?_
    refine cm_iload4 (pc := 24) dX6_lay_24 ?_
    refine cm_if_eq (pc := 26) (tgt := 36) dX6_lay_26 (by decide) (fun c26 => ?_) (fun c26 => ?_)
    · have q2 : cMiss hi (61 + 2 * j) i = 0 := by
        rcases Nat.eq_zero_or_pos (cMiss hi (61 + 2 * j) i) with w | w
        · exact w
        · exact absurd c26 (nI_ne0 w (by have := cMiss_le (hi := hi) (s := 61 + 2 * j) (i := i); omega))
      refine cm_aload0 (pc := 36) dX6_lay_36 ?_
      refine cm_aload0 (pc := 37) dX6_lay_37 ?_
      refine cm_getR (pc := 38) flX6_11 dX6_lay_38 hX.ox hX.r0 ?_
      refine cm_iload1 (pc := 41) dX6_lay_41 ?_
      refine cm_aal2 (pc := 42) dX6_lay_42 hX.a3 (by omega) (by decide) (hX.row j hj).1 ?_
      refine cm_iload2 (pc := 43) dX6_lay_43 ?_
      refine cm_iload3 (pc := 44) dX6_lay_44 ?_
      refine cm_V2 (pc := 45) mX4_exchange_v mlX6_80 dX6_lay_45 hS.1 (by omega) (Nat.le_of_ble_eq_true rfl) (Nat.le_refl _) (Nat.le_refl _) (cm_ct_us _ (k_exchange (d := d + 1) hS (by decide) (show (hi (61 + 2 * j) 1).toInt ≤ _ from zhS.le (by decide)))) (fun r45 h45 hq45 => ?_)
      obtain ⟨rfl, rfl⟩ := hq45
      
      refine cm_V1 (pc := 48) mX6_tell_v mlX6_84 dX6_lay_48 hX.ox (by omega) (Nat.le_of_ble_eq_true rfl) (Nat.le_refl _) (Nat.le_refl _) (k_tell (d := d + 4) hX) (fun r48 h48 hq48 => ?_)
      obtain ⟨rfl, rfl⟩ := hq48
      exact cm_iret (pc := 51) dX6_lay_51 rfl ⟨by first | rfl | (simp [cLay, sR, *]; done), by first | rfl | (simp [cLay, sR, *]; done)⟩
    · have q2 : ¬ cMiss hi (61 + 2 * j) i = 0 := fun w => by rw [w] at c26; exact c26 rfl
      refine cm_aload0 (pc := 29) dX6_lay_29 ?_
      refine cm_iload4 (pc := 30) dX6_lay_30 ?_
      refine cm_V1 (pc := 32) mX6_refuse_v mlX6_68 dX6_lay_32 hX.ox (by omega) (Nat.le_of_ble_eq_true rfl) (Nat.le_refl _) (Nat.le_refl _) (k_refuse (d := d + 4) hX (by have := cMiss_le (hi := hi) (s := 61 + 2 * j) (i := i); omega)) (fun r32 h32 hq32 => ?_)
      obtain ⟨rfl, rfl⟩ := hq32
      exact cm_iret (pc := 35) dX6_lay_35 rfl ⟨by first | rfl | (simp [cLay, sR, *]; done), by first | rfl | (simp [cLay, sR, *]; done)⟩
  · refine cm_iconst (pc := 9) (v := -1) dX6_lay_9 (by decide) ?_
    exact cm_iret (pc := 10) dX6_lay_10 rfl ⟨by first | rfl | (simp [cLay, sR, *]; done), by first | rfl | (simp [cLay, sR, *]; done)⟩
set_option maxRecDepth 20000 in
theorem k_at (hX : cm_cls sh hr) {r i : Int32} (hI : cInv hi) : cm_ct D mX6_at (d + 5) 0 0 [.ref 2, .int r, .int i] (sh, hi, hl, hr) (fun r9 h9 => r9 = some (.int (cAt hi r i).1) ∧ h9 = (sh, (cAt hi r i).2, hl, hr)) := by
  refine cm_ct_of (ls := [some (.ref 2), some (.int r), some (.int i), none]) 1 (by decide +kernel) rfl rfl ?_
  refine cm_iload1 (pc := 0) dX6_at_0 ?_
  refine cm_bipush (pc := 1) (v := 6) dX6_at_1 (by decide) ?_
  refine cm_S2 (pc := 3) mX6_isWithin_s mlX6_64 dX6_at_3 (by omega) (Nat.le_of_ble_eq_true rfl) (Nat.le_refl _) (Nat.le_refl _) (k_isWithin (d := d + 4) ) (fun r3 h3 hq3 => ?_)
  obtain ⟨rfl, rfl⟩ := hq3
  refine cm_ifneB (pc := 6) (tgt := 11) dX6_at_6 (by decide) (fun c6 => ?_) (fun c6 => ?_)
  · obtain ⟨j, hj, rfl⟩ := isW_ex 6 c6
    have hjc : (nI j).toNatClampNeg = j := nI_clamp (by omega)
    have hS := (hX.row j hj).2
    have zhS := hI.1 j hj
    refine cm_aload0 (pc := 11) dX6_at_11 ?_
    refine cm_aload0 (pc := 12) dX6_at_12 ?_
    refine cm_getR (pc := 13) flX6_11 dX6_at_13 hX.ox hX.r0 ?_
    refine cm_iload1 (pc := 16) dX6_at_16 ?_
    refine cm_aal2 (pc := 17) dX6_at_17 hX.a3 (by omega) (by decide) (hX.row j hj).1 ?_
    refine cm_iload2 (pc := 18) dX6_at_18 ?_
    refine cm_V2 (pc := 19) mX6_missingPlace_v mlX6_76 dX6_at_19 hX.ox (by omega) (Nat.le_of_ble_eq_true rfl) (Nat.le_refl _) (Nat.le_refl _) (k_missingPlace (d := d + 2) hX hS) (fun r19 h19 hq19 => ?_)
    obtain ⟨rfl, rfl⟩ := hq19
    refine cm_istore3 (pc := 22) dX6_at_22 (by decide) rfl ?_
    refine cm_iload3 (pc := 23) dX6_at_23 ?_
    refine cm_if_eq (pc := 24) (tgt := 33) dX6_at_24 (by decide) (fun c24 => ?_) (fun c24 => ?_)
    · have q2 : cMiss hi (61 + 2 * j) i = 0 := by
        rcases Nat.eq_zero_or_pos (cMiss hi (61 + 2 * j) i) with w | w
        · exact w
        · exact absurd c24 (nI_ne0 w (by have := cMiss_le (hi := hi) (s := 61 + 2 * j) (i := i); omega))
      refine cm_aload0 (pc := 33) dX6_at_33 ?_
      refine cm_aload0 (pc := 34) dX6_at_34 ?_
      refine cm_getR (pc := 35) flX6_11 dX6_at_35 hX.ox hX.r0 ?_
      refine cm_iload1 (pc := 38) dX6_at_38 ?_
      refine cm_aal2 (pc := 39) dX6_at_39 hX.a3 (by omega) (by decide) (hX.row j hj).1 ?_
      refine cm_iload2 (pc := 40) dX6_at_40 ?_
      refine cm_V1 (pc := 41) mX4_get_v mlX6_87 dX6_at_41 hS.1 (by omega) (Nat.le_of_ble_eq_true rfl) (Nat.le_refl _) (Nat.le_refl _) (cm_ct_us _ (k_get (d := d + 2) hS (by decide) (show (hi (61 + 2 * j) 1).toInt ≤ _ from zhS.le (by decide)))) (fun r41 h41 hq41 => ?_)
      obtain ⟨rfl, rfl⟩ := hq41
      rw [cm_us_sf]
      refine cm_V1 (pc := 44) mX6_tell_v mlX6_84 dX6_at_44 hX.ox (by omega) (Nat.le_of_ble_eq_true rfl) (Nat.le_refl _) (Nat.le_refl _) (k_tell (d := d + 4) hX) (fun r44 h44 hq44 => ?_)
      obtain ⟨rfl, rfl⟩ := hq44
      exact cm_iret (pc := 47) dX6_at_47 rfl ⟨by first | rfl | (simp [cAt, sR, *]; done), by first | rfl | (simp [cAt, sR, *]; done)⟩
    · have q2 : ¬ cMiss hi (61 + 2 * j) i = 0 := fun w => by rw [w] at c24; exact c24 rfl
      refine cm_aload0 (pc := 27) dX6_at_27 ?_
      refine cm_iload3 (pc := 28) dX6_at_28 ?_
      refine cm_V1 (pc := 29) mX6_refuse_v mlX6_68 dX6_at_29 hX.ox (by omega) (Nat.le_of_ble_eq_true rfl) (Nat.le_refl _) (Nat.le_refl _) (k_refuse (d := d + 4) hX (by have := cMiss_le (hi := hi) (s := 61 + 2 * j) (i := i); omega)) (fun r29 h29 hq29 => ?_)
      obtain ⟨rfl, rfl⟩ := hq29
      exact cm_iret (pc := 32) dX6_at_32 rfl ⟨by first | rfl | (simp [cAt, sR, *]; done), by first | rfl | (simp [cAt, sR, *]; done)⟩
  · refine cm_iconst (pc := 9) (v := -1) dX6_at_9 (by decide) ?_
    exact cm_iret (pc := 10) dX6_at_10 rfl ⟨by first | rfl | (simp [cAt, sR, *]; done), by first | rfl | (simp [cAt, sR, *]; done)⟩
set_option maxRecDepth 20000 in
theorem k_put (hX : cm_cls sh hr) {r i v : Int32} (hI : cInv hi) : cm_ct D mX6_put (d + 5) 0 0 [.ref 2, .int r, .int i, .int v] (sh, hi, hl, hr) (fun r9 h9 => r9 = some (.int (cPut hi r i v).1) ∧ h9 = (sh, (cPut hi r i v).2, hl, hr)) := by
  refine cm_ct_of (ls := [some (.ref 2), some (.int r), some (.int i), some (.int v), none]) 1 (by decide +kernel) rfl rfl ?_
  refine cm_iload1 (pc := 0) dX6_put_0 ?_
  refine cm_iconst (pc := 1) (v := 4) dX6_put_1 (by decide) ?_
  refine cm_S2 (pc := 2) mX6_isWithin_s mlX6_64 dX6_put_2 (by omega) (Nat.le_of_ble_eq_true rfl) (Nat.le_refl _) (Nat.le_refl _) (k_isWithin (d := d + 4) ) (fun r2 h2 hq2 => ?_)
  obtain ⟨rfl, rfl⟩ := hq2
  refine cm_ifneB (pc := 5) (tgt := 10) dX6_put_5 (by decide) (fun c5 => ?_) (fun c5 => ?_)
  · obtain ⟨j, hj, rfl⟩ := isW_ex 4 c5
    have hjc : (nI j).toNatClampNeg = j := nI_clamp (by omega)
    have hS := (hX.txt j hj).2
    have zhS := hI.2 j hj
    refine cm_aload0 (pc := 10) dX6_put_10 ?_
    refine cm_aload0 (pc := 11) dX6_put_11 ?_
    refine cm_getR (pc := 12) flX6_15 dX6_put_12 hX.ox hX.r1 ?_
    refine cm_iload1 (pc := 15) dX6_put_15 ?_
    refine cm_aal2 (pc := 16) dX6_put_16 hX.a4 (by omega) (by decide) (hX.txt j hj).1 ?_
    refine cm_iload2 (pc := 17) dX6_put_17 ?_
    refine cm_V2 (pc := 18) mX6_missingPlace_v mlX6_76 dX6_put_18 hX.ox (by omega) (Nat.le_of_ble_eq_true rfl) (Nat.le_refl _) (Nat.le_refl _) (k_missingPlace (d := d + 2) hX hS) (fun r18 h18 hq18 => ?_)
    obtain ⟨rfl, rfl⟩ := hq18
    refine cm_istore4 (pc := 21) dX6_put_21 (by decide) rfl ?_
    refine cm_iload4 (pc := 23) dX6_put_23 ?_
    refine cm_if_eq (pc := 25) (tgt := 35) dX6_put_25 (by decide) (fun c25 => ?_) (fun c25 => ?_)
    · have q2 : cMiss hi (73 + 2 * j) i = 0 := by
        rcases Nat.eq_zero_or_pos (cMiss hi (73 + 2 * j) i) with w | w
        · exact w
        · exact absurd c25 (nI_ne0 w (by have := cMiss_le (hi := hi) (s := 73 + 2 * j) (i := i); omega))
      refine cm_sipush (pc := 35) (v := 1000) dX6_put_35 (by decide) ?_
      refine cm_aload0 (pc := 38) dX6_put_38 ?_
      refine cm_getR (pc := 39) flX6_15 dX6_put_39 hX.ox hX.r1 ?_
      refine cm_iload1 (pc := 42) dX6_put_42 ?_
      refine cm_aal2 (pc := 43) dX6_put_43 hX.a4 (by omega) (by decide) (hX.txt j hj).1 ?_
      refine cm_iload2 (pc := 44) dX6_put_44 ?_
      refine cm_iload3 (pc := 45) dX6_put_45 ?_
      refine cm_i2b (pc := 46) dX6_put_46 ?_
      refine cm_V2 (pc := 47) mX4_exchange_v mlX6_80 dX6_put_47 hS.1 (by omega) (Nat.le_of_ble_eq_true rfl) (Nat.le_refl _) (Nat.le_refl _) (cm_ct_us _ (k_exchange (d := d + 1) hS (by decide) (show (hi (73 + 2 * j) 1).toInt ≤ _ from zhS.le (by decide)))) (fun r47 h47 hq47 => ?_)
      obtain ⟨rfl, rfl⟩ := hq47
      
      refine cm_iadd (pc := 50) dX6_put_50 ?_
      exact cm_iret (pc := 51) dX6_put_51 rfl ⟨by first | rfl | (simp [cPut, sT, *]; done), by first | rfl | (simp [cPut, sT, *]; done)⟩
    · have q2 : ¬ cMiss hi (73 + 2 * j) i = 0 := fun w => by rw [w] at c25; exact c25 rfl
      refine cm_aload0 (pc := 28) dX6_put_28 ?_
      refine cm_iload4 (pc := 29) dX6_put_29 ?_
      refine cm_V1 (pc := 31) mX6_refuse_v mlX6_68 dX6_put_31 hX.ox (by omega) (Nat.le_of_ble_eq_true rfl) (Nat.le_refl _) (Nat.le_refl _) (k_refuse (d := d + 4) hX (by have := cMiss_le (hi := hi) (s := 73 + 2 * j) (i := i); omega)) (fun r31 h31 hq31 => ?_)
      obtain ⟨rfl, rfl⟩ := hq31
      exact cm_iret (pc := 34) dX6_put_34 rfl ⟨by first | rfl | (simp [cPut, sT, *]; done), by first | rfl | (simp [cPut, sT, *]; done)⟩
  · refine cm_iconst (pc := 8) (v := -1) dX6_put_8 (by decide) ?_
    exact cm_iret (pc := 9) dX6_put_9 rfl ⟨by first | rfl | (simp [cPut, sT, *]; done), by first | rfl | (simp [cPut, sT, *]; done)⟩
set_option maxRecDepth 20000 in
theorem k_tear (hX : cm_cls sh hr) {r : Int32} (hI : cInv hi) : cm_ct D mX6_tear (d + 2) 0 0 [.ref 2, .int r] (sh, hi, hl, hr) (fun r9 h9 => r9 = some (.int (cTear hi r).1) ∧ h9 = (sh, (cTear hi r).2, hl, hr)) := by
  refine cm_ct_of (ls := [some (.ref 2), some (.int r)]) 0 (by decide +kernel) rfl rfl ?_
  refine cm_iload1 (pc := 0) dX6_tear_0 ?_
  refine cm_bipush (pc := 1) (v := 6) dX6_tear_1 (by decide) ?_
  refine cm_S2 (pc := 3) mX6_isWithin_s mlX6_64 dX6_tear_3 (by omega) (Nat.le_of_ble_eq_true rfl) (Nat.le_refl _) (Nat.le_refl _) (k_isWithin (d := d + 1) ) (fun r3 h3 hq3 => ?_)
  obtain ⟨rfl, rfl⟩ := hq3
  refine cm_ifneB (pc := 6) (tgt := 11) dX6_tear_6 (by decide) (fun c6 => ?_) (fun c6 => ?_)
  · obtain ⟨j, hj, rfl⟩ := isW_ex 6 c6
    have hjc : (nI j).toNatClampNeg = j := nI_clamp (by omega)
    have hS := (hX.row j hj).2
    have zhS := hI.1 j hj
    refine cm_aload0 (pc := 11) dX6_tear_11 ?_
    refine cm_getR (pc := 12) flX6_11 dX6_tear_12 hX.ox hX.r0 ?_
    refine cm_iload1 (pc := 15) dX6_tear_15 ?_
    refine cm_aal2 (pc := 16) dX6_tear_16 hX.a3 (by omega) (by decide) (hX.row j hj).1 ?_
    refine cm_V0 (pc := 17) mX4_isThere_v mlX6_90 dX6_tear_17 hS.1 (by omega) (Nat.le_of_ble_eq_true rfl) (Nat.le_refl _) (Nat.le_refl _) (k_isThere (d := d + 1) hS) (fun r17 h17 hq17 => ?_)
    obtain ⟨rfl, rfl⟩ := hq17
    refine cm_ifneB (pc := 20) (tgt := 29) dX6_tear_20 (by decide) (fun c20 => ?_) (fun c20 => ?_)
    · have q1 : ¬ hi (61 + 2 * j) 1 = -1 := by simpa using c20
      refine cm_aload0 (pc := 29) dX6_tear_29 ?_
      refine cm_getR (pc := 30) flX6_11 dX6_tear_30 hX.ox hX.r0 ?_
      refine cm_iload1 (pc := 33) dX6_tear_33 ?_
      refine cm_aal2 (pc := 34) dX6_tear_34 hX.a3 (by omega) (by decide) (hX.row j hj).1 ?_
      refine cm_V0 (pc := 35) mX4_remove_v mlX6_94 dX6_tear_35 hS.1 (by omega) (Nat.le_of_ble_eq_true rfl) (Nat.le_refl _) (Nat.le_refl _) (cm_ct_us _ (k_remove (d := d + 1) hS)) (fun r35 h35 hq35 => ?_)
      obtain ⟨rfl, rfl⟩ := hq35
      
      refine cm_iconst (pc := 38) (v := 1) dX6_tear_38 (by decide) ?_
      exact cm_iret (pc := 39) dX6_tear_39 rfl ⟨by first | rfl | (simp [cTear, sR, *]; done), by first | rfl | (simp [cTear, sR, *]; done)⟩
    · have q1 : hi (61 + 2 * j) 1 = -1 := by simpa using c20
      refine cm_aload0 (pc := 23) dX6_tear_23 ?_
      refine cm_iconst (pc := 24) (v := 1) dX6_tear_24 (by decide) ?_
      refine cm_V1 (pc := 25) mX6_refuse_v mlX6_68 dX6_tear_25 hX.ox (by omega) (Nat.le_of_ble_eq_true rfl) (Nat.le_refl _) (Nat.le_refl _) (k_refuse (d := d + 1) hX (f := 1) (by decide)) (fun r25 h25 hq25 => ?_)
      obtain ⟨rfl, rfl⟩ := hq25
      exact cm_iret (pc := 28) dX6_tear_28 rfl ⟨by first | rfl | (simp [cTear, sR, *]; done), by first | rfl | (simp [cTear, sR, *]; done)⟩
  · refine cm_iconst (pc := 9) (v := -1) dX6_tear_9 (by decide) ?_
    exact cm_iret (pc := 10) dX6_tear_10 rfl ⟨by first | rfl | (simp [cTear, sR, *]; done), by first | rfl | (simp [cTear, sR, *]; done)⟩
set_option maxRecDepth 20000 in
theorem k_mean (hX : cm_cls sh hr) {r : Int32} (hI : cInv hi) : cm_ct D mX6_mean (d + 2) 0 0 [.ref 2, .int r] (sh, hi, hl, hr) (fun r9 h9 => r9 = some (.int (cMean hi r).1) ∧ h9 = (sh, (cMean hi r).2, hl, hr)) := by
  refine cm_ct_of (ls := [some (.ref 2), some (.int r), none]) 1 (by decide +kernel) rfl rfl ?_
  refine cm_iload1 (pc := 0) dX6_mean_0 ?_
  refine cm_bipush (pc := 1) (v := 6) dX6_mean_1 (by decide) ?_
  refine cm_S2 (pc := 3) mX6_isWithin_s mlX6_64 dX6_mean_3 (by omega) (Nat.le_of_ble_eq_true rfl) (Nat.le_refl _) (Nat.le_refl _) (k_isWithin (d := d + 1) ) (fun r3 h3 hq3 => ?_)
  obtain ⟨rfl, rfl⟩ := hq3
  refine cm_ifneB (pc := 6) (tgt := 11) dX6_mean_6 (by decide) (fun c6 => ?_) (fun c6 => ?_)
  · obtain ⟨j, hj, rfl⟩ := isW_ex 6 c6
    have hjc : (nI j).toNatClampNeg = j := nI_clamp (by omega)
    have hS := (hX.row j hj).2
    have zhS := hI.1 j hj
    refine cm_aload0 (pc := 11) dX6_mean_11 ?_
    refine cm_getR (pc := 12) flX6_11 dX6_mean_12 hX.ox hX.r0 ?_
    refine cm_iload1 (pc := 15) dX6_mean_15 ?_
    refine cm_aal2 (pc := 16) dX6_mean_16 hX.a3 (by omega) (by decide) (hX.row j hj).1 ?_
    refine cm_V0 (pc := 17) mX4_size_v mlX6_104 dX6_mean_17 hS.1 (by omega) (Nat.le_of_ble_eq_true rfl) (Nat.le_refl _) (Nat.le_refl _) (k_size (d := d + 1) hS) (fun r17 h17 hq17 => ?_)
    obtain ⟨rfl, rfl⟩ := hq17
    refine cm_istore2 (pc := 20) dX6_mean_20 (by decide) rfl ?_
    refine cm_iload2 (pc := 21) dX6_mean_21 ?_
    refine cm_if_ge (pc := 22) (tgt := 31) dX6_mean_22 (by decide) (fun c22 => ?_) (fun c22 => ?_)
    · have hz1 : hi (61 + 2 * j) 1 = nI (hi (61 + 2 * j) 1).toNatClampNeg := z_of (by simpa using Int32.le_iff_toInt_le.mp c22)
      have hz2 : (hi (61 + 2 * j) 1).toNatClampNeg ≤ 40 := by have := zhS.le (by decide); show (hi (61 + 2 * j) 1).toInt.toNat ≤ 40; omega
      refine cm_iload2 (pc := 31) dX6_mean_31 ?_
      refine cm_if_ne (pc := 32) (tgt := 41) dX6_mean_32 (by decide) (fun c32 => ?_) (fun c32 => ?_)
      · refine cm_aload0 (pc := 41) dX6_mean_41 ?_
        refine cm_aload0 (pc := 42) dX6_mean_42 ?_
        refine cm_getR (pc := 43) flX6_11 dX6_mean_43 hX.ox hX.r0 ?_
        refine cm_iload1 (pc := 46) dX6_mean_46 ?_
        refine cm_aal2 (pc := 47) dX6_mean_47 hX.a3 (by omega) (by decide) (hX.row j hj).1 ?_
        refine cm_V0 (pc := 48) mX4_sum_v mlX6_108 dX6_mean_48 hS.1 (by omega) (Nat.le_of_ble_eq_true rfl) (Nat.le_refl _) (Nat.le_refl _) (cm_ct_us _ (k_sum (d := d + 1) hS (by decide) hz2 hz1)) (fun r48 h48 hq48 => ?_)
        obtain ⟨rfl, rfl⟩ := hq48
        rw [cm_us_sf, show cm_sf hi (61 + 2 * j) 1 = hi (61 + 2 * j + 1) from rfl]
        refine cm_iload2 (pc := 51) dX6_mean_51 ?_
        refine cm_i2l (pc := 52) dX6_mean_52 ?_
        refine cm_ldiv (pc := 53) dX6_mean_53 (i64_ne c32) ?_
        refine cm_l2i (pc := 54) dX6_mean_54 ?_
        refine cm_V1 (pc := 55) mX6_tell_v mlX6_84 dX6_mean_55 hX.ox (by omega) (Nat.le_of_ble_eq_true rfl) (Nat.le_refl _) (Nat.le_refl _) (k_tell (d := d + 1) hX) (fun r55 h55 hq55 => ?_)
        obtain ⟨rfl, rfl⟩ := hq55
        exact cm_iret (pc := 58) dX6_mean_58 rfl ⟨by simp [cMean, sR, c6, hjc, c22, c32], by simp [cMean, sR, c6, hjc, c22, c32]⟩
      · refine cm_aload0 (pc := 35) dX6_mean_35 ?_
        refine cm_iconst (pc := 36) (v := 4) dX6_mean_36 (by decide) ?_
        refine cm_V1 (pc := 37) mX6_refuse_v mlX6_68 dX6_mean_37 hX.ox (by omega) (Nat.le_of_ble_eq_true rfl) (Nat.le_refl _) (Nat.le_refl _) (k_refuse (d := d + 1) hX (f := 4) (by decide)) (fun r37 h37 hq37 => ?_)
        obtain ⟨rfl, rfl⟩ := hq37
        exact cm_iret (pc := 40) dX6_mean_40 rfl ⟨by simp [cMean, sR, c6, hjc, c22, c32], by simp [cMean, sR, c6, hjc, c22, c32]⟩
    · refine cm_aload0 (pc := 25) dX6_mean_25 ?_
      refine cm_iconst (pc := 26) (v := 1) dX6_mean_26 (by decide) ?_
      refine cm_V1 (pc := 27) mX6_refuse_v mlX6_68 dX6_mean_27 hX.ox (by omega) (Nat.le_of_ble_eq_true rfl) (Nat.le_refl _) (Nat.le_refl _) (k_refuse (d := d + 1) hX (f := 1) (by decide)) (fun r27 h27 hq27 => ?_)
      obtain ⟨rfl, rfl⟩ := hq27
      exact cm_iret (pc := 30) dX6_mean_30 rfl ⟨by first | rfl | (simp [cMean, sR, *]; done), by first | rfl | (simp [cMean, sR, *]; done)⟩
  · refine cm_iconst (pc := 9) (v := -1) dX6_mean_9 (by decide) ?_
    exact cm_iret (pc := 10) dX6_mean_10 rfl ⟨by first | rfl | (simp [cMean, sR, *]; done), by first | rfl | (simp [cMean, sR, *]; done)⟩
set_option maxRecDepth 20000 in
theorem k_copy (hX : cm_cls sh hr) {r i to jj n : Int32} (hI : cInv hi) : cm_ct D mX6_copy (d + 3) 0 0 [.ref 2, .int r, .int i, .int to, .int jj, .int n] (sh, hi, hl, hr) (fun r9 h9 => r9 = some (.int (cCopy hi r i to jj n).1) ∧ h9 = (sh, (cCopy hi r i to jj n).2, hl, hr)) := by
  refine cm_ct_of (ls := [some (.ref 2), some (.int r), some (.int i), some (.int to), some (.int jj), some (.int n)]) 0 (by decide +kernel) rfl rfl ?_
  refine cm_iload1 (pc := 0) dX6_copy_0 ?_
  refine cm_bipush (pc := 1) (v := 6) dX6_copy_1 (by decide) ?_
  refine cm_S2 (pc := 3) mX6_isWithin_s mlX6_64 dX6_copy_3 (by omega) (Nat.le_of_ble_eq_true rfl) (Nat.le_refl _) (Nat.le_refl _) (k_isWithin (d := d + 2) ) (fun r3 h3 hq3 => ?_)
  obtain ⟨rfl, rfl⟩ := hq3
  refine cm_ifeqB (pc := 6) (tgt := 18) dX6_copy_6 (by decide) (fun c6 => ?_) (fun c6 => ?_)
  · refine cm_iconst (pc := 18) (v := -1) dX6_copy_18 (by decide) ?_
    exact cm_iret (pc := 19) dX6_copy_19 rfl ⟨by first | rfl | (simp [cCopy, sR, *]; done), by first | rfl | (simp [cCopy, sR, *]; done)⟩
  · obtain ⟨j, hj, rfl⟩ := isW_ex 6 c6
    have hjc : (nI j).toNatClampNeg = j := nI_clamp (by omega)
    have hS := (hX.row j hj).2
    have zhS := hI.1 j hj
    refine cm_iload3 (pc := 9) dX6_copy_9 ?_
    refine cm_bipush (pc := 10) (v := 6) dX6_copy_10 (by decide) ?_
    refine cm_S2 (pc := 12) mX6_isWithin_s mlX6_64 dX6_copy_12 (by omega) (Nat.le_of_ble_eq_true rfl) (Nat.le_refl _) (Nat.le_refl _) (k_isWithin (d := d + 2) ) (fun r12 h12 hq12 => ?_)
    obtain ⟨rfl, rfl⟩ := hq12
    refine cm_ifneB (pc := 15) (tgt := 20) dX6_copy_15 (by decide) (fun c15 => ?_) (fun c15 => ?_)
    · obtain ⟨q2, hq2, rfl⟩ := isW_ex 6 c15
      have hq2c : (nI q2).toNatClampNeg = q2 := nI_clamp (by omega)
      have hS2 := (hX.row q2 hq2).2
      have zhS2 := hI.1 q2 hq2
      refine cm_iload5 (pc := 20) dX6_copy_20 ?_
      refine cm_if_ge (pc := 22) (tgt := 31) dX6_copy_22 (by decide) (fun c22 => ?_) (fun c22 => ?_)
      · refine cm_aload0 (pc := 31) dX6_copy_31 ?_
        refine cm_getR (pc := 32) flX6_11 dX6_copy_32 hX.ox hX.r0 ?_
        refine cm_iload1 (pc := 35) dX6_copy_35 ?_
        refine cm_aal2 (pc := 36) dX6_copy_36 hX.a3 (by omega) (by decide) (hX.row j hj).1 ?_
        refine cm_V0 (pc := 37) mX4_isThere_v mlX6_90 dX6_copy_37 hS.1 (by omega) (Nat.le_of_ble_eq_true rfl) (Nat.le_refl _) (Nat.le_refl _) (k_isThere (d := d + 2) hS) (fun r37 h37 hq37 => ?_)
        obtain ⟨rfl, rfl⟩ := hq37
        refine cm_ifeqB (pc := 40) (tgt := 55) dX6_copy_40 (by decide) (fun c40 => ?_) (fun c40 => ?_)
        · have q1 : hi (61 + 2 * j) 1 = -1 := by simpa using c40
          refine cm_aload0 (pc := 55) dX6_copy_55 ?_
          refine cm_iconst (pc := 56) (v := 1) dX6_copy_56 (by decide) ?_
          refine cm_V1 (pc := 57) mX6_refuse_v mlX6_68 dX6_copy_57 hX.ox (by omega) (Nat.le_of_ble_eq_true rfl) (Nat.le_refl _) (Nat.le_refl _) (k_refuse (d := d + 2) hX (f := 1) (by decide)) (fun r57 h57 hq57 => ?_)
          obtain ⟨rfl, rfl⟩ := hq57
          exact cm_iret (pc := 60) dX6_copy_60 rfl ⟨by first | rfl | (simp [cCopy, sR, *]; done), by first | rfl | (simp [cCopy, sR, *]; done)⟩
        · have q1 : ¬ hi (61 + 2 * j) 1 = -1 := by simpa using c40
          refine cm_aload0 (pc := 43) dX6_copy_43 ?_
          refine cm_getR (pc := 44) flX6_11 dX6_copy_44 hX.ox hX.r0 ?_
          refine cm_iload3 (pc := 47) dX6_copy_47 ?_
          refine cm_aal2 (pc := 48) dX6_copy_48 hX.a3 (by omega) (by decide) (hX.row q2 hq2).1 ?_
          refine cm_V0 (pc := 49) mX4_isThere_v mlX6_90 dX6_copy_49 hS2.1 (by omega) (Nat.le_of_ble_eq_true rfl) (Nat.le_refl _) (Nat.le_refl _) (k_isThere (d := d + 2) hS2) (fun r49 h49 hq49 => ?_)
          obtain ⟨rfl, rfl⟩ := hq49
          refine cm_ifneB (pc := 52) (tgt := 61) dX6_copy_52 (by decide) (fun c52 => ?_) (fun c52 => ?_)
          · have q3 : ¬ hi (61 + 2 * q2) 1 = -1 := by simpa using c52
            refine cm_aload0 (pc := 61) dX6_copy_61 ?_
            refine cm_getR (pc := 62) flX6_11 dX6_copy_62 hX.ox hX.r0 ?_
            refine cm_iload1 (pc := 65) dX6_copy_65 ?_
            refine cm_aal2 (pc := 66) dX6_copy_66 hX.a3 (by omega) (by decide) (hX.row j hj).1 ?_
            refine cm_iload2 (pc := 67) dX6_copy_67 ?_
            refine cm_iload5 (pc := 68) dX6_copy_68 ?_
            refine cm_V2 (pc := 70) mX4_hasPart_v mlX6_97 dX6_copy_70 hS.1 (by omega) (Nat.le_of_ble_eq_true rfl) (Nat.le_refl _) (Nat.le_refl _) (k_hasPart (d := d + 1) hS) (fun r70 h70 hq70 => ?_)
            obtain ⟨rfl, rfl⟩ := hq70
            refine cm_ifeqB (pc := 73) (tgt := 92) dX6_copy_73 (by decide) (fun c73 => ?_) (fun c73 => ?_)
            · have q4 : cPart hi (61 + 2 * j) i n = false := c73
              refine cm_aload0 (pc := 92) dX6_copy_92 ?_
              refine cm_iconst (pc := 93) (v := 2) dX6_copy_93 (by decide) ?_
              refine cm_V1 (pc := 94) mX6_refuse_v mlX6_68 dX6_copy_94 hX.ox (by omega) (Nat.le_of_ble_eq_true rfl) (Nat.le_refl _) (Nat.le_refl _) (k_refuse (d := d + 2) hX (f := 2) (by decide)) (fun r94 h94 hq94 => ?_)
              obtain ⟨rfl, rfl⟩ := hq94
              exact cm_iret (pc := 97) dX6_copy_97 rfl ⟨by first | rfl | (simp [cCopy, sR, *]; done), by first | rfl | (simp [cCopy, sR, *]; done)⟩
            · have q4 : cPart hi (61 + 2 * j) i n = true := c73
              refine cm_aload0 (pc := 76) dX6_copy_76 ?_
              refine cm_getR (pc := 77) flX6_11 dX6_copy_77 hX.ox hX.r0 ?_
              refine cm_iload3 (pc := 80) dX6_copy_80 ?_
              refine cm_aal2 (pc := 81) dX6_copy_81 hX.a3 (by omega) (by decide) (hX.row q2 hq2).1 ?_
              refine cm_iload4 (pc := 82) dX6_copy_82 ?_
              refine cm_iload5 (pc := 84) dX6_copy_84 ?_
              refine cm_V2 (pc := 86) mX4_hasPart_v mlX6_97 dX6_copy_86 hS2.1 (by omega) (Nat.le_of_ble_eq_true rfl) (Nat.le_refl _) (Nat.le_refl _) (k_hasPart (d := d + 1) hS2) (fun r86 h86 hq86 => ?_)
              obtain ⟨rfl, rfl⟩ := hq86
              refine cm_ifneB (pc := 89) (tgt := 98) dX6_copy_89 (by decide) (fun c89 => ?_) (fun c89 => ?_)
              · have q5 : cPart hi (61 + 2 * q2) jj n = true := c89
                refine cm_aload0 (pc := 98) dX6_copy_98 ?_
                refine cm_getR (pc := 99) flX6_11 dX6_copy_99 hX.ox hX.r0 ?_
                refine cm_iload3 (pc := 102) dX6_copy_102 ?_
                refine cm_aal2 (pc := 103) dX6_copy_103 hX.a3 (by omega) (by decide) (hX.row q2 hq2).1 ?_
                refine cm_aload0 (pc := 104) dX6_copy_104 ?_
                refine cm_getR (pc := 105) flX6_11 dX6_copy_105 hX.ox hX.r0 ?_
                refine cm_iload1 (pc := 108) dX6_copy_108 ?_
                refine cm_aal2 (pc := 109) dX6_copy_109 hX.a3 (by omega) (by decide) (hX.row j hj).1 ?_
                refine cm_iload2 (pc := 110) dX6_copy_110 ?_
                refine cm_iload4 (pc := 111) dX6_copy_111 ?_
                refine cm_iload5 (pc := 113) dX6_copy_113 ?_
                refine cm_V4 (pc := 115) mX4_takePart_v mlX6_100 dX6_copy_115 hS2.1 (by omega) (Nat.le_of_ble_eq_true rfl) (Nat.le_refl _) (Nat.le_refl _) (k_takePart (d := d) hS2 hS (zhS2.le (by decide)) (zhS.le (by decide)) (by decide)) (fun r115 h115 hq115 => ?_)
                obtain ⟨rfl, rfl⟩ := hq115
                rw [if_pos (show _ = true by rw [c73, c89]; rfl)]
                refine cm_iconst (pc := 118) (v := 1) dX6_copy_118 (by decide) ?_
                exact cm_iret (pc := 119) dX6_copy_119 rfl ⟨by first | rfl | (simp [cCopy, sR, *]; done), by first | rfl | (simp [cCopy, sR, *]; done)⟩
              · have q5 : cPart hi (61 + 2 * q2) jj n = false := c89
                refine cm_aload0 (pc := 92) dX6_copy_92 ?_
                refine cm_iconst (pc := 93) (v := 2) dX6_copy_93 (by decide) ?_
                refine cm_V1 (pc := 94) mX6_refuse_v mlX6_68 dX6_copy_94 hX.ox (by omega) (Nat.le_of_ble_eq_true rfl) (Nat.le_refl _) (Nat.le_refl _) (k_refuse (d := d + 2) hX (f := 2) (by decide)) (fun r94 h94 hq94 => ?_)
                obtain ⟨rfl, rfl⟩ := hq94
                exact cm_iret (pc := 97) dX6_copy_97 rfl ⟨by first | rfl | (simp [cCopy, sR, *]; done), by first | rfl | (simp [cCopy, sR, *]; done)⟩
          · have q3 : hi (61 + 2 * q2) 1 = -1 := by simpa using c52
            refine cm_aload0 (pc := 55) dX6_copy_55 ?_
            refine cm_iconst (pc := 56) (v := 1) dX6_copy_56 (by decide) ?_
            refine cm_V1 (pc := 57) mX6_refuse_v mlX6_68 dX6_copy_57 hX.ox (by omega) (Nat.le_of_ble_eq_true rfl) (Nat.le_refl _) (Nat.le_refl _) (k_refuse (d := d + 2) hX (f := 1) (by decide)) (fun r57 h57 hq57 => ?_)
            obtain ⟨rfl, rfl⟩ := hq57
            exact cm_iret (pc := 60) dX6_copy_60 rfl ⟨by first | rfl | (simp [cCopy, sR, *]; done), by first | rfl | (simp [cCopy, sR, *]; done)⟩
      · refine cm_aload0 (pc := 25) dX6_copy_25 ?_
        refine cm_iconst (pc := 26) (v := 5) dX6_copy_26 (by decide) ?_
        refine cm_V1 (pc := 27) mX6_refuse_v mlX6_68 dX6_copy_27 hX.ox (by omega) (Nat.le_of_ble_eq_true rfl) (Nat.le_refl _) (Nat.le_refl _) (k_refuse (d := d + 2) hX (f := 5) (by decide)) (fun r27 h27 hq27 => ?_)
        obtain ⟨rfl, rfl⟩ := hq27
        exact cm_iret (pc := 30) dX6_copy_30 rfl ⟨by first | rfl | (simp [cCopy, sR, *]; done), by first | rfl | (simp [cCopy, sR, *]; done)⟩
    · refine cm_iconst (pc := 18) (v := -1) dX6_copy_18 (by decide) ?_
      exact cm_iret (pc := 19) dX6_copy_19 rfl ⟨by first | rfl | (simp [cCopy, sR, *]; done), by first | rfl | (simp [cCopy, sR, *]; done)⟩
end C1
