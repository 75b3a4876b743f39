/-! PART ucalls11: the reference's calls: what is told -/
def uT3 (u : cm_g2) (nb : Nat) (w : Int32) (k : Nat) : Bool := decide (w = 3) && (decide (k < nb) && uA u k 1)
def uT4 (u : cm_g2) (nb : Nat) (w : Int32) (k : Nat) : Bool := decide (w = 4) && (decide (k < nb) && uA u k 2)
def uT5 (u : cm_g2) (w : Int32) (k : Nat) : Bool := decide (w = 5) && (decide (k < 3) && !decide (u 16 (32 * k) = -9))
def uT6 (u : cm_g2) (w : Int32) (k : Nat) : Bool := decide (w = 6) && decide (0 ≤ u 2 k)
def uT7 (u : cm_g2) (w : Int32) (k : Nat) : Bool := decide (w = 7) && (decide (k < 4) && decide (0 ≤ u 5 k))
def uTb (u : cm_g2) (nb : Nat) (w : Int32) (k : Nat) : Bool := uT3 u nb w k || (uT4 u nb w k || (uT5 u w k || (uT6 u w k || uT7 u w k)))
def uTells (u : cm_g2) (nb : Nat) (w : Int32) : Int32 := if w = 0 then u 0 9 else if w = 1 then u 0 10 else if w = 2 then u 0 19 else if w = 8 then uWantN u nb else sumP (fun k => cm_bi (uTb u nb w k)) 6
def uDB (u : cm_g2) (h : Int64) : Nat → Int64
  | 0 => h
  | i + 1 => cDigF (uFB u i) (uDB u h i) 4
def uDS (u : cm_g2) (h : Int64) : Nat → Int64
  | 0 => h
  | i + 1 => cDigF (uFS u i) (uDS u h i) 4
def uDk (u : cm_g2) (h : Int64) : Nat → Int64
  | 0 => h
  | k + 1 => 31 * uDk u h k + (if u 16 (32 * k) = -9 then -1 else u 16 (32 * k)).toInt64
def uDM (u : cm_g2) (nb ns : Nat) (h : Int64) : Int64 := uDk u (31 * uDS u (uDB u (31 * h + (if u 0 9 = 0 then 0 else u 0 8).toInt64) nb) ns + (u 0 19 - u 0 20).toInt64) 3
def uDr (z : Int32) (f : Nat → Int32) (h : Int64) : Int64 := stDig f (31 * h + (if 0 ≤ z then z else -1).toInt64) z.toNatClampNeg
def uDR (u : cm_g2) (h : Int64) : Nat → Int64
  | 0 => h
  | r + 1 => uDr (u 2 r) (fun i => u 3 (40 * r + i)) (uDR u h r)
def uDT (u : cm_g2) (h : Int64) : Nat → Int64
  | 0 => h
  | t + 1 => uDr (u 5 t) (fun i => u 6 (80 * t + i)) (uDT u h t)
def uDig (u : cm_g2) (nb ns : Nat) : Int64 := uDT u (uDR u (uDM u nb ns (cDigF (uTells u nb) 17 9)) 6) 4
theorem uSzOk.cl {z : Int32} {n : Nat} (h : uSzOk z n) (hn : n ≤ 80) : z.toNatClampNeg ≤ n ∧ (z = nI z.toNatClampNeg ∨ z = -9 ∧ z.toNatClampNeg = 0) := by
  rcases h with rfl | ⟨m, hm, rfl⟩
  · exact ⟨by rw [show (-9 : Int32).toNatClampNeg = 0 by decide]; exact Nat.zero_le _, Or.inr ⟨rfl, by decide⟩⟩
  · rw [nI_clamp (by omega)]
    exact ⟨hm, Or.inl rfl⟩
theorem gcd_step {p q : Nat} : Nat.gcd p q = Nat.gcd q (p % q) := by
  rw [Nat.gcd_comm p q, Nat.gcd_rec q p, Nat.gcd_comm]
section U11
variable {D : cm_D} {d : Nat} {sh : List cm_Sh} {hi u : cm_g2} {hl : Nat → Nat → Int64} {hr : Nat → Nat → Option Nat} {e nb ns : Nat}
set_option maxRecDepth 20000 in
theorem l_rdiv {h : cm_H} {a b : Nat} {z0 z1 : Int32} : ∀ N x y : Nat, y ≤ N → x < 2 ^ 31 → y < 2 ^ 31 → Nat.gcd x y = Nat.gcd a b → ∀ z4 : Option Value, cm_g D mX7_divisor d 0 0 (fun r9 h9 => r9 = some (.int (nI (Nat.gcd a b))) ∧ h9 = h) 0 0 4 [some (.int z0), some (.int z1), some (.int (nI x)), some (.int (nI y)), z4] [] h := by
  intro N
  induction N with
  | zero =>
    intro x y hyN hx2 hy2 hg z4
    have hy : y = 0 := by omega
    subst hy
    refine cm_iload3 (pc := 4) dX7_divisor_4 ?_
    refine cm_if_eq (pc := 5) (tgt := 21) dX7_divisor_5 (by decide) (fun c5 => ?_) (fun q => absurd rfl q)
    refine cm_iload2 (pc := 21) dX7_divisor_21 ?_
    exact cm_iret (pc := 22) dX7_divisor_22 rfl ⟨by rw [← hg, Nat.gcd_zero_right], rfl⟩
  | succ N ih =>
    intro x y hyN hx2 hy2 hg z4
    refine cm_iload3 (pc := 4) dX7_divisor_4 ?_
    refine cm_if_eq (pc := 5) (tgt := 21) dX7_divisor_5 (by decide) (fun c5 => ?_) (fun c5 => ?_)
    · have hy : y = 0 := (nI_eq (b := 0) (by omega) (by decide)).mp c5
      refine cm_iload2 (pc := 21) dX7_divisor_21 ?_
      exact cm_iret (pc := 22) dX7_divisor_22 rfl ⟨by rw [← hg, hy, Nat.gcd_zero_right], rfl⟩
    · have hy : ¬ y = 0 := fun w => c5 (by rw [w]; rfl)
      refine cm_iload2 (pc := 8) dX7_divisor_8 ?_
      refine cm_iload3 (pc := 9) dX7_divisor_9 ?_
      refine cm_irem (pc := 10) dX7_divisor_10 c5 ?_
      rw [pk_rem (by omega) (by omega) (by omega)]
      refine cm_istore4 (pc := 11) dX7_divisor_11 (by decide) rfl ?_
      refine cm_iload3 (pc := 13) dX7_divisor_13 ?_
      refine cm_istore2 (pc := 14) dX7_divisor_14 (by decide) rfl ?_
      refine cm_iload4 (pc := 15) dX7_divisor_15 ?_
      refine cm_istore3 (pc := 17) dX7_divisor_17 (by decide) rfl ?_
      refine cm_goto (pc := 18) (tgt := 4) dX7_divisor_18 (by decide) ?_
      have hl9 : x % y < y := Nat.mod_lt _ (by omega)
      exact ih y (x % y) (by omega) hy2 (by omega) (by rw [← gcd_step]; exact hg) _
set_option maxRecDepth 20000 in
theorem r_divisor  {h : cm_H} {a b : Nat} (ha : a < 2 ^ 31) (hb : b < 2 ^ 31) : cm_ct D mX7_divisor d 0 0 [.int (nI a), .int (nI b)] h (fun r9 h9 => r9 = some (.int (nI (Nat.gcd a b))) ∧ h9 = h) := by
  refine cm_ct_of (ls := [some (.int (nI a)), some (.int (nI b)), none, none, none]) 3 (by decide +kernel) rfl rfl ?_
  refine cm_iload0 (pc := 0) dX7_divisor_0 ?_
  refine cm_istore2 (pc := 1) dX7_divisor_1 (by decide) rfl ?_
  refine cm_iload1 (pc := 2) dX7_divisor_2 ?_
  refine cm_istore3 (pc := 3) dX7_divisor_3 (by decide) rfl ?_
  exact l_rdiv b a b (Nat.le_refl _) ha hb rfl _
set_option maxRecDepth 20000 in
theorem r_upper (hE : cm_mdl sh hr e) {P R : Nat} (h : uOk u nb ns) (hP : sumP (u 10) nb = nI P) (hR : sumP (u 13) ns = nI R) (hP2 : P < 2 ^ 31) (hR2 : R < 2 ^ 31) : cm_ct D mX7_upper (d + 1) 0 0 [.ref e] (sh, cm_us hi e u, hl, hr) (fun r9 h9 => r9 = some (.long (if R = 0 then 0 else (nI P / nI (Nat.gcd P R)).toInt64)) ∧ h9 = (sh, cm_us hi e u, hl, hr)) := by
  refine cm_ct_of (ls := [some (.ref e), none]) 1 (by decide +kernel) rfl rfl ?_
  refine cm_aload0 (pc := 0) dX7_upper_0 ?_
  refine cm_V0 (pc := 1) mX7_allPrices_v mlX7_321 dX7_upper_1 hE.1 (by omega) (Nat.le_of_ble_eq_true rfl) (Nat.le_refl _) (Nat.le_refl _) (r_allPrices (d := d) hE h) (fun r1 h1 hq1 => ?_)
  obtain ⟨rfl, rfl⟩ := hq1
  rw [hR]
  refine cm_istore1 (pc := 4) dX7_upper_4 (by decide) rfl ?_
  refine cm_iload1 (pc := 5) dX7_upper_5 ?_
  refine cm_if_ne (pc := 6) (tgt := 13) dX7_upper_6 (by decide) (fun c6 => ?_) (fun c6 => ?_)
  · have hr0 : ¬ R = 0 := fun w => c6 (by rw [w]; rfl)
    have hg0 : ¬ nI (Nat.gcd P R) = 0 := fun w => hr0 (Nat.eq_zero_of_gcd_eq_zero_right ((nI_eq (b := 0) (Nat.lt_of_le_of_lt (Nat.gcd_le_right P (Nat.pos_of_ne_zero hr0)) hR2) (by decide)).mp w))
    refine cm_aload0 (pc := 13) dX7_upper_13 ?_
    refine cm_V0 (pc := 14) mX7_allPaid_v mlX7_324 dX7_upper_14 hE.1 (by omega) (Nat.le_of_ble_eq_true rfl) (Nat.le_refl _) (Nat.le_refl _) (r_allPaid (d := d) hE h) (fun r14 h14 hq14 => ?_)
    obtain ⟨rfl, rfl⟩ := hq14
    rw [hP]
    refine cm_aload0 (pc := 17) dX7_upper_17 ?_
    refine cm_V0 (pc := 18) mX7_allPaid_v mlX7_324 dX7_upper_18 hE.1 (by omega) (Nat.le_of_ble_eq_true rfl) (Nat.le_refl _) (Nat.le_refl _) (r_allPaid (d := d) hE h) (fun r18 h18 hq18 => ?_)
    obtain ⟨rfl, rfl⟩ := hq18
    rw [hP]
    refine cm_iload1 (pc := 21) dX7_upper_21 ?_
    refine cm_S2 (pc := 22) mX7_divisor_s mlX7_327 dX7_upper_22 (by omega) (Nat.le_of_ble_eq_true rfl) (Nat.le_refl _) (Nat.le_refl _) (r_divisor (d := d) hP2 hR2) (fun r22 h22 hq22 => ?_)
    obtain ⟨rfl, rfl⟩ := hq22
    refine cm_idiv (pc := 25) dX7_upper_25 hg0 ?_
    refine cm_i2l (pc := 26) dX7_upper_26 ?_
    exact cm_lret (pc := 27) dX7_upper_27 rfl ⟨by rw [if_neg hr0], rfl⟩
  · have hr0 : R = 0 := (nI_eq (b := 0) (by omega) (by decide)).mp c6
    refine cm_lconst (pc := 9) (v := 0) dX7_upper_9 (by decide) ?_
    refine cm_goto (pc := 10) (tgt := 27) dX7_upper_10 (by decide) ?_
    exact cm_lret (pc := 27) dX7_upper_27 rfl ⟨by rw [if_pos hr0], rfl⟩
set_option maxRecDepth 20000 in
theorem r_lower (hE : cm_mdl sh hr e) {P R : Nat} (h : uOk u nb ns) (hP : sumP (u 10) nb = nI P) (hR : sumP (u 13) ns = nI R) (hP2 : P < 2 ^ 31) (hR2 : R < 2 ^ 31) : cm_ct D mX7_lower (d + 1) 0 0 [.ref e] (sh, cm_us hi e u, hl, hr) (fun r9 h9 => r9 = some (.long (if R = 0 then 1 else (nI R / nI (Nat.gcd P R)).toInt64)) ∧ h9 = (sh, cm_us hi e u, hl, hr)) := by
  refine cm_ct_of (ls := [some (.ref e), none]) 1 (by decide +kernel) rfl rfl ?_
  refine cm_aload0 (pc := 0) dX7_lower_0 ?_
  refine cm_V0 (pc := 1) mX7_allPrices_v mlX7_321 dX7_lower_1 hE.1 (by omega) (Nat.le_of_ble_eq_true rfl) (Nat.le_refl _) (Nat.le_refl _) (r_allPrices (d := d) hE h) (fun r1 h1 hq1 => ?_)
  obtain ⟨rfl, rfl⟩ := hq1
  rw [hR]
  refine cm_istore1 (pc := 4) dX7_lower_4 (by decide) rfl ?_
  refine cm_iload1 (pc := 5) dX7_lower_5 ?_
  refine cm_if_ne (pc := 6) (tgt := 13) dX7_lower_6 (by decide) (fun c6 => ?_) (fun c6 => ?_)
  · have hr0 : ¬ R = 0 := fun w => c6 (by rw [w]; rfl)
    have hg0 : ¬ nI (Nat.gcd P R) = 0 := fun w => hr0 (Nat.eq_zero_of_gcd_eq_zero_right ((nI_eq (b := 0) (Nat.lt_of_le_of_lt (Nat.gcd_le_right P (Nat.pos_of_ne_zero hr0)) hR2) (by decide)).mp w))
    refine cm_iload1 (pc := 13) dX7_lower_13 ?_
    refine cm_aload0 (pc := 14) dX7_lower_14 ?_
    refine cm_V0 (pc := 15) mX7_allPaid_v mlX7_324 dX7_lower_15 hE.1 (by omega) (Nat.le_of_ble_eq_true rfl) (Nat.le_refl _) (Nat.le_refl _) (r_allPaid (d := d) hE h) (fun r15 h15 hq15 => ?_)
    obtain ⟨rfl, rfl⟩ := hq15
    rw [hP]
    refine cm_iload1 (pc := 18) dX7_lower_18 ?_
    refine cm_S2 (pc := 19) mX7_divisor_s mlX7_327 dX7_lower_19 (by omega) (Nat.le_of_ble_eq_true rfl) (Nat.le_refl _) (Nat.le_refl _) (r_divisor (d := d) hP2 hR2) (fun r19 h19 hq19 => ?_)
    obtain ⟨rfl, rfl⟩ := hq19
    refine cm_idiv (pc := 22) dX7_lower_22 hg0 ?_
    refine cm_i2l (pc := 23) dX7_lower_23 ?_
    exact cm_lret (pc := 24) dX7_lower_24 rfl ⟨by rw [if_neg hr0], rfl⟩
  · have hr0 : R = 0 := (nI_eq (b := 0) (by omega) (by decide)).mp c6
    refine cm_lconst (pc := 9) (v := 1) dX7_lower_9 (by decide) ?_
    refine cm_goto (pc := 10) (tgt := 24) dX7_lower_10 (by decide) ?_
    exact cm_lret (pc := 24) dX7_lower_24 rfl ⟨by rw [if_pos hr0], rfl⟩
set_option maxRecDepth 20000 in
set_option maxHeartbeats 1000000 in
theorem l_tells (hE : cm_mdl sh hr e) {w : Int32} (h : uOk u nb ns) : ∀ q k : Nat, k + q = 6 → cm_g D mX7_tells (d + 1) 0 0 (fun r9 h9 => r9 = some (.int (uTells u nb w)) ∧ h9 = (sh, cm_us hi e u, hl, hr)) 0 0 4 [some (.ref e), some (.int w), some (.int (sumP (fun k => cm_bi (uTb u nb w k)) k)), some (.int (nI k))] [] (sh, cm_us hi e u, hl, hr) := by
  have hnb := h.1.2.1
  have hns := h.1.2.2.2
  intro q
  induction q with
  | zero =>
    intro k hk
    have h1 : k = 6 := by omega
    subst h1
    refine cm_iload3 (pc := 4) dX7_tells_4 ?_
    refine cm_bipush (pc := 5) (v := 6) dX7_tells_5 (by decide) ?_
    refine cm_icmp_ge (pc := 7) (tgt := 127) dX7_tells_7 (by decide) (fun c7 => ?_) (fun q => absurd (by decide) q)
    refine cm_iload1 (pc := 127) dX7_tells_127 ?_
    refine cm_split 0 (fun s128_0 => ?_) (fun s128_0 => ?_)
    · refine cm_tsIn (pc := 128) (tgt := 180) (off := 52) dX7_tells_128 (by decide) (by decide) (by decide +kernel) (by decide) ?_
      refine cm_aload0 (pc := 180) dX7_tells_180 ?_
      refine mk_fld (pc := 181) flX7_151 dX7_tells_181 hE.1 ?_
      exact cm_iret (pc := 184) dX7_tells_184 rfl ⟨by unfold uTells; rw [if_pos s128_0], rfl⟩
    refine cm_split 1 (fun s128_1 => ?_) (fun s128_1 => ?_)
    · refine cm_tsIn (pc := 128) (tgt := 185) (off := 57) dX7_tells_128 (by decide) (by decide) (by decide +kernel) (by decide) ?_
      refine cm_aload0 (pc := 185) dX7_tells_185 ?_
      refine mk_fld (pc := 186) flX7_154 dX7_tells_186 hE.1 ?_
      exact cm_iret (pc := 189) dX7_tells_189 rfl ⟨by unfold uTells; rw [if_neg s128_0, if_pos s128_1], rfl⟩
    refine cm_split 2 (fun s128_2 => ?_) (fun s128_2 => ?_)
    · refine cm_tsIn (pc := 128) (tgt := 190) (off := 62) dX7_tells_128 (by decide) (by decide) (by decide +kernel) (by decide) ?_
      refine cm_aload0 (pc := 190) dX7_tells_190 ?_
      refine mk_fld (pc := 191) flX7_160 dX7_tells_191 hE.1 ?_
      exact cm_iret (pc := 194) dX7_tells_194 rfl ⟨by unfold uTells; rw [if_neg s128_0, if_neg s128_1, if_pos s128_2], rfl⟩
    refine cm_split 3 (fun s128_3 => ?_) (fun s128_3 => ?_)
    · refine cm_tsIn (pc := 128) (tgt := 200) (off := 72) dX7_tells_128 (by decide) (by decide) (by decide +kernel) (by decide) ?_
      refine cm_iload2 (pc := 200) dX7_tells_200 ?_
      exact cm_iret (pc := 201) dX7_tells_201 rfl ⟨by unfold uTells; rw [if_neg s128_0, if_neg s128_1, if_neg s128_2, if_neg (fun q => by rw [s128_3] at q; exact absurd q (by decide))], rfl⟩
    refine cm_split 4 (fun s128_4 => ?_) (fun s128_4 => ?_)
    · refine cm_tsIn (pc := 128) (tgt := 200) (off := 72) dX7_tells_128 (by decide) (by decide) (by decide +kernel) (by decide) ?_
      refine cm_iload2 (pc := 200) dX7_tells_200 ?_
      exact cm_iret (pc := 201) dX7_tells_201 rfl ⟨by unfold uTells; rw [if_neg s128_0, if_neg s128_1, if_neg s128_2, if_neg (fun q => by rw [s128_4] at q; exact absurd q (by decide))], rfl⟩
    refine cm_split 5 (fun s128_5 => ?_) (fun s128_5 => ?_)
    · refine cm_tsIn (pc := 128) (tgt := 200) (off := 72) dX7_tells_128 (by decide) (by decide) (by decide +kernel) (by decide) ?_
      refine cm_iload2 (pc := 200) dX7_tells_200 ?_
      exact cm_iret (pc := 201) dX7_tells_201 rfl ⟨by unfold uTells; rw [if_neg s128_0, if_neg s128_1, if_neg s128_2, if_neg (fun q => by rw [s128_5] at q; exact absurd q (by decide))], rfl⟩
    refine cm_split 6 (fun s128_6 => ?_) (fun s128_6 => ?_)
    · refine cm_tsIn (pc := 128) (tgt := 200) (off := 72) dX7_tells_128 (by decide) (by decide) (by decide +kernel) (by decide) ?_
      refine cm_iload2 (pc := 200) dX7_tells_200 ?_
      exact cm_iret (pc := 201) dX7_tells_201 rfl ⟨by unfold uTells; rw [if_neg s128_0, if_neg s128_1, if_neg s128_2, if_neg (fun q => by rw [s128_6] at q; exact absurd q (by decide))], rfl⟩
    refine cm_split 7 (fun s128_7 => ?_) (fun s128_7 => ?_)
    · refine cm_tsIn (pc := 128) (tgt := 200) (off := 72) dX7_tells_128 (by decide) (by decide) (by decide +kernel) (by decide) ?_
      refine cm_iload2 (pc := 200) dX7_tells_200 ?_
      exact cm_iret (pc := 201) dX7_tells_201 rfl ⟨by unfold uTells; rw [if_neg s128_0, if_neg s128_1, if_neg s128_2, if_neg (fun q => by rw [s128_7] at q; exact absurd q (by decide))], rfl⟩
    refine cm_split 8 (fun s128_8 => ?_) (fun s128_8 => ?_)
    · refine cm_tsIn (pc := 128) (tgt := 195) (off := 67) dX7_tells_128 (by decide) (by decide) (by decide +kernel) (by decide) ?_
      refine cm_aload0 (pc := 195) dX7_tells_195 ?_
      refine cm_V0 (pc := 196) mX7_wanting_v mlX7_274 dX7_tells_196 hE.1 (by omega) (Nat.le_of_ble_eq_true rfl) (Nat.le_refl _) (Nat.le_refl _) (r_wanting (d := d) hE h) (fun r196 h196 hq196 => ?_)
      obtain ⟨rfl, rfl⟩ := hq196
      exact cm_iret (pc := 199) dX7_tells_199 rfl ⟨by unfold uTells; rw [if_neg s128_0, if_neg s128_1, if_neg s128_2, if_pos s128_8], rfl⟩
    refine cm_tsOut (pc := 128) (tgt := 200) dX7_tells_128 (by have := cm_nez s128_0; have := cm_nez s128_1; have := cm_nez s128_2; have := cm_nez s128_3; have := cm_nez s128_4; have := cm_nez s128_5; have := cm_nez s128_6; have := cm_nez s128_7; have := cm_nez s128_8; simp at *; omega) (by decide) ?_
    refine cm_iload2 (pc := 200) dX7_tells_200 ?_
    exact cm_iret (pc := 201) dX7_tells_201 rfl ⟨by unfold uTells; rw [if_neg s128_0, if_neg s128_1, if_neg s128_2, if_neg s128_8], rfl⟩
  | succ q ih =>
    intro k hk
    have hst := ih (k + 1) (by omega)
    have k118 : uT3 u nb w k = false → uT4 u nb w k = false → uT5 u w k = false → uT6 u w k = false → uT7 u w k = false → cm_g D mX7_tells (d + 1) 0 0 (fun r9 h9 => r9 = some (.int (uTells u nb w)) ∧ h9 = (sh, cm_us hi e u, hl, hr)) 0 0 118 [some (.ref e), some (.int w), some (.int (sumP (fun k => cm_bi (uTb u nb w k)) k)), some (.int (nI k))] [.int (sumP (fun k => cm_bi (uTb u nb w k)) k)] (sh, cm_us hi e u, hl, hr) := by
      intro h3 h4 h5 h6 h7
      refine cm_iconst (pc := 118) (v := 0) dX7_tells_118 (by decide) ?_
      refine cm_iadd (pc := 119) dX7_tells_119 ?_
      refine cm_istore2 (pc := 120) dX7_tells_120 (by decide) rfl ?_
      refine cm_incN3 (pc := 121) dX7_tells_121 (by decide) rfl ?_
      refine cm_goto (pc := 124) (tgt := 4) dX7_tells_124 (by decide) ?_
      have e9 : sumP (fun k => cm_bi (uTb u nb w k)) (k + 1) = sumP (fun k => cm_bi (uTb u nb w k)) k + 0 := by show _ + cm_bi (uTb u nb w k) = _; unfold uTb; rw [h3, h4, h5, h6, h7]; rfl
      rw [e9] at hst
      exact hst
    have k114 : (uT3 u nb w k || (uT4 u nb w k || (uT5 u w k || (uT6 u w k || uT7 u w k)))) = true → cm_g D mX7_tells (d + 1) 0 0 (fun r9 h9 => r9 = some (.int (uTells u nb w)) ∧ h9 = (sh, cm_us hi e u, hl, hr)) 0 0 114 [some (.ref e), some (.int w), some (.int (sumP (fun k => cm_bi (uTb u nb w k)) k)), some (.int (nI k))] [.int (sumP (fun k => cm_bi (uTb u nb w k)) k)] (sh, cm_us hi e u, hl, hr) := by
      intro ht
      refine cm_iconst (pc := 114) (v := 1) dX7_tells_114 (by decide) ?_
      refine cm_goto (pc := 115) (tgt := 119) dX7_tells_115 (by decide) ?_
      refine cm_iadd (pc := 119) dX7_tells_119 ?_
      refine cm_istore2 (pc := 120) dX7_tells_120 (by decide) rfl ?_
      refine cm_incN3 (pc := 121) dX7_tells_121 (by decide) rfl ?_
      refine cm_goto (pc := 124) (tgt := 4) dX7_tells_124 (by decide) ?_
      have e9 : sumP (fun k => cm_bi (uTb u nb w k)) (k + 1) = sumP (fun k => cm_bi (uTb u nb w k)) k + 1 := by show _ + cm_bi (uTb u nb w k) = _; rw [show uTb u nb w k = true from ht]; rfl
      rw [e9] at hst
      exact hst
    have k94 : uT3 u nb w k = false → uT4 u nb w k = false → uT5 u w k = false → uT6 u w k = false → cm_g D mX7_tells (d + 1) 0 0 (fun r9 h9 => r9 = some (.int (uTells u nb w)) ∧ h9 = (sh, cm_us hi e u, hl, hr)) 0 0 94 [some (.ref e), some (.int w), some (.int (sumP (fun k => cm_bi (uTb u nb w k)) k)), some (.int (nI k))] [.int (sumP (fun k => cm_bi (uTb u nb w k)) k)] (sh, cm_us hi e u, hl, hr) := by
      intro h3 h4 h5 h6
      refine cm_iload1 (pc := 94) dX7_tells_94 ?_
      refine cm_bipush (pc := 95) (v := 7) dX7_tells_95 (by decide) ?_
      refine cm_icmp_ne (pc := 97) (tgt := 118) dX7_tells_97 (by decide) (fun c97 => ?_) (fun c97 => ?_)
      · exact k118 h3 h4 h5 h6 (by simp [uT7, c97])
      · refine cm_iload3 (pc := 100) dX7_tells_100 ?_
        refine cm_iconst (pc := 101) (v := 4) dX7_tells_101 (by decide) ?_
        refine cm_icmp_ge (pc := 102) (tgt := 118) dX7_tells_102 (by decide) (fun c102 => ?_) (fun c102 => ?_)
        · have k4 : ¬ k < 4 := fun q => Int32.not_lt.mpr c102 ((nI_ltI (b := 4) (by omega) (by decide)).mpr q)
          exact k118 h3 h4 h5 h6 (by simp [uT7, k4])
        · have k4 : k < 4 := (nI_ltI (b := 4) (by omega) (by decide)).mp (Int32.not_le.mp c102)
          refine cm_aload0 (pc := 105) dX7_tells_105 ?_
          refine cm_getR (pc := 106) flX7_22 dX7_tells_106 hE.1 hE.r6 ?_
          refine cm_iload3 (pc := 109) dX7_tells_109 ?_
          refine mk_get (pc := 110) dX7_tells_110 hE.a5 (by omega) (by decide) ?_
          refine cm_if_lt (pc := 111) (tgt := 118) dX7_tells_111 (by decide) (fun c111 => ?_) (fun c111 => ?_)
          · have z111 : ¬ 0 ≤ u 5 k := Int32.not_le.mpr c111
            exact k118 h3 h4 h5 h6 (by simp [uT7, z111])
          · have z111 : 0 ≤ u 5 k := Int32.not_lt.mp c111
            exact k114 (by rw [h3, h4, h5, h6, show uT7 u w k = true by simp [uT7, c97, k4, z111]]; rfl)
    have k79 : uT3 u nb w k = false → uT4 u nb w k = false → uT5 u w k = false → cm_g D mX7_tells (d + 1) 0 0 (fun r9 h9 => r9 = some (.int (uTells u nb w)) ∧ h9 = (sh, cm_us hi e u, hl, hr)) 0 0 79 [some (.ref e), some (.int w), some (.int (sumP (fun k => cm_bi (uTb u nb w k)) k)), some (.int (nI k))] [.int (sumP (fun k => cm_bi (uTb u nb w k)) k)] (sh, cm_us hi e u, hl, hr) := by
      intro h3 h4 h5
      refine cm_iload1 (pc := 79) dX7_tells_79 ?_
      refine cm_bipush (pc := 80) (v := 6) dX7_tells_80 (by decide) ?_
      refine cm_icmp_ne (pc := 82) (tgt := 94) dX7_tells_82 (by decide) (fun c82 => ?_) (fun c82 => ?_)
      · exact k94 h3 h4 h5 (by simp [uT6, c82])
      · refine cm_aload0 (pc := 85) dX7_tells_85 ?_
        refine cm_getR (pc := 86) flX7_13 dX7_tells_86 hE.1 hE.r3 ?_
        refine cm_iload3 (pc := 89) dX7_tells_89 ?_
        refine mk_get (pc := 90) dX7_tells_90 hE.a2 (by omega) (by decide) ?_
        refine cm_if_ge (pc := 91) (tgt := 114) dX7_tells_91 (by decide) (fun c91 => ?_) (fun c91 => ?_)
        · exact k114 (by rw [h3, h4, h5, show uT6 u w k = true by simp [uT6, c82, c91]]; rfl)
        · exact k94 h3 h4 h5 (by simp [uT6, c91])
    have k55 : uT3 u nb w k = false → uT4 u nb w k = false → cm_g D mX7_tells (d + 1) 0 0 (fun r9 h9 => r9 = some (.int (uTells u nb w)) ∧ h9 = (sh, cm_us hi e u, hl, hr)) 0 0 55 [some (.ref e), some (.int w), some (.int (sumP (fun k => cm_bi (uTb u nb w k)) k)), some (.int (nI k))] [.int (sumP (fun k => cm_bi (uTb u nb w k)) k)] (sh, cm_us hi e u, hl, hr) := by
      intro h3 h4
      refine cm_iload1 (pc := 55) dX7_tells_55 ?_
      refine cm_iconst (pc := 56) (v := 5) dX7_tells_56 (by decide) ?_
      refine cm_icmp_ne (pc := 57) (tgt := 79) dX7_tells_57 (by decide) (fun c57 => ?_) (fun c57 => ?_)
      · exact k79 h3 h4 (by simp [uT5, c57])
      · refine cm_iload3 (pc := 60) dX7_tells_60 ?_
        refine cm_iconst (pc := 61) (v := 3) dX7_tells_61 (by decide) ?_
        refine cm_icmp_ge (pc := 62) (tgt := 79) dX7_tells_62 (by decide) (fun c62 => ?_) (fun c62 => ?_)
        · have k3 : ¬ k < 3 := fun q => Int32.not_lt.mpr c62 ((nI_ltI (b := 3) (by omega) (by decide)).mpr q)
          exact k79 h3 h4 (by simp [uT5, k3])
        · have k3 : k < 3 := (nI_ltI (b := 3) (by omega) (by decide)).mp (Int32.not_le.mp c62)
          refine cm_aload0 (pc := 65) dX7_tells_65 ?_
          refine cm_getR (pc := 66) flX7_55 dX7_tells_66 hE.1 hE.r29 ?_
          refine cm_bipush (pc := 69) (v := 32) dX7_tells_69 (by decide) ?_
          refine cm_iload3 (pc := 71) dX7_tells_71 ?_
          refine cm_imul (pc := 72) dX7_tells_72 ?_
          rw [show (32 : Int32) * nI k = nI (32 * k) by rw [show (32 : Int32) = nI 32 from rfl, pk_mul]]
          refine mk_get (pc := 73) dX7_tells_73 hE.a16 (by omega) (by decide) ?_
          refine cm_bipush (pc := 74) (v := -9) dX7_tells_74 (by decide) ?_
          refine cm_icmp_ne (pc := 76) (tgt := 114) dX7_tells_76 (by decide) (fun c76 => ?_) (fun c76 => ?_)
          · exact k114 (by rw [h3, h4, show uT5 u w k = true by simp [uT5, c57, k3, c76]]; rfl)
          · exact k79 h3 h4 (by simp [uT5, c76])
    have k33 : uT3 u nb w k = false → cm_g D mX7_tells (d + 1) 0 0 (fun r9 h9 => r9 = some (.int (uTells u nb w)) ∧ h9 = (sh, cm_us hi e u, hl, hr)) 0 0 33 [some (.ref e), some (.int w), some (.int (sumP (fun k => cm_bi (uTb u nb w k)) k)), some (.int (nI k))] [.int (sumP (fun k => cm_bi (uTb u nb w k)) k)] (sh, cm_us hi e u, hl, hr) := by
      intro h3
      refine cm_iload1 (pc := 33) dX7_tells_33 ?_
      refine cm_iconst (pc := 34) (v := 4) dX7_tells_34 (by decide) ?_
      refine cm_icmp_ne (pc := 35) (tgt := 55) dX7_tells_35 (by decide) (fun c35 => ?_) (fun c35 => ?_)
      · exact k55 h3 (by simp [uT4, c35])
      · refine cm_iload3 (pc := 38) dX7_tells_38 ?_
        refine cm_aload0 (pc := 39) dX7_tells_39 ?_
        refine mk_fld (pc := 40) flX7_151 dX7_tells_40 hE.1 ?_
        rw [h.1.1]
        refine cm_geN (pc := 43) (tgt := 55) dX7_tells_43 (by decide) (by omega) (by omega) (fun c43 => ?_) (fun c43 => ?_)
        · exact k55 h3 (by simp [uT4, Nat.not_lt.mpr c43])
        · refine cm_aload0 (pc := 46) dX7_tells_46 ?_
          refine cm_iload3 (pc := 47) dX7_tells_47 ?_
          refine cm_iconst (pc := 48) (v := 2) dX7_tells_48 (by decide) ?_
          refine cm_V2 (pc := 49) mX7_isA_v mlX7_185 dX7_tells_49 hE.1 (by omega) (Nat.le_of_ble_eq_true rfl) (Nat.le_refl _) (Nat.le_refl _) (r_isA (d := d) hE (i := k) (by omega)) (fun r49 h49 hq49 => ?_)
          obtain ⟨rfl, rfl⟩ := hq49
          refine cm_ifneB (pc := 52) (tgt := 114) dX7_tells_52 (by decide) (fun c52 => ?_) (fun c52 => ?_)
          · exact k114 (by rw [h3, show uT4 u nb w k = true by simp [uT4, c35, c43, c52]]; rfl)
          · exact k55 h3 (by simp [uT4, c52])
    refine cm_iload3 (pc := 4) dX7_tells_4 ?_
    refine cm_bipush (pc := 5) (v := 6) dX7_tells_5 (by decide) ?_
    refine cm_icmp_ge (pc := 7) (tgt := 127) dX7_tells_7 (by decide) (fun q => absurd q (nI_ge (a := k) (b := 6) (by omega) (by omega))) (fun c7 => ?_)
    refine cm_iload2 (pc := 10) dX7_tells_10 ?_
    refine cm_iload1 (pc := 11) dX7_tells_11 ?_
    refine cm_iconst (pc := 12) (v := 3) dX7_tells_12 (by decide) ?_
    refine cm_icmp_ne (pc := 13) (tgt := 33) dX7_tells_13 (by decide) (fun c13 => ?_) (fun c13 => ?_)
    · exact k33 (by simp [uT3, c13])
    · refine cm_iload3 (pc := 16) dX7_tells_16 ?_
      refine cm_aload0 (pc := 17) dX7_tells_17 ?_
      refine mk_fld (pc := 18) flX7_151 dX7_tells_18 hE.1 ?_
      rw [h.1.1]
      refine cm_geN (pc := 21) (tgt := 33) dX7_tells_21 (by decide) (by omega) (by omega) (fun c21 => ?_) (fun c21 => ?_)
      · exact k33 (by simp [uT3, Nat.not_lt.mpr c21])
      · refine cm_aload0 (pc := 24) dX7_tells_24 ?_
        refine cm_iload3 (pc := 25) dX7_tells_25 ?_
        refine cm_iconst (pc := 26) (v := 1) dX7_tells_26 (by decide) ?_
        refine cm_V2 (pc := 27) mX7_isA_v mlX7_185 dX7_tells_27 hE.1 (by omega) (Nat.le_of_ble_eq_true rfl) (Nat.le_refl _) (Nat.le_refl _) (r_isA (d := d) hE (i := k) (by omega)) (fun r27 h27 hq27 => ?_)
        obtain ⟨rfl, rfl⟩ := hq27
        refine cm_ifneB (pc := 30) (tgt := 114) dX7_tells_30 (by decide) (fun c30 => ?_) (fun c30 => ?_)
        · exact k114 (by rw [show uT3 u nb w k = true by simp [uT3, c13, c21, c30]]; rfl)
        · exact k33 (by simp [uT3, c30])
set_option maxRecDepth 20000 in
theorem r_tells (hE : cm_mdl sh hr e) {w : Int32} (h : uOk u nb ns) : cm_ct D mX7_tells (d + 1) 0 0 [.ref e, .int w] (sh, cm_us hi e u, hl, hr) (fun r9 h9 => r9 = some (.int (uTells u nb w)) ∧ h9 = (sh, cm_us hi e u, hl, hr)) := by
  refine cm_ct_of (ls := [some (.ref e), some (.int w), none, none]) 2 (by decide +kernel) rfl rfl ?_
  refine cm_iconst (pc := 0) (v := 0) dX7_tells_0 (by decide) ?_
  refine cm_istore2 (pc := 1) dX7_tells_1 (by decide) rfl ?_
  refine cm_iconst (pc := 2) (v := 0) dX7_tells_2 (by decide) ?_
  refine cm_istore3 (pc := 3) dX7_tells_3 (by decide) rfl ?_
  exact l_tells hE h 6 0 (by omega)
set_option maxRecDepth 20000 in
theorem r_count (hE : cm_mdl sh hr e) {w : Int32} (h : uOk u nb ns) : cm_ct D mX7_count (d + 2) 0 0 [.ref e, .int w] (sh, cm_us hi e u, hl, hr) (fun r9 h9 => r9 = some (.int (if uIn w 0 8 then uTells u nb w else -1)) ∧ h9 = (sh, cm_us hi e u, hl, hr)) := by
  refine cm_ct_of (ls := [some (.ref e), some (.int w)]) 0 (by decide +kernel) rfl rfl ?_
  refine cm_iload1 (pc := 0) dX7_count_0 ?_
  refine cm_iconst (pc := 1) (v := 0) dX7_count_1 (by decide) ?_
  refine cm_bipush (pc := 2) (v := 8) dX7_count_2 (by decide) ?_
  refine cm_S3 (pc := 4) mX7_in_s mlX7_83 dX7_count_4 (by omega) (Nat.le_of_ble_eq_true rfl) (Nat.le_refl _) (Nat.le_refl _) (r_in (d := d + 1)) (fun r4 h4 hq4 => ?_)
  obtain ⟨rfl, rfl⟩ := hq4
  refine cm_ifeqB (pc := 7) (tgt := 18) dX7_count_7 (by decide) (fun c7 => ?_) (fun c7 => ?_)
  · refine cm_iconst (pc := 18) (v := -1) dX7_count_18 (by decide) ?_
    exact cm_iret (pc := 19) dX7_count_19 rfl ⟨by rw [if_neg (by rw [c7]; decide)], rfl⟩
  · refine cm_aload0 (pc := 10) dX7_count_10 ?_
    refine cm_iload1 (pc := 11) dX7_count_11 ?_
    refine cm_V1 (pc := 12) mX7_tells_v mlX7_330 dX7_count_12 hE.1 (by omega) (Nat.le_of_ble_eq_true rfl) (Nat.le_refl _) (Nat.le_refl _) (r_tells (d := d) hE h) (fun r12 h12 hq12 => ?_)
    obtain ⟨rfl, rfl⟩ := hq12
    refine cm_goto (pc := 15) (tgt := 19) dX7_count_15 (by decide) ?_
    exact cm_iret (pc := 19) dX7_count_19 rfl ⟨by rw [if_pos c7], rfl⟩
set_option maxRecDepth 20000 in
theorem r_mix (hE : cm_mdl sh hr e) {v : Int32} : cm_ct D mX7_mix d 0 0 [.ref e, .int v] (sh, cm_us hi e u, hl, hr) (fun r9 h9 => r9 = none ∧ ∃ hl9, h9 = (sh, cm_us hi e u, hl9, hr) ∧ hl9 e 43 = 31 * hl e 43 + v.toInt64) := by
  refine cm_ct_of (ls := [some (.ref e), some (.int v)]) 0 (by decide +kernel) rfl rfl ?_
  refine cm_aload0 (pc := 0) dX7_mix_0 ?_
  refine cm_ldc2 (pc := 1) dX7_mix_1 ctX7_333 ?_
  refine cm_aload0 (pc := 4) dX7_mix_4 ?_
  refine cm_getJ (pc := 5) flX7_335 dX7_mix_5 hE.1 ?_
  refine cm_lmul (pc := 8) dX7_mix_8 ?_
  refine cm_iload1 (pc := 9) dX7_mix_9 ?_
  refine cm_i2l (pc := 10) dX7_mix_10 ?_
  refine cm_ladd (pc := 11) dX7_mix_11 ?_
  refine cm_putL (pc := 12) fpX7_335 dX7_mix_12 hE.1 ?_
  exact cm_vret (pc := 15) dX7_mix_15 rfl ⟨rfl, _, rfl, by rw [va_up_self]; rfl⟩
theorem nI_gt3 {g : Nat} (h : g < 4) : ¬ (3 : Int32) < nI g := by
  have z : (3 : Int32).toInt = 3 := by decide
  rw [Int32.lt_iff_toInt_lt, z, nI_toInt (by omega)]
  omega
set_option maxRecDepth 20000 in
theorem l_mb (hE : cm_mdl sh hr e) {i : Nat} {h0 : Int64} {Q : Option Value → cm_H → Prop} (h : uOk u nb ns) (hi6 : i < 6) : ∀ q w : Nat, w + q = 4 → (∀ HL9 : Nat → Nat → Int64, HL9 e 43 = cDigF (uFB u i) h0 4 → cm_g D mX7_mixMarket (d + 1) 0 0 (Q) 0 0 52 [some (.ref e), some (.int (nI i)), some (.int (nI 4))] [] (sh, cm_us hi e u, HL9, hr)) → ∀ HL : Nat → Nat → Int64, HL e 43 = cDigF (uFB u i) h0 w → cm_g D mX7_mixMarket (d + 1) 0 0 (Q) 0 0 31 [some (.ref e), some (.int (nI i)), some (.int (nI w))] [] (sh, cm_us hi e u, HL, hr) := by
  intro q
  induction q with
  | zero =>
    intro w hw kk HL hH
    have h1 : w = 4 := by omega
    subst h1
    refine cm_iload2 (pc := 31) dX7_mixMarket_31 ?_
    refine cm_iconst (pc := 32) (v := 3) dX7_mixMarket_32 (by decide) ?_
    refine cm_icmp_gt (pc := 33) (tgt := 52) dX7_mixMarket_33 (by decide) (fun c33 => ?_) (fun q => absurd (by decide) q)
    exact kk HL hH
  | succ q ih =>
    intro w hw kk HL hH
    have hst := ih (w + 1) (by omega)
    refine cm_iload2 (pc := 31) dX7_mixMarket_31 ?_
    refine cm_iconst (pc := 32) (v := 3) dX7_mixMarket_32 (by decide) ?_
    refine cm_icmp_gt (pc := 33) (tgt := 52) dX7_mixMarket_33 (by decide) (fun q => absurd q (nI_gt3 (by omega))) (fun c33 => ?_)
    refine cm_aload0 (pc := 36) dX7_mixMarket_36 ?_
    refine cm_aload0 (pc := 37) dX7_mixMarket_37 ?_
    refine cm_iload1 (pc := 38) dX7_mixMarket_38 ?_
    refine cm_iload2 (pc := 39) dX7_mixMarket_39 ?_
    refine cm_V2 (pc := 40) mX7_buyerOf_v mlX7_169 dX7_mixMarket_40 hE.1 (by omega) (Nat.le_of_ble_eq_true rfl) (Nat.le_refl _) (Nat.le_refl _) (r_buyerOf (d := d) hE hi6) (fun r40 h40 hq40 => ?_)
    obtain ⟨rfl, rfl⟩ := hq40
    refine cm_V1 (pc := 43) mX7_mix_v mlX7_339 dX7_mixMarket_43 hE.1 (by omega) (Nat.le_of_ble_eq_true rfl) (Nat.le_refl _) (Nat.le_refl _) (r_mix (d := d) (hl := HL) hE) (fun r43 h43 hq43 => ?_)
    obtain ⟨rfl, HN43, rfl, hn43⟩ := hq43
    refine cm_incN2 (pc := 46) dX7_mixMarket_46 (by decide) rfl ?_
    refine cm_goto (pc := 49) (tgt := 31) dX7_mixMarket_49 (by decide) ?_
    exact hst kk _ (by rw [hn43, hH]; rfl)
set_option maxRecDepth 20000 in
theorem l_ms (hE : cm_mdl sh hr e) {i : Nat} {h0 : Int64} {Q : Option Value → cm_H → Prop} (h : uOk u nb ns) (hi6 : i < 6) : ∀ q w : Nat, w + q = 4 → (∀ HL9 : Nat → Nat → Int64, HL9 e 43 = cDigF (uFS u i) h0 4 → cm_g D mX7_mixMarket (d + 1) 0 0 (Q) 0 0 91 [some (.ref e), some (.int (nI i)), some (.int (nI 4))] [] (sh, cm_us hi e u, HL9, hr)) → ∀ HL : Nat → Nat → Int64, HL e 43 = cDigF (uFS u i) h0 w → cm_g D mX7_mixMarket (d + 1) 0 0 (Q) 0 0 70 [some (.ref e), some (.int (nI i)), some (.int (nI w))] [] (sh, cm_us hi e u, HL, hr) := by
  intro q
  induction q with
  | zero =>
    intro w hw kk HL hH
    have h1 : w = 4 := by omega
    subst h1
    refine cm_iload2 (pc := 70) dX7_mixMarket_70 ?_
    refine cm_iconst (pc := 71) (v := 3) dX7_mixMarket_71 (by decide) ?_
    refine cm_icmp_gt (pc := 72) (tgt := 91) dX7_mixMarket_72 (by decide) (fun c72 => ?_) (fun q => absurd (by decide) q)
    exact kk HL hH
  | succ q ih =>
    intro w hw kk HL hH
    have hst := ih (w + 1) (by omega)
    refine cm_iload2 (pc := 70) dX7_mixMarket_70 ?_
    refine cm_iconst (pc := 71) (v := 3) dX7_mixMarket_71 (by decide) ?_
    refine cm_icmp_gt (pc := 72) (tgt := 91) dX7_mixMarket_72 (by decide) (fun q => absurd q (nI_gt3 (by omega))) (fun c72 => ?_)
    refine cm_aload0 (pc := 75) dX7_mixMarket_75 ?_
    refine cm_aload0 (pc := 76) dX7_mixMarket_76 ?_
    refine cm_iload1 (pc := 77) dX7_mixMarket_77 ?_
    refine cm_iload2 (pc := 78) dX7_mixMarket_78 ?_
    refine cm_V2 (pc := 79) mX7_stallOf_v mlX7_175 dX7_mixMarket_79 hE.1 (by omega) (Nat.le_of_ble_eq_true rfl) (Nat.le_refl _) (Nat.le_refl _) (r_stallOf (d := d) hE hi6) (fun r79 h79 hq79 => ?_)
    obtain ⟨rfl, rfl⟩ := hq79
    refine cm_V1 (pc := 82) mX7_mix_v mlX7_339 dX7_mixMarket_82 hE.1 (by omega) (Nat.le_of_ble_eq_true rfl) (Nat.le_refl _) (Nat.le_refl _) (r_mix (d := d) (hl := HL) hE) (fun r82 h82 hq82 => ?_)
    obtain ⟨rfl, HN82, rfl, hn82⟩ := hq82
    refine cm_incN2 (pc := 85) dX7_mixMarket_85 (by decide) rfl ?_
    refine cm_goto (pc := 88) (tgt := 70) dX7_mixMarket_88 (by decide) ?_
    exact hst kk _ (by rw [hn82, hH]; rfl)
set_option maxRecDepth 20000 in
theorem l_mk (hE : cm_mdl sh hr e) {h0 : Int64} : ∀ q k : Nat, k + q = 3 → ∀ HL : Nat → Nat → Int64, HL e 43 = uDk u h0 k → ∀ x2 : Option Value, cm_g D mX7_mixMarket (d + 1) 0 0 (fun r9 h9 => r9 = none ∧ ∃ hl9, h9 = (sh, cm_us hi e u, hl9, hr) ∧ hl9 e 43 = uDk u h0 3) 0 0 112 [some (.ref e), some (.int (nI k)), x2] [] (sh, cm_us hi e u, HL, hr) := by
  intro q
  induction q with
  | zero =>
    intro k hk HL hH x2
    have h1 : k = 3 := by omega
    subst h1
    refine cm_iload1 (pc := 112) dX7_mixMarket_112 ?_
    refine cm_iconst (pc := 113) (v := 3) dX7_mixMarket_113 (by decide) ?_
    refine cm_icmp_ge (pc := 114) (tgt := 154) dX7_mixMarket_114 (by decide) (fun c114 => ?_) (fun q => absurd (by decide) q)
    exact cm_vret (pc := 154) dX7_mixMarket_154 rfl ⟨rfl, HL, rfl, hH⟩
  | succ q ih =>
    intro k hk HL hH x2
    have hst := ih (k + 1) (by omega)
    refine cm_iload1 (pc := 112) dX7_mixMarket_112 ?_
    refine cm_iconst (pc := 113) (v := 3) dX7_mixMarket_113 (by decide) ?_
    refine cm_icmp_ge (pc := 114) (tgt := 154) dX7_mixMarket_114 (by decide) (fun q => absurd q (nI_ge (a := k) (b := 3) (by omega) (by omega))) (fun c114 => ?_)
    refine cm_aload0 (pc := 117) dX7_mixMarket_117 ?_
    refine cm_aload0 (pc := 118) dX7_mixMarket_118 ?_
    refine cm_getR (pc := 119) flX7_55 dX7_mixMarket_119 hE.1 hE.r29 ?_
    refine cm_bipush (pc := 122) (v := 32) dX7_mixMarket_122 (by decide) ?_
    refine cm_iload1 (pc := 124) dX7_mixMarket_124 ?_
    refine cm_imul (pc := 125) dX7_mixMarket_125 ?_
    rw [show (32 : Int32) * nI k = nI (32 * k) by rw [show (32 : Int32) = nI 32 from rfl, pk_mul]]
    refine mk_get (pc := 126) dX7_mixMarket_126 hE.a16 (by omega) (by decide) ?_
    refine cm_bipush (pc := 127) (v := -9) dX7_mixMarket_127 (by decide) ?_
    refine cm_icmp_ne (pc := 129) (tgt := 136) dX7_mixMarket_129 (by decide) (fun c129 => ?_) (fun c129 => ?_)
    · refine cm_aload0 (pc := 136) dX7_mixMarket_136 ?_
      refine cm_getR (pc := 137) flX7_55 dX7_mixMarket_137 hE.1 hE.r29 ?_
      refine cm_bipush (pc := 140) (v := 32) dX7_mixMarket_140 (by decide) ?_
      refine cm_iload1 (pc := 142) dX7_mixMarket_142 ?_
      refine cm_imul (pc := 143) dX7_mixMarket_143 ?_
      rw [show (32 : Int32) * nI k = nI (32 * k) by rw [show (32 : Int32) = nI 32 from rfl, pk_mul]]
      refine mk_get (pc := 144) dX7_mixMarket_144 hE.a16 (by omega) (by decide) ?_
      refine cm_V1 (pc := 145) mX7_mix_v mlX7_339 dX7_mixMarket_145 hE.1 (by omega) (Nat.le_of_ble_eq_true rfl) (Nat.le_refl _) (Nat.le_refl _) (r_mix (d := d) (hl := HL) hE) (fun r145 h145 hq145 => ?_)
      obtain ⟨rfl, HN145, rfl, hn145⟩ := hq145
      refine cm_incN1 (pc := 148) dX7_mixMarket_148 (by decide) rfl ?_
      refine cm_goto (pc := 151) (tgt := 112) dX7_mixMarket_151 (by decide) ?_
      exact hst _ (by rw [hn145, hH]; show _ = 31 * uDk u h0 k + _; rw [if_neg c129]) _
    · refine cm_iconst (pc := 132) (v := -1) dX7_mixMarket_132 (by decide) ?_
      refine cm_goto (pc := 133) (tgt := 145) dX7_mixMarket_133 (by decide) ?_
      refine cm_V1 (pc := 145) mX7_mix_v mlX7_339 dX7_mixMarket_145 hE.1 (by omega) (Nat.le_of_ble_eq_true rfl) (Nat.le_refl _) (Nat.le_refl _) (r_mix (d := d) (hl := HL) hE) (fun r145 h145 hq145 => ?_)
      obtain ⟨rfl, HN145, rfl, hn145⟩ := hq145
      refine cm_incN1 (pc := 148) dX7_mixMarket_148 (by decide) rfl ?_
      refine cm_goto (pc := 151) (tgt := 112) dX7_mixMarket_151 (by decide) ?_
      exact hst _ (by rw [hn145, hH]; show _ = 31 * uDk u h0 k + _; rw [if_pos c129]) _
set_option maxRecDepth 20000 in
theorem l_mos (hE : cm_mdl sh hr e) {h0 : Int64} {Q : Option Value → cm_H → Prop} (h : uOk u nb ns) : ∀ q k : Nat, k + q = ns → (∀ HL9 : Nat → Nat → Int64, HL9 e 43 = uDS u h0 ns → ∀ x2 : Option Value, cm_g D mX7_mixMarket (d + 1) 0 0 (Q) 0 0 97 [some (.ref e), some (.int (nI ns)), x2] [] (sh, cm_us hi e u, HL9, hr)) → ∀ HL : Nat → Nat → Int64, HL e 43 = uDS u h0 k → ∀ x2 : Option Value, cm_g D mX7_mixMarket (d + 1) 0 0 (Q) 0 0 60 [some (.ref e), some (.int (nI k)), x2] [] (sh, cm_us hi e u, HL, hr) := by
  have hnb := h.1.2.1
  have hns := h.1.2.2.2
  intro q
  induction q with
  | zero =>
    intro k hk kk HL hH x2
    have h1 : k = ns := by omega
    subst h1
    refine cm_iload1 (pc := 60) dX7_mixMarket_60 ?_
    refine cm_aload0 (pc := 61) dX7_mixMarket_61 ?_
    refine mk_fld (pc := 62) flX7_154 dX7_mixMarket_62 hE.1 ?_
    rw [h.1.2.2.1]
    refine cm_geN (pc := 65) (tgt := 97) dX7_mixMarket_65 (by decide) (by omega) (by omega) (fun c65 => ?_) (fun c65 => ?_)
    · exact kk HL hH _
    · exact absurd c65 (by omega)
  | succ q ih =>
    intro k hk kk HL hH x2
    have hst := ih (k + 1) (by omega)
    refine cm_iload1 (pc := 60) dX7_mixMarket_60 ?_
    refine cm_aload0 (pc := 61) dX7_mixMarket_61 ?_
    refine mk_fld (pc := 62) flX7_154 dX7_mixMarket_62 hE.1 ?_
    rw [h.1.2.2.1]
    refine cm_geN (pc := 65) (tgt := 97) dX7_mixMarket_65 (by decide) (by omega) (by omega) (fun c65 => ?_) (fun c65 => ?_)
    · exact absurd c65 (by omega)
    · refine cm_iconst (pc := 68) (v := 0) dX7_mixMarket_68 (by decide) ?_
      refine cm_istore2 (pc := 69) dX7_mixMarket_69 (by decide) rfl ?_
      refine l_ms hE h (by omega) 4 0 (by omega) (h0 := uDS u h0 k) (fun HL9 hH9 => ?_) HL hH
      refine cm_incN1 (pc := 91) dX7_mixMarket_91 (by decide) rfl ?_
      refine cm_goto (pc := 94) (tgt := 60) dX7_mixMarket_94 (by decide) ?_
      exact hst kk HL9 hH9 _
set_option maxRecDepth 20000 in
theorem l_mob (hE : cm_mdl sh hr e) {h0 : Int64} {Q : Option Value → cm_H → Prop} (h : uOk u nb ns) : ∀ q k : Nat, k + q = nb → (∀ HL9 : Nat → Nat → Int64, HL9 e 43 = uDB u h0 nb → ∀ x2 : Option Value, cm_g D mX7_mixMarket (d + 1) 0 0 (Q) 0 0 58 [some (.ref e), some (.int (nI nb)), x2] [] (sh, cm_us hi e u, HL9, hr)) → ∀ HL : Nat → Nat → Int64, HL e 43 = uDB u h0 k → ∀ x2 : Option Value, cm_g D mX7_mixMarket (d + 1) 0 0 (Q) 0 0 21 [some (.ref e), some (.int (nI k)), x2] [] (sh, cm_us hi e u, HL, hr) := by
  have hnb := h.1.2.1
  have hns := h.1.2.2.2
  intro q
  induction q with
  | zero =>
    intro k hk kk HL hH x2
    have h1 : k = nb := by omega
    subst h1
    refine cm_iload1 (pc := 21) dX7_mixMarket_21 ?_
    refine cm_aload0 (pc := 22) dX7_mixMarket_22 ?_
    refine mk_fld (pc := 23) flX7_151 dX7_mixMarket_23 hE.1 ?_
    rw [h.1.1]
    refine cm_geN (pc := 26) (tgt := 58) dX7_mixMarket_26 (by decide) (by omega) (by omega) (fun c26 => ?_) (fun c26 => ?_)
    · exact kk HL hH _
    · exact absurd c26 (by omega)
  | succ q ih =>
    intro k hk kk HL hH x2
    have hst := ih (k + 1) (by omega)
    refine cm_iload1 (pc := 21) dX7_mixMarket_21 ?_
    refine cm_aload0 (pc := 22) dX7_mixMarket_22 ?_
    refine mk_fld (pc := 23) flX7_151 dX7_mixMarket_23 hE.1 ?_
    rw [h.1.1]
    refine cm_geN (pc := 26) (tgt := 58) dX7_mixMarket_26 (by decide) (by omega) (by omega) (fun c26 => ?_) (fun c26 => ?_)
    · exact absurd c26 (by omega)
    · refine cm_iconst (pc := 29) (v := 0) dX7_mixMarket_29 (by decide) ?_
      refine cm_istore2 (pc := 30) dX7_mixMarket_30 (by decide) rfl ?_
      refine l_mb hE h (by omega) 4 0 (by omega) (h0 := uDB u h0 k) (fun HL9 hH9 => ?_) HL hH
      refine cm_incN1 (pc := 52) dX7_mixMarket_52 (by decide) rfl ?_
      refine cm_goto (pc := 55) (tgt := 21) dX7_mixMarket_55 (by decide) ?_
      exact hst kk HL9 hH9 _
set_option maxHeartbeats 1000000 in
set_option maxRecDepth 20000 in
theorem r_mixMarket (hE : cm_mdl sh hr e) (h : uOk u nb ns) : cm_ct D mX7_mixMarket (d + 1) 0 0 [.ref e] (sh, cm_us hi e u, hl, hr) (fun r9 h9 => r9 = none ∧ ∃ hl9, h9 = (sh, cm_us hi e u, hl9, hr) ∧ hl9 e 43 = uDM u nb ns (hl e 43)) := by
  have hnb := h.1.2.1
  have hns := h.1.2.2.2
  refine cm_ct_of (ls := [some (.ref e), none, none]) 2 (by decide +kernel) rfl rfl ?_
  refine cm_aload0 (pc := 0) dX7_mixMarket_0 ?_
  refine cm_aload0 (pc := 1) dX7_mixMarket_1 ?_
  refine mk_fld (pc := 2) flX7_151 dX7_mixMarket_2 hE.1 ?_
  refine cm_if_ne (pc := 5) (tgt := 12) dX7_mixMarket_5 (by decide) (fun c5 => ?_) (fun c5 => ?_)
  · refine cm_aload0 (pc := 12) dX7_mixMarket_12 ?_
    refine mk_fld (pc := 13) flX7_157 dX7_mixMarket_13 hE.1 ?_
    refine cm_V1 (pc := 16) mX7_mix_v mlX7_339 dX7_mixMarket_16 hE.1 (by omega) (Nat.le_of_ble_eq_true rfl) (Nat.le_refl _) (Nat.le_refl _) (r_mix (d := d) (hl := hl) hE) (fun r16 h16 hq16 => ?_)
    obtain ⟨rfl, HN16, rfl, hn16⟩ := hq16
    refine cm_iconst (pc := 19) (v := 0) dX7_mixMarket_19 (by decide) ?_
    refine cm_istore1 (pc := 20) dX7_mixMarket_20 (by decide) rfl ?_
    refine l_mob hE h (h0 := 31 * hl e 43 + (if u 0 9 = 0 then 0 else u 0 8).toInt64) nb 0 (by omega) (fun HL1 hH1 y1 => ?_) HN16 (by rw [hn16, if_neg c5]; rfl) _
    refine cm_iconst (pc := 58) (v := 0) dX7_mixMarket_58 (by decide) ?_
    refine cm_istore1 (pc := 59) dX7_mixMarket_59 (by decide) rfl ?_
    refine l_mos hE h (h0 := uDB u (31 * hl e 43 + (if u 0 9 = 0 then 0 else u 0 8).toInt64) nb) ns 0 (by omega) (fun HL2 hH2 y2 => ?_) HL1 hH1 _
    refine cm_aload0 (pc := 97) dX7_mixMarket_97 ?_
    refine cm_aload0 (pc := 98) dX7_mixMarket_98 ?_
    refine mk_fld (pc := 99) flX7_160 dX7_mixMarket_99 hE.1 ?_
    refine cm_aload0 (pc := 102) dX7_mixMarket_102 ?_
    refine mk_fld (pc := 103) flX7_163 dX7_mixMarket_103 hE.1 ?_
    refine cm_isub (pc := 106) dX7_mixMarket_106 ?_
    refine cm_V1 (pc := 107) mX7_mix_v mlX7_339 dX7_mixMarket_107 hE.1 (by omega) (Nat.le_of_ble_eq_true rfl) (Nat.le_refl _) (Nat.le_refl _) (r_mix (d := d) (hl := HL2) hE) (fun r107 h107 hq107 => ?_)
    obtain ⟨rfl, HN107, rfl, hn107⟩ := hq107
    refine cm_iconst (pc := 110) (v := 0) dX7_mixMarket_110 (by decide) ?_
    refine cm_istore1 (pc := 111) dX7_mixMarket_111 (by decide) rfl ?_
    exact l_mk hE (h0 := 31 * uDS u (uDB u (31 * hl e 43 + (if u 0 9 = 0 then 0 else u 0 8).toInt64) nb) ns + (u 0 19 - u 0 20).toInt64) 3 0 (by omega) HN107 (by rw [hn107, hH2]; rfl) _
  · refine cm_iconst (pc := 8) (v := 0) dX7_mixMarket_8 (by decide) ?_
    refine cm_goto (pc := 9) (tgt := 16) dX7_mixMarket_9 (by decide) ?_
    refine cm_V1 (pc := 16) mX7_mix_v mlX7_339 dX7_mixMarket_16 hE.1 (by omega) (Nat.le_of_ble_eq_true rfl) (Nat.le_refl _) (Nat.le_refl _) (r_mix (d := d) (hl := hl) hE) (fun r16 h16 hq16 => ?_)
    obtain ⟨rfl, HN16, rfl, hn16⟩ := hq16
    refine cm_iconst (pc := 19) (v := 0) dX7_mixMarket_19 (by decide) ?_
    refine cm_istore1 (pc := 20) dX7_mixMarket_20 (by decide) rfl ?_
    refine l_mob hE h (h0 := 31 * hl e 43 + (if u 0 9 = 0 then 0 else u 0 8).toInt64) nb 0 (by omega) (fun HL1 hH1 y1 => ?_) HN16 (by rw [hn16, if_pos c5]; rfl) _
    refine cm_iconst (pc := 58) (v := 0) dX7_mixMarket_58 (by decide) ?_
    refine cm_istore1 (pc := 59) dX7_mixMarket_59 (by decide) rfl ?_
    refine l_mos hE h (h0 := uDB u (31 * hl e 43 + (if u 0 9 = 0 then 0 else u 0 8).toInt64) nb) ns 0 (by omega) (fun HL2 hH2 y2 => ?_) HL1 hH1 _
    refine cm_aload0 (pc := 97) dX7_mixMarket_97 ?_
    refine cm_aload0 (pc := 98) dX7_mixMarket_98 ?_
    refine mk_fld (pc := 99) flX7_160 dX7_mixMarket_99 hE.1 ?_
    refine cm_aload0 (pc := 102) dX7_mixMarket_102 ?_
    refine mk_fld (pc := 103) flX7_163 dX7_mixMarket_103 hE.1 ?_
    refine cm_isub (pc := 106) dX7_mixMarket_106 ?_
    refine cm_V1 (pc := 107) mX7_mix_v mlX7_339 dX7_mixMarket_107 hE.1 (by omega) (Nat.le_of_ble_eq_true rfl) (Nat.le_refl _) (Nat.le_refl _) (r_mix (d := d) (hl := HL2) hE) (fun r107 h107 hq107 => ?_)
    obtain ⟨rfl, HN107, rfl, hn107⟩ := hq107
    refine cm_iconst (pc := 110) (v := 0) dX7_mixMarket_110 (by decide) ?_
    refine cm_istore1 (pc := 111) dX7_mixMarket_111 (by decide) rfl ?_
    exact l_mk hE (h0 := 31 * uDS u (uDB u (31 * hl e 43 + (if u 0 9 = 0 then 0 else u 0 8).toInt64) nb) ns + (u 0 19 - u 0 20).toInt64) 3 0 (by omega) HN107 (by rw [hn107, hH2]; rfl) _
theorem uz_ge {z : Int32} {m : Nat} (h : z = nI m ∨ z = -9 ∧ m = 0) : z ≤ nI m := by
  rcases h with rfl | ⟨rfl, rfl⟩
  · exact Int32.le_refl _
  · decide
theorem uz_lt {z : Int32} {m i : Nat} (h : z = nI m ∨ z = -9 ∧ m = 0) (hi : i < m) (hm : m ≤ 80) : ¬ z ≤ nI i := by
  rcases h with rfl | ⟨rfl, rfl⟩
  · rw [nI_leI (by omega) (by omega)]; omega
  · omega
set_option maxRecDepth 20000 in
theorem l_dgr (hE : cm_mdl sh hr e) {r m : Nat} {h0 : Int64} {Q : Option Value → cm_H → Prop} (hr6 : r < 6) (hm : m ≤ 40) (hz : u 2 r = nI m ∨ u 2 r = -9 ∧ m = 0) : ∀ q i : Nat, i + q = m → (∀ HL9 : Nat → Nat → Int64, HL9 e 43 = stDig (fun i => u 3 (40 * r + i)) h0 m → cm_g D mX7_digest (d + 3) 0 0 (Q) 0 0 93 [some (.ref e), some (.int (nI r)), some (.int (nI m))] [] (sh, cm_us hi e u, HL9, hr)) → ∀ HL : Nat → Nat → Int64, HL e 43 = stDig (fun i => u 3 (40 * r + i)) h0 i → cm_g D mX7_digest (d + 3) 0 0 (Q) 0 0 67 [some (.ref e), some (.int (nI r)), some (.int (nI i))] [] (sh, cm_us hi e u, HL, hr) := by
  intro q
  induction q with
  | zero =>
    intro i hi9 kk HL hH
    have h1 : i = m := by omega
    subst h1
    refine cm_iload2 (pc := 67) dX7_digest_67 ?_
    refine cm_aload0 (pc := 68) dX7_digest_68 ?_
    refine cm_getR (pc := 69) flX7_13 dX7_digest_69 hE.1 hE.r3 ?_
    refine cm_iload1 (pc := 72) dX7_digest_72 ?_
    refine mk_get (pc := 73) dX7_digest_73 hE.a2 (by omega) (by decide) ?_
    refine cm_icmp_ge (pc := 74) (tgt := 93) dX7_digest_74 (by decide) (fun c74 => ?_) (fun q => absurd (uz_ge hz) q)
    exact kk HL hH
  | succ q ih =>
    intro i hi9 kk HL hH
    have hst := ih (i + 1) (by omega)
    refine cm_iload2 (pc := 67) dX7_digest_67 ?_
    refine cm_aload0 (pc := 68) dX7_digest_68 ?_
    refine cm_getR (pc := 69) flX7_13 dX7_digest_69 hE.1 hE.r3 ?_
    refine cm_iload1 (pc := 72) dX7_digest_72 ?_
    refine mk_get (pc := 73) dX7_digest_73 hE.a2 (by omega) (by decide) ?_
    refine cm_icmp_ge (pc := 74) (tgt := 93) dX7_digest_74 (by decide) (fun q => absurd q (uz_lt hz (by omega) (by omega))) (fun c74 => ?_)
    refine cm_aload0 (pc := 77) dX7_digest_77 ?_
    refine cm_aload0 (pc := 78) dX7_digest_78 ?_
    refine cm_iload1 (pc := 79) dX7_digest_79 ?_
    refine cm_iload2 (pc := 80) dX7_digest_80 ?_
    refine cm_V2 (pc := 81) mX7_rowAt_v mlX7_105 dX7_digest_81 hE.1 (by omega) (Nat.le_of_ble_eq_true rfl) (Nat.le_refl _) (Nat.le_refl _) (r_rowAt (d := d + 2) hE hr6 (by omega)) (fun r81 h81 hq81 => ?_)
    obtain ⟨rfl, rfl⟩ := hq81
    refine cm_V1 (pc := 84) mX7_mix_v mlX7_339 dX7_digest_84 hE.1 (by omega) (Nat.le_of_ble_eq_true rfl) (Nat.le_refl _) (Nat.le_refl _) (r_mix (d := d + 2) (hl := HL) hE) (fun r84 h84 hq84 => ?_)
    obtain ⟨rfl, HN84, rfl, hn84⟩ := hq84
    refine cm_incN2 (pc := 87) dX7_digest_87 (by decide) rfl ?_
    refine cm_goto (pc := 90) (tgt := 67) dX7_digest_90 (by decide) ?_
    exact hst kk _ (by rw [hn84, hH]; rfl)
set_option maxRecDepth 20000 in
theorem l_dgt (hE : cm_mdl sh hr e) {r m : Nat} {h0 : Int64} {Q : Option Value → cm_H → Prop} (hr6 : r < 4) (hm : m ≤ 80) (hz : u 5 r = nI m ∨ u 5 r = -9 ∧ m = 0) : ∀ q i : Nat, i + q = m → (∀ HL9 : Nat → Nat → Int64, HL9 e 43 = stDig (fun i => u 6 (80 * r + i)) h0 m → cm_g D mX7_digest (d + 3) 0 0 (Q) 0 0 162 [some (.ref e), some (.int (nI r)), some (.int (nI m))] [] (sh, cm_us hi e u, HL9, hr)) → ∀ HL : Nat → Nat → Int64, HL e 43 = stDig (fun i => u 6 (80 * r + i)) h0 i → cm_g D mX7_digest (d + 3) 0 0 (Q) 0 0 131 [some (.ref e), some (.int (nI r)), some (.int (nI i))] [] (sh, cm_us hi e u, HL, hr) := by
  intro q
  induction q with
  | zero =>
    intro i hi9 kk HL hH
    have h1 : i = m := by omega
    subst h1
    refine cm_iload2 (pc := 131) dX7_digest_131 ?_
    refine cm_aload0 (pc := 132) dX7_digest_132 ?_
    refine cm_getR (pc := 133) flX7_22 dX7_digest_133 hE.1 hE.r6 ?_
    refine cm_iload1 (pc := 136) dX7_digest_136 ?_
    refine mk_get (pc := 137) dX7_digest_137 hE.a5 (by omega) (by decide) ?_
    refine cm_icmp_ge (pc := 138) (tgt := 162) dX7_digest_138 (by decide) (fun c138 => ?_) (fun q => absurd (uz_ge hz) q)
    exact kk HL hH
  | succ q ih =>
    intro i hi9 kk HL hH
    have hst := ih (i + 1) (by omega)
    refine cm_iload2 (pc := 131) dX7_digest_131 ?_
    refine cm_aload0 (pc := 132) dX7_digest_132 ?_
    refine cm_getR (pc := 133) flX7_22 dX7_digest_133 hE.1 hE.r6 ?_
    refine cm_iload1 (pc := 136) dX7_digest_136 ?_
    refine mk_get (pc := 137) dX7_digest_137 hE.a5 (by omega) (by decide) ?_
    refine cm_icmp_ge (pc := 138) (tgt := 162) dX7_digest_138 (by decide) (fun q => absurd q (uz_lt hz (by omega) (by omega))) (fun c138 => ?_)
    refine cm_aload0 (pc := 141) dX7_digest_141 ?_
    refine cm_aload0 (pc := 142) dX7_digest_142 ?_
    refine cm_getR (pc := 143) flX7_25 dX7_digest_143 hE.1 hE.r7 ?_
    refine cm_bipush (pc := 146) (v := 80) dX7_digest_146 (by decide) ?_
    refine cm_iload1 (pc := 148) dX7_digest_148 ?_
    refine cm_imul (pc := 149) dX7_digest_149 ?_
    refine cm_iload2 (pc := 150) dX7_digest_150 ?_
    refine cm_iadd (pc := 151) dX7_digest_151 ?_
    rw [show (80 : Int32) * nI r + nI i = nI (80 * r + i) from uix 80 r i]
    refine mk_get (pc := 152) dX7_digest_152 hE.a6 (by omega) (by decide) ?_
    refine cm_V1 (pc := 153) mX7_mix_v mlX7_339 dX7_digest_153 hE.1 (by omega) (Nat.le_of_ble_eq_true rfl) (Nat.le_refl _) (Nat.le_refl _) (r_mix (d := d + 2) (hl := HL) hE) (fun r153 h153 hq153 => ?_)
    obtain ⟨rfl, HN153, rfl, hn153⟩ := hq153
    refine cm_incN2 (pc := 156) dX7_digest_156 (by decide) rfl ?_
    refine cm_goto (pc := 159) (tgt := 131) dX7_digest_159 (by decide) ?_
    exact hst kk _ (by rw [hn153, hH]; rfl)
set_option maxRecDepth 20000 in
theorem l_dgR (hE : cm_mdl sh hr e) {h0 : Int64} {Q : Option Value → cm_H → Prop} (hI : uInv u) : ∀ q k : Nat, k + q = 6 → (∀ HL9 : Nat → Nat → Int64, HL9 e 43 = uDR u h0 6 → ∀ x2 : Option Value, cm_g D mX7_digest (d + 3) 0 0 (Q) 0 0 99 [some (.ref e), some (.int (nI 6)), x2] [] (sh, cm_us hi e u, HL9, hr)) → ∀ HL : Nat → Nat → Int64, HL e 43 = uDR u h0 k → ∀ x2 : Option Value, cm_g D mX7_digest (d + 3) 0 0 (Q) 0 0 36 [some (.ref e), some (.int (nI k)), x2] [] (sh, cm_us hi e u, HL, hr) := by
  intro q
  induction q with
  | zero =>
    intro k hk kk HL hH x2
    have h1 : k = 6 := by omega
    subst h1
    refine cm_iload1 (pc := 36) dX7_digest_36 ?_
    refine cm_bipush (pc := 37) (v := 6) dX7_digest_37 (by decide) ?_
    refine cm_icmp_ge (pc := 39) (tgt := 99) dX7_digest_39 (by decide) (fun c39 => ?_) (fun q => absurd (by decide) q)
    exact kk HL hH _
  | succ q ih =>
    intro k hk kk HL hH x2
    have hst := ih (k + 1) (by omega)
    have hz := (hI.1 k (by omega)).cl (by decide)
    refine cm_iload1 (pc := 36) dX7_digest_36 ?_
    refine cm_bipush (pc := 37) (v := 6) dX7_digest_37 (by decide) ?_
    refine cm_icmp_ge (pc := 39) (tgt := 99) dX7_digest_39 (by decide) (fun q => absurd q (nI_ge (a := k) (b := 6) (by omega) (by omega))) (fun c39 => ?_)
    refine cm_aload0 (pc := 42) dX7_digest_42 ?_
    refine cm_aload0 (pc := 43) dX7_digest_43 ?_
    refine cm_getR (pc := 44) flX7_13 dX7_digest_44 hE.1 hE.r3 ?_
    refine cm_iload1 (pc := 47) dX7_digest_47 ?_
    refine mk_get (pc := 48) dX7_digest_48 hE.a2 (by omega) (by decide) ?_
    refine cm_if_ge (pc := 49) (tgt := 56) dX7_digest_49 (by decide) (fun c49 => ?_) (fun c49 => ?_)
    · refine cm_aload0 (pc := 56) dX7_digest_56 ?_
      refine cm_getR (pc := 57) flX7_13 dX7_digest_57 hE.1 hE.r3 ?_
      refine cm_iload1 (pc := 60) dX7_digest_60 ?_
      refine mk_get (pc := 61) dX7_digest_61 hE.a2 (by omega) (by decide) ?_
      refine cm_V1 (pc := 62) mX7_mix_v mlX7_339 dX7_digest_62 hE.1 (by omega) (Nat.le_of_ble_eq_true rfl) (Nat.le_refl _) (Nat.le_refl _) (r_mix (d := d + 2) (hl := HL) hE) (fun r62 h62 hq62 => ?_)
      obtain ⟨rfl, HN62, rfl, hn62⟩ := hq62
      refine cm_iconst (pc := 65) (v := 0) dX7_digest_65 (by decide) ?_
      refine cm_istore2 (pc := 66) dX7_digest_66 (by decide) rfl ?_
      refine l_dgr hE (r := k) (m := (u 2 k).toNatClampNeg) (h0 := 31 * uDR u h0 k + (if 0 ≤ u 2 k then u 2 k else -1).toInt64) (by omega) hz.1 hz.2 _ 0 (Nat.zero_add _) (fun HL9 hH9 => ?_) HN62 (by rw [hn62, hH, if_pos c49]; rfl)
      refine cm_incN1 (pc := 93) dX7_digest_93 (by decide) rfl ?_
      refine cm_goto (pc := 96) (tgt := 36) dX7_digest_96 (by decide) ?_
      exact hst kk HL9 hH9 _
    · refine cm_iconst (pc := 52) (v := -1) dX7_digest_52 (by decide) ?_
      refine cm_goto (pc := 53) (tgt := 62) dX7_digest_53 (by decide) ?_
      refine cm_V1 (pc := 62) mX7_mix_v mlX7_339 dX7_digest_62 hE.1 (by omega) (Nat.le_of_ble_eq_true rfl) (Nat.le_refl _) (Nat.le_refl _) (r_mix (d := d + 2) (hl := HL) hE) (fun r62 h62 hq62 => ?_)
      obtain ⟨rfl, HN62, rfl, hn62⟩ := hq62
      refine cm_iconst (pc := 65) (v := 0) dX7_digest_65 (by decide) ?_
      refine cm_istore2 (pc := 66) dX7_digest_66 (by decide) rfl ?_
      refine l_dgr hE (r := k) (m := (u 2 k).toNatClampNeg) (h0 := 31 * uDR u h0 k + (if 0 ≤ u 2 k then u 2 k else -1).toInt64) (by omega) hz.1 hz.2 _ 0 (Nat.zero_add _) (fun HL9 hH9 => ?_) HN62 (by rw [hn62, hH, if_neg c49]; rfl)
      refine cm_incN1 (pc := 93) dX7_digest_93 (by decide) rfl ?_
      refine cm_goto (pc := 96) (tgt := 36) dX7_digest_96 (by decide) ?_
      exact hst kk HL9 hH9 _
set_option maxRecDepth 20000 in
theorem l_dgT (hE : cm_mdl sh hr e) {h0 : Int64} {Q : Option Value → cm_H → Prop} (hI : uInv u) : ∀ q k : Nat, k + q = 4 → (∀ HL9 : Nat → Nat → Int64, HL9 e 43 = uDT u h0 4 → ∀ x2 : Option Value, cm_g D mX7_digest (d + 3) 0 0 (Q) 0 0 168 [some (.ref e), some (.int (nI 4)), x2] [] (sh, cm_us hi e u, HL9, hr)) → ∀ HL : Nat → Nat → Int64, HL e 43 = uDT u h0 k → ∀ x2 : Option Value, cm_g D mX7_digest (d + 3) 0 0 (Q) 0 0 101 [some (.ref e), some (.int (nI k)), x2] [] (sh, cm_us hi e u, HL, hr) := by
  intro q
  induction q with
  | zero =>
    intro k hk kk HL hH x2
    have h1 : k = 4 := by omega
    subst h1
    refine cm_iload1 (pc := 101) dX7_digest_101 ?_
    refine cm_iconst (pc := 102) (v := 4) dX7_digest_102 (by decide) ?_
    refine cm_icmp_ge (pc := 103) (tgt := 168) dX7_digest_103 (by decide) (fun c103 => ?_) (fun q => absurd (by decide) q)
    exact kk HL hH _
  | succ q ih =>
    intro k hk kk HL hH x2
    have hst := ih (k + 1) (by omega)
    have hz := (hI.2 k (by omega)).cl (by decide)
    refine cm_iload1 (pc := 101) dX7_digest_101 ?_
    refine cm_iconst (pc := 102) (v := 4) dX7_digest_102 (by decide) ?_
    refine cm_icmp_ge (pc := 103) (tgt := 168) dX7_digest_103 (by decide) (fun q => absurd q (nI_ge (a := k) (b := 4) (by omega) (by omega))) (fun c103 => ?_)
    refine cm_aload0 (pc := 106) dX7_digest_106 ?_
    refine cm_aload0 (pc := 107) dX7_digest_107 ?_
    refine cm_getR (pc := 108) flX7_22 dX7_digest_108 hE.1 hE.r6 ?_
    refine cm_iload1 (pc := 111) dX7_digest_111 ?_
    refine mk_get (pc := 112) dX7_digest_112 hE.a5 (by omega) (by decide) ?_
    refine cm_if_ge (pc := 113) (tgt := 120) dX7_digest_113 (by decide) (fun c113 => ?_) (fun c113 => ?_)
    · refine cm_aload0 (pc := 120) dX7_digest_120 ?_
      refine cm_getR (pc := 121) flX7_22 dX7_digest_121 hE.1 hE.r6 ?_
      refine cm_iload1 (pc := 124) dX7_digest_124 ?_
      refine mk_get (pc := 125) dX7_digest_125 hE.a5 (by omega) (by decide) ?_
      refine cm_V1 (pc := 126) mX7_mix_v mlX7_339 dX7_digest_126 hE.1 (by omega) (Nat.le_of_ble_eq_true rfl) (Nat.le_refl _) (Nat.le_refl _) (r_mix (d := d + 2) (hl := HL) hE) (fun r126 h126 hq126 => ?_)
      obtain ⟨rfl, HN126, rfl, hn126⟩ := hq126
      refine cm_iconst (pc := 129) (v := 0) dX7_digest_129 (by decide) ?_
      refine cm_istore2 (pc := 130) dX7_digest_130 (by decide) rfl ?_
      refine l_dgt hE (r := k) (m := (u 5 k).toNatClampNeg) (h0 := 31 * uDT u h0 k + (if 0 ≤ u 5 k then u 5 k else -1).toInt64) (by omega) hz.1 hz.2 _ 0 (Nat.zero_add _) (fun HL9 hH9 => ?_) HN126 (by rw [hn126, hH, if_pos c113]; rfl)
      refine cm_incN1 (pc := 162) dX7_digest_162 (by decide) rfl ?_
      refine cm_goto (pc := 165) (tgt := 101) dX7_digest_165 (by decide) ?_
      exact hst kk HL9 hH9 _
    · refine cm_iconst (pc := 116) (v := -1) dX7_digest_116 (by decide) ?_
      refine cm_goto (pc := 117) (tgt := 126) dX7_digest_117 (by decide) ?_
      refine cm_V1 (pc := 126) mX7_mix_v mlX7_339 dX7_digest_126 hE.1 (by omega) (Nat.le_of_ble_eq_true rfl) (Nat.le_refl _) (Nat.le_refl _) (r_mix (d := d + 2) (hl := HL) hE) (fun r126 h126 hq126 => ?_)
      obtain ⟨rfl, HN126, rfl, hn126⟩ := hq126
      refine cm_iconst (pc := 129) (v := 0) dX7_digest_129 (by decide) ?_
      refine cm_istore2 (pc := 130) dX7_digest_130 (by decide) rfl ?_
      refine l_dgt hE (r := k) (m := (u 5 k).toNatClampNeg) (h0 := 31 * uDT u h0 k + (if 0 ≤ u 5 k then u 5 k else -1).toInt64) (by omega) hz.1 hz.2 _ 0 (Nat.zero_add _) (fun HL9 hH9 => ?_) HN126 (by rw [hn126, hH, if_neg c113]; rfl)
      refine cm_incN1 (pc := 162) dX7_digest_162 (by decide) rfl ?_
      refine cm_goto (pc := 165) (tgt := 101) dX7_digest_165 (by decide) ?_
      exact hst kk HL9 hH9 _
theorem nI_gt8 {g : Nat} (h : g < 9) : ¬ (8 : Int32) < nI g := by
  have z : (8 : Int32).toInt = 8 := by decide
  rw [Int32.lt_iff_toInt_lt, z, nI_toInt (by omega)]
  omega
set_option maxRecDepth 20000 in
theorem l_dgh (hE : cm_mdl sh hr e) (h : uOk u nb ns) (hI : uInv u) : ∀ q k : Nat, k + q = 9 → ∀ HL : Nat → Nat → Int64, HL e 43 = cDigF (uTells u nb) 17 k → ∀ x2 : Option Value, cm_g D mX7_digest (d + 3) 0 0 (fun r9 h9 => ∃ hl9, h9 = (sh, cm_us hi e u, hl9, hr) ∧ r9 = some (.long (uDig u nb ns))) 0 0 9 [some (.ref e), some (.int (nI k)), x2] [] (sh, cm_us hi e u, HL, hr) := by
  intro q
  induction q with
  | zero =>
    intro k hk HL hH x2
    have h1 : k = 9 := by omega
    subst h1
    refine cm_iload1 (pc := 9) dX7_digest_9 ?_
    refine cm_bipush (pc := 10) (v := 8) dX7_digest_10 (by decide) ?_
    refine cm_icmp_gt (pc := 12) (tgt := 30) dX7_digest_12 (by decide) (fun c12 => ?_) (fun q => absurd (by decide) q)
    refine cm_aload0 (pc := 30) dX7_digest_30 ?_
    refine cm_V0 (pc := 31) mX7_mixMarket_v mlX7_344 dX7_digest_31 hE.1 (by omega) (Nat.le_of_ble_eq_true rfl) (Nat.le_refl _) (Nat.le_refl _) (r_mixMarket (d := d + 1) (hl := HL) hE h) (fun r31 h31 hq31 => ?_)
    obtain ⟨rfl, HN31, rfl, hn31⟩ := hq31
    refine cm_iconst (pc := 34) (v := 0) dX7_digest_34 (by decide) ?_
    refine cm_istore1 (pc := 35) dX7_digest_35 (by decide) rfl ?_
    refine l_dgR hE hI (h0 := uDM u nb ns (cDigF (uTells u nb) 17 9)) 6 0 (by omega) (fun HL4 hH4 y4 => ?_) HN31 (by rw [hn31, hH]; rfl) _
    refine cm_iconst (pc := 99) (v := 0) dX7_digest_99 (by decide) ?_
    refine cm_istore1 (pc := 100) dX7_digest_100 (by decide) rfl ?_
    refine l_dgT hE hI (h0 := uDR u (uDM u nb ns (cDigF (uTells u nb) 17 9)) 6) 4 0 (by omega) (fun HL5 hH5 y5 => ?_) HL4 hH4 _
    refine cm_aload0 (pc := 168) dX7_digest_168 ?_
    refine cm_getJ (pc := 169) flX7_335 dX7_digest_169 hE.1 ?_
    rw [hH5]
    exact cm_lret (pc := 172) dX7_digest_172 rfl ⟨HL5, rfl, rfl⟩
  | succ q ih =>
    intro k hk HL hH x2
    have hst := ih (k + 1) (by omega)
    refine cm_iload1 (pc := 9) dX7_digest_9 ?_
    refine cm_bipush (pc := 10) (v := 8) dX7_digest_10 (by decide) ?_
    refine cm_icmp_gt (pc := 12) (tgt := 30) dX7_digest_12 (by decide) (fun q => absurd q (nI_gt8 (by omega))) (fun c12 => ?_)
    refine cm_aload0 (pc := 15) dX7_digest_15 ?_
    refine cm_aload0 (pc := 16) dX7_digest_16 ?_
    refine cm_iload1 (pc := 17) dX7_digest_17 ?_
    refine cm_V1 (pc := 18) mX7_tells_v mlX7_330 dX7_digest_18 hE.1 (by omega) (Nat.le_of_ble_eq_true rfl) (Nat.le_refl _) (Nat.le_refl _) (r_tells (d := d + 1) hE h) (fun r18 h18 hq18 => ?_)
    obtain ⟨rfl, rfl⟩ := hq18
    refine cm_V1 (pc := 21) mX7_mix_v mlX7_339 dX7_digest_21 hE.1 (by omega) (Nat.le_of_ble_eq_true rfl) (Nat.le_refl _) (Nat.le_refl _) (r_mix (d := d + 2) (hl := HL) hE) (fun r21 h21 hq21 => ?_)
    obtain ⟨rfl, HN21, rfl, hn21⟩ := hq21
    refine cm_incN1 (pc := 24) dX7_digest_24 (by decide) rfl ?_
    refine cm_goto (pc := 27) (tgt := 9) dX7_digest_27 (by decide) ?_
    exact hst _ (by rw [hn21, hH]; rfl) _
set_option maxRecDepth 20000 in
theorem r_digest (hE : cm_mdl sh hr e) (h : uOk u nb ns) (hI : uInv u) : cm_ct D mX7_digest (d + 3) 0 0 [.ref e] (sh, cm_us hi e u, hl, hr) (fun r9 h9 => ∃ hl9, h9 = (sh, cm_us hi e u, hl9, hr) ∧ r9 = some (.long (uDig u nb ns))) := by
  refine cm_ct_of (ls := [some (.ref e), none, none]) 2 (by decide +kernel) rfl rfl ?_
  refine cm_aload0 (pc := 0) dX7_digest_0 ?_
  refine cm_ldc2 (pc := 1) dX7_digest_1 ctX7_342 ?_
  refine cm_putL (pc := 4) fpX7_335 dX7_digest_4 hE.1 ?_
  refine cm_iconst (pc := 7) (v := 0) dX7_digest_7 (by decide) ?_
  refine cm_istore1 (pc := 8) dX7_digest_8 (by decide) rfl ?_
  exact l_dgh hE h hI 9 0 (by omega) _ (by rw [va_up_self]; rfl) _
end U11
