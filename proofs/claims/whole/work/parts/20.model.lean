/-! PART model: the reference: its cells, small methods, nearest, wish -/
def cm_mdl (sh : List cm_Sh) (hr : Nat → Nat → Option Nat) (e : Nat) : Prop := cm_ob sh e 7 ∧ (hr e 1 = some (e + 1) ∧ cm_ar sh (e + 1) 0 6) ∧ (hr e 3 = some (e + 2) ∧ cm_ar sh (e + 2) 0 6) ∧ (hr e 4 = some (e + 3) ∧ cm_ar sh (e + 3) 0 240) ∧ (hr e 5 = some (e + 4) ∧ cm_ar sh (e + 4) 0 40) ∧ (hr e 6 = some (e + 5) ∧ cm_ar sh (e + 5) 0 4) ∧ (hr e 7 = some (e + 6) ∧ cm_ar sh (e + 6) 0 320) ∧ (hr e 11 = some (e + 7) ∧ cm_ar sh (e + 7) 0 12) ∧ (hr e 12 = some (e + 8) ∧ cm_ar sh (e + 8) 0 12) ∧ (hr e 13 = some (e + 9) ∧ cm_ar sh (e + 9) 0 12) ∧ (hr e 14 = some (e + 10) ∧ cm_ar sh (e + 10) 0 6) ∧ (hr e 15 = some (e + 11) ∧ cm_ar sh (e + 11) 0 12) ∧ (hr e 16 = some (e + 12) ∧ cm_ar sh (e + 12) 0 12) ∧ (hr e 17 = some (e + 13) ∧ cm_ar sh (e + 13) 0 12) ∧ (hr e 18 = some (e + 14) ∧ cm_ar sh (e + 14) 0 6) ∧ (hr e 28 = some (e + 15) ∧ cm_ar sh (e + 15) 0 1440) ∧ (hr e 29 = some (e + 16) ∧ cm_ar sh (e + 16) 0 96) ∧ (hr e 30 = some (e + 17) ∧ cm_ar sh (e + 17) 0 24) ∧ (hr e 34 = some (e + 18) ∧ cm_ar sh (e + 18) 0 84) ∧ (hr e 37 = some (e + 19) ∧ cm_ar sh (e + 19) 0 6) ∧ (hr e 38 = some (e + 20) ∧ cm_ar sh (e + 20) 0 6) ∧ (hr e 39 = some (e + 21) ∧ cm_ar sh (e + 21) 0 6) ∧ (hr e 42 = some (e + 22) ∧ cm_ar sh (e + 22) 0 6)
section MD0
variable {sh : List cm_Sh} {hr : Nat → Nat → Option Nat} {e : Nat}
theorem cm_mdl.r1 (h : cm_mdl sh hr e) : hr e 1 = some (e + 1) := h.2.1.1
theorem cm_mdl.a1 (h : cm_mdl sh hr e) : cm_ar sh (e + 1) 0 6 := h.2.1.2
theorem cm_mdl.r3 (h : cm_mdl sh hr e) : hr e 3 = some (e + 2) := h.2.2.1.1
theorem cm_mdl.a2 (h : cm_mdl sh hr e) : cm_ar sh (e + 2) 0 6 := h.2.2.1.2
theorem cm_mdl.r4 (h : cm_mdl sh hr e) : hr e 4 = some (e + 3) := h.2.2.2.1.1
theorem cm_mdl.a3 (h : cm_mdl sh hr e) : cm_ar sh (e + 3) 0 240 := h.2.2.2.1.2
theorem cm_mdl.r5 (h : cm_mdl sh hr e) : hr e 5 = some (e + 4) := h.2.2.2.2.1.1
theorem cm_mdl.a4 (h : cm_mdl sh hr e) : cm_ar sh (e + 4) 0 40 := h.2.2.2.2.1.2
theorem cm_mdl.r6 (h : cm_mdl sh hr e) : hr e 6 = some (e + 5) := h.2.2.2.2.2.1.1
theorem cm_mdl.a5 (h : cm_mdl sh hr e) : cm_ar sh (e + 5) 0 4 := h.2.2.2.2.2.1.2
theorem cm_mdl.r7 (h : cm_mdl sh hr e) : hr e 7 = some (e + 6) := h.2.2.2.2.2.2.1.1
theorem cm_mdl.a6 (h : cm_mdl sh hr e) : cm_ar sh (e + 6) 0 320 := h.2.2.2.2.2.2.1.2
theorem cm_mdl.r11 (h : cm_mdl sh hr e) : hr e 11 = some (e + 7) := h.2.2.2.2.2.2.2.1.1
theorem cm_mdl.a7 (h : cm_mdl sh hr e) : cm_ar sh (e + 7) 0 12 := h.2.2.2.2.2.2.2.1.2
theorem cm_mdl.r12 (h : cm_mdl sh hr e) : hr e 12 = some (e + 8) := h.2.2.2.2.2.2.2.2.1.1
theorem cm_mdl.a8 (h : cm_mdl sh hr e) : cm_ar sh (e + 8) 0 12 := h.2.2.2.2.2.2.2.2.1.2
theorem cm_mdl.r13 (h : cm_mdl sh hr e) : hr e 13 = some (e + 9) := h.2.2.2.2.2.2.2.2.2.1.1
theorem cm_mdl.a9 (h : cm_mdl sh hr e) : cm_ar sh (e + 9) 0 12 := h.2.2.2.2.2.2.2.2.2.1.2
theorem cm_mdl.r14 (h : cm_mdl sh hr e) : hr e 14 = some (e + 10) := h.2.2.2.2.2.2.2.2.2.2.1.1
theorem cm_mdl.a10 (h : cm_mdl sh hr e) : cm_ar sh (e + 10) 0 6 := h.2.2.2.2.2.2.2.2.2.2.1.2
theorem cm_mdl.r15 (h : cm_mdl sh hr e) : hr e 15 = some (e + 11) := h.2.2.2.2.2.2.2.2.2.2.2.1.1
theorem cm_mdl.a11 (h : cm_mdl sh hr e) : cm_ar sh (e + 11) 0 12 := h.2.2.2.2.2.2.2.2.2.2.2.1.2
theorem cm_mdl.r16 (h : cm_mdl sh hr e) : hr e 16 = some (e + 12) := h.2.2.2.2.2.2.2.2.2.2.2.2.1.1
theorem cm_mdl.a12 (h : cm_mdl sh hr e) : cm_ar sh (e + 12) 0 12 := h.2.2.2.2.2.2.2.2.2.2.2.2.1.2
theorem cm_mdl.r17 (h : cm_mdl sh hr e) : hr e 17 = some (e + 13) := h.2.2.2.2.2.2.2.2.2.2.2.2.2.1.1
theorem cm_mdl.a13 (h : cm_mdl sh hr e) : cm_ar sh (e + 13) 0 12 := h.2.2.2.2.2.2.2.2.2.2.2.2.2.1.2
theorem cm_mdl.r18 (h : cm_mdl sh hr e) : hr e 18 = some (e + 14) := h.2.2.2.2.2.2.2.2.2.2.2.2.2.2.1.1
theorem cm_mdl.a14 (h : cm_mdl sh hr e) : cm_ar sh (e + 14) 0 6 := h.2.2.2.2.2.2.2.2.2.2.2.2.2.2.1.2
theorem cm_mdl.r28 (h : cm_mdl sh hr e) : hr e 28 = some (e + 15) := h.2.2.2.2.2.2.2.2.2.2.2.2.2.2.2.1.1
theorem cm_mdl.a15 (h : cm_mdl sh hr e) : cm_ar sh (e + 15) 0 1440 := h.2.2.2.2.2.2.2.2.2.2.2.2.2.2.2.1.2
theorem cm_mdl.r29 (h : cm_mdl sh hr e) : hr e 29 = some (e + 16) := h.2.2.2.2.2.2.2.2.2.2.2.2.2.2.2.2.1.1
theorem cm_mdl.a16 (h : cm_mdl sh hr e) : cm_ar sh (e + 16) 0 96 := h.2.2.2.2.2.2.2.2.2.2.2.2.2.2.2.2.1.2
theorem cm_mdl.r30 (h : cm_mdl sh hr e) : hr e 30 = some (e + 17) := h.2.2.2.2.2.2.2.2.2.2.2.2.2.2.2.2.2.1.1
theorem cm_mdl.a17 (h : cm_mdl sh hr e) : cm_ar sh (e + 17) 0 24 := h.2.2.2.2.2.2.2.2.2.2.2.2.2.2.2.2.2.1.2
theorem cm_mdl.r34 (h : cm_mdl sh hr e) : hr e 34 = some (e + 18) := h.2.2.2.2.2.2.2.2.2.2.2.2.2.2.2.2.2.2.1.1
theorem cm_mdl.a18 (h : cm_mdl sh hr e) : cm_ar sh (e + 18) 0 84 := h.2.2.2.2.2.2.2.2.2.2.2.2.2.2.2.2.2.2.1.2
theorem cm_mdl.r37 (h : cm_mdl sh hr e) : hr e 37 = some (e + 19) := h.2.2.2.2.2.2.2.2.2.2.2.2.2.2.2.2.2.2.2.1.1
theorem cm_mdl.a19 (h : cm_mdl sh hr e) : cm_ar sh (e + 19) 0 6 := h.2.2.2.2.2.2.2.2.2.2.2.2.2.2.2.2.2.2.2.1.2
theorem cm_mdl.r38 (h : cm_mdl sh hr e) : hr e 38 = some (e + 20) := h.2.2.2.2.2.2.2.2.2.2.2.2.2.2.2.2.2.2.2.2.1.1
theorem cm_mdl.a20 (h : cm_mdl sh hr e) : cm_ar sh (e + 20) 0 6 := h.2.2.2.2.2.2.2.2.2.2.2.2.2.2.2.2.2.2.2.2.1.2
theorem cm_mdl.r39 (h : cm_mdl sh hr e) : hr e 39 = some (e + 21) := h.2.2.2.2.2.2.2.2.2.2.2.2.2.2.2.2.2.2.2.2.2.1.1
theorem cm_mdl.a21 (h : cm_mdl sh hr e) : cm_ar sh (e + 21) 0 6 := h.2.2.2.2.2.2.2.2.2.2.2.2.2.2.2.2.2.2.2.2.2.1.2
theorem cm_mdl.r42 (h : cm_mdl sh hr e) : hr e 42 = some (e + 22) := h.2.2.2.2.2.2.2.2.2.2.2.2.2.2.2.2.2.2.2.2.2.2.1
theorem cm_mdl.a22 (h : cm_mdl sh hr e) : cm_ar sh (e + 22) 0 6 := h.2.2.2.2.2.2.2.2.2.2.2.2.2.2.2.2.2.2.2.2.2.2.2
end MD0
def uIn (v a b : Int32) : Bool := !decide (v < a) && !decide (b < v)
def uHas (s k : Int32) : Bool := decide ((s >>> (k &&& 31)) &&& 1 = 1)
def uAbs (v : Int32) : Int32 := if 0 ≤ v then v else -v
def uA (u : cm_g2) (i : Nat) (k : Int32) : Bool := decide (u 7 i = k) || (decide (k = 1) && decide (u 7 i = 5)) || (decide (k = 2) && decide (u 7 i = 4))
def uHeld (u : cm_g2) (i : Nat) (sp nx : Int32) : Bool := !decide (nx ≤ sp) && ((decide (u 7 i = 4) || decide (u 7 (i + 1) = 4)) || !decide (u 0 8 < nx - sp))
def uSun (u : cm_g2) : Int32 := u 0 19 - u 0 19 / 7 * 7 - 3
def uShaded (u : cm_g2) (nb : Nat) (sp mv : Int32) : Bool := decide (0 < nb) && uIn (sp - mv) (u 8 0) (u 8 (nb - 1))
def uBuy (u : cm_g2) (nb i : Nat) (mv : Int32) : Nat → Nat → Option Nat
  | 0, _ => none
  | n + 1, k => if u 11 k = u 8 i ∧ u 12 k = u 9 i ∧ uShaded u nb (u 8 i) mv = true then some k else uBuy u nb i mv n (k + 1)
def uNearer (u : cm_g2) (i k : Nat) : Option Nat → Bool
  | none => true
  | some b => decide (uAbs (u 11 k - u 8 i) < uAbs (u 11 b - u 8 i)) || (decide (uAbs (u 11 k - u 8 i) = uAbs (u 11 b - u 8 i)) && !decide (u 11 b ≤ u 11 k))
def uNear (u : cm_g2) (i : Nat) (gd ot : Int32) : Nat → Option Nat
  | 0 => none
  | k + 1 => if (u 12 k = gd ∨ u 12 k = ot) ∧ uNearer u i k (uNear u i gd ot k) = true then some k else uNear u i gd ot k
theorem uNear_lt {u : cm_g2} {i : Nat} {gd ot : Int32} : ∀ {n k : Nat}, uNear u i gd ot n = some k → k < n
  | 0, k, h => by simp [uNear] at h
  | n + 1, k, h => by
    unfold uNear at h
    split at h
    · cases h; omega
    · have := uNear_lt h; omega
def uOk (u : cm_g2) (nb ns : Nat) : Prop := (u 0 9 = nI nb ∧ nb ≤ 6 ∧ u 0 10 = nI ns ∧ ns ≤ 6) ∧ (∀ i, i < nb → 0 ≤ (u 8 i).toInt ∧ (u 8 i).toInt < 20) ∧ (∀ k, k < ns → 0 ≤ (u 11 k).toInt ∧ (u 11 k).toInt < 20)
theorem uAbs_z {v : Int32} (h : -1000 < v.toInt ∧ v.toInt < 1000) : (uAbs v).toInt = if 0 ≤ v.toInt then v.toInt else - v.toInt := by
  unfold uAbs
  have z0 : (0 : Int32).toInt = 0 := by decide
  by_cases h0 : 0 ≤ v
  · have h1 := h0
    rw [Int32.le_iff_toInt_le, z0] at h1
    rw [if_pos h0, if_pos h1]
  · have h1 := h0
    rw [Int32.le_iff_toInt_le, z0] at h1
    rw [if_neg h0, if_neg h1, Int32.toInt_neg]
    exact Int.bmod_eq_of_le (by omega) (by omega)
theorem uOk.far {u : cm_g2} {nb ns i k : Nat} (h : uOk u nb ns) (hi : i < nb) (hk : k < ns) : uAbs (u 11 k - u 8 i) < 100 := by
  have h1 := h.2.1 i hi
  have h2 := h.2.2 k hk
  have e1 : (u 11 k - u 8 i).toInt = (u 11 k).toInt - (u 8 i).toInt := zsub (by omega)
  rw [Int32.lt_iff_toInt_lt, uAbs_z (by omega), e1]
  have z : (100 : Int32).toInt = 100 := by decide
  rw [z]
  split <;> omega
section MD1
variable {D : cm_D} {d : Nat} {sh : List cm_Sh} {hi u : cm_g2} {hl : Nat → Nat → Int64} {hr : Nat → Nat → Option Nat} {e nb ns : Nat}
set_option maxRecDepth 20000 in
theorem r_in {v a b : Int32} {h : cm_H} : cm_ct D mX7_in d 0 0 [.int v, .int a, .int b] h (fun r9 h9 => r9 = some (.int (cm_bi (uIn v a b))) ∧ h9 = h) := by
  refine cm_ct_of (ls := [some (.int v), some (.int a), some (.int b)]) 0 (by decide +kernel) rfl rfl ?_
  refine cm_iload0 (pc := 0) dX7_in_0 ?_
  refine cm_iload1 (pc := 1) dX7_in_1 ?_
  refine cm_icmp_lt (pc := 2) (tgt := 14) dX7_in_2 (by decide) (fun c2 => ?_) (fun c2 => ?_)
  · refine cm_iconst (pc := 14) (v := 0) dX7_in_14 (by decide) ?_
    exact cm_zret (pc := 15) dX7_in_15 rfl rfl ⟨by simp [cm_bi, uIn, *], rfl⟩
  · refine cm_iload0 (pc := 5) dX7_in_5 ?_
    refine cm_iload2 (pc := 6) dX7_in_6 ?_
    refine cm_icmp_gt (pc := 7) (tgt := 14) dX7_in_7 (by decide) (fun c7 => ?_) (fun c7 => ?_)
    · refine cm_iconst (pc := 14) (v := 0) dX7_in_14 (by decide) ?_
      exact cm_zret (pc := 15) dX7_in_15 rfl rfl ⟨by simp [cm_bi, uIn, *], rfl⟩
    · refine cm_iconst (pc := 10) (v := 1) dX7_in_10 (by decide) ?_
      refine cm_goto (pc := 11) (tgt := 15) dX7_in_11 (by decide) ?_
      exact cm_zret (pc := 15) dX7_in_15 rfl rfl ⟨by simp [cm_bi, uIn, *], rfl⟩
set_option maxRecDepth 20000 in
theorem r_has {v b : Int32} {h : cm_H} : cm_ct D mX7_has d 0 0 [.int v, .int b] h (fun r9 h9 => r9 = some (.int (cm_bi (uHas v b))) ∧ h9 = h) := by
  refine cm_ct_of (ls := [some (.int v), some (.int b)]) 0 (by decide +kernel) rfl rfl ?_
  refine cm_iload0 (pc := 0) dX7_has_0 ?_
  refine cm_iload1 (pc := 1) dX7_has_1 ?_
  refine cm_ishr (pc := 2) dX7_has_2 ?_
  refine cm_iconst (pc := 3) (v := 1) dX7_has_3 (by decide) ?_
  refine cm_iand (pc := 4) dX7_has_4 ?_
  refine cm_iconst (pc := 5) (v := 1) dX7_has_5 (by decide) ?_
  refine cm_icmp_ne (pc := 6) (tgt := 13) dX7_has_6 (by decide) (fun c6 => ?_) (fun c6 => ?_)
  · refine cm_iconst (pc := 13) (v := 0) dX7_has_13 (by decide) ?_
    exact cm_zret (pc := 14) dX7_has_14 rfl rfl ⟨by simp [cm_bi, uHas, *], rfl⟩
  · refine cm_iconst (pc := 9) (v := 1) dX7_has_9 (by decide) ?_
    refine cm_goto (pc := 10) (tgt := 14) dX7_has_10 (by decide) ?_
    exact cm_zret (pc := 14) dX7_has_14 rfl rfl ⟨by simp [cm_bi, uHas, *], rfl⟩
set_option maxRecDepth 20000 in
theorem r_abs {v : Int32} {h : cm_H} : cm_ct D mX7_size d 0 0 [.int v] h (fun r9 h9 => r9 = some (.int (uAbs v)) ∧ h9 = h) := by
  refine cm_ct_of (ls := [some (.int v)]) 0 (by decide +kernel) rfl rfl ?_
  refine cm_iload0 (pc := 0) dX7_size_0 ?_
  refine cm_if_ge (pc := 1) (tgt := 9) dX7_size_1 (by decide) (fun c1 => ?_) (fun c1 => ?_)
  · refine cm_iload0 (pc := 9) dX7_size_9 ?_
    exact cm_iret (pc := 10) dX7_size_10 rfl ⟨by unfold uAbs; first | rw [if_pos c1] | rw [if_neg c1], rfl⟩
  · refine cm_iload0 (pc := 4) dX7_size_4 ?_
    refine cm_ineg (pc := 5) dX7_size_5 ?_
    refine cm_goto (pc := 6) (tgt := 10) dX7_size_6 (by decide) ?_
    exact cm_iret (pc := 10) dX7_size_10 rfl ⟨by unfold uAbs; first | rw [if_pos c1] | rw [if_neg c1], rfl⟩
set_option maxRecDepth 20000 in
theorem r_isSpot {v : Int32} {h : cm_H} : cm_ct D mX7_isSpot (d + 1) 0 0 [.int v] h (fun r9 h9 => r9 = some (.int (cm_bi (uIn v 0 19))) ∧ h9 = h) := by
  refine cm_ct_of (ls := [some (.int v)]) 0 (by decide +kernel) rfl rfl ?_
  refine cm_iload0 (pc := 0) dX7_isSpot_0 ?_
  refine cm_iconst (pc := 1) (v := 0) dX7_isSpot_1 (by decide) ?_
  refine cm_bipush (pc := 2) (v := 19) dX7_isSpot_2 (by decide) ?_
  refine cm_S3 (pc := 4) mX7_in_s mlX7_83 dX7_isSpot_4 (by omega) (Nat.le_of_ble_eq_true rfl) (Nat.le_refl _) (Nat.le_refl _) (r_in (d := d)) (fun r4 h4 hq4 => ?_)
  obtain ⟨rfl, rfl⟩ := hq4
  exact cm_zret (pc := 7) dX7_isSpot_7 rfl (cm_nb _) ⟨rfl, rfl⟩
set_option maxRecDepth 20000 in
theorem r_isA (hE : cm_mdl sh hr e) {i : Nat} {kd : Int32} (hi6 : i < 12) : cm_ct D mX7_isA d 0 0 [.ref e, .int (nI i), .int kd] (sh, cm_us hi e u, hl, hr) (fun r9 h9 => r9 = some (.int (cm_bi (uA u i kd))) ∧ h9 = (sh, cm_us hi e u, hl, hr)) := by
  refine cm_ct_of (ls := [some (.ref e), some (.int (nI i)), some (.int kd)]) 0 (by decide +kernel) rfl rfl ?_
  refine cm_aload0 (pc := 0) dX7_isA_0 ?_
  refine cm_getR (pc := 1) flX7_28 dX7_isA_1 hE.1 hE.r11 ?_
  refine cm_iload1 (pc := 4) dX7_isA_4 ?_
  refine mk_get (pc := 5) dX7_isA_5 hE.a7 (by omega) (by decide) ?_
  refine cm_iload2 (pc := 6) dX7_isA_6 ?_
  refine cm_icmp_eq (pc := 7) (tgt := 40) dX7_isA_7 (by decide) (fun c7 => ?_) (fun c7 => ?_)
  · refine cm_iconst (pc := 40) (v := 1) dX7_isA_40 (by decide) ?_
    refine cm_goto (pc := 41) (tgt := 45) dX7_isA_41 (by decide) ?_
    exact cm_zret (pc := 45) dX7_isA_45 rfl rfl ⟨by simp_all [cm_bi, uA], rfl⟩
  · refine cm_iload2 (pc := 10) dX7_isA_10 ?_
    refine cm_iconst (pc := 11) (v := 1) dX7_isA_11 (by decide) ?_
    refine cm_icmp_ne (pc := 12) (tgt := 25) dX7_isA_12 (by decide) (fun c12 => ?_) (fun c12 => ?_)
    · refine cm_iload2 (pc := 25) dX7_isA_25 ?_
      refine cm_iconst (pc := 26) (v := 2) dX7_isA_26 (by decide) ?_
      refine cm_icmp_ne (pc := 27) (tgt := 44) dX7_isA_27 (by decide) (fun c27 => ?_) (fun c27 => ?_)
      · refine cm_iconst (pc := 44) (v := 0) dX7_isA_44 (by decide) ?_
        exact cm_zret (pc := 45) dX7_isA_45 rfl rfl ⟨by simp_all [cm_bi, uA], rfl⟩
      · refine cm_aload0 (pc := 30) dX7_isA_30 ?_
        refine cm_getR (pc := 31) flX7_28 dX7_isA_31 hE.1 hE.r11 ?_
        refine cm_iload1 (pc := 34) dX7_isA_34 ?_
        refine mk_get (pc := 35) dX7_isA_35 hE.a7 (by omega) (by decide) ?_
        refine cm_iconst (pc := 36) (v := 4) dX7_isA_36 (by decide) ?_
        refine cm_icmp_ne (pc := 37) (tgt := 44) dX7_isA_37 (by decide) (fun c37 => ?_) (fun c37 => ?_)
        · refine cm_iconst (pc := 44) (v := 0) dX7_isA_44 (by decide) ?_
          exact cm_zret (pc := 45) dX7_isA_45 rfl rfl ⟨by simp_all [cm_bi, uA], rfl⟩
        · refine cm_iconst (pc := 40) (v := 1) dX7_isA_40 (by decide) ?_
          refine cm_goto (pc := 41) (tgt := 45) dX7_isA_41 (by decide) ?_
          exact cm_zret (pc := 45) dX7_isA_45 rfl rfl ⟨by simp_all [cm_bi, uA], rfl⟩
    · refine cm_aload0 (pc := 15) dX7_isA_15 ?_
      refine cm_getR (pc := 16) flX7_28 dX7_isA_16 hE.1 hE.r11 ?_
      refine cm_iload1 (pc := 19) dX7_isA_19 ?_
      refine mk_get (pc := 20) dX7_isA_20 hE.a7 (by omega) (by decide) ?_
      refine cm_iconst (pc := 21) (v := 5) dX7_isA_21 (by decide) ?_
      refine cm_icmp_eq (pc := 22) (tgt := 40) dX7_isA_22 (by decide) (fun c22 => ?_) (fun c22 => ?_)
      · refine cm_iconst (pc := 40) (v := 1) dX7_isA_40 (by decide) ?_
        refine cm_goto (pc := 41) (tgt := 45) dX7_isA_41 (by decide) ?_
        exact cm_zret (pc := 45) dX7_isA_45 rfl rfl ⟨by simp_all [cm_bi, uA], rfl⟩
      · refine cm_iload2 (pc := 25) dX7_isA_25 ?_
        refine cm_iconst (pc := 26) (v := 2) dX7_isA_26 (by decide) ?_
        refine cm_icmp_ne (pc := 27) (tgt := 44) dX7_isA_27 (by decide) (fun c27 => ?_) (fun c27 => ?_)
        · refine cm_iconst (pc := 44) (v := 0) dX7_isA_44 (by decide) ?_
          exact cm_zret (pc := 45) dX7_isA_45 rfl rfl ⟨by simp_all [cm_bi, uA], rfl⟩
        · refine cm_aload0 (pc := 30) dX7_isA_30 ?_
          refine cm_getR (pc := 31) flX7_28 dX7_isA_31 hE.1 hE.r11 ?_
          refine cm_iload1 (pc := 34) dX7_isA_34 ?_
          refine mk_get (pc := 35) dX7_isA_35 hE.a7 (by omega) (by decide) ?_
          refine cm_iconst (pc := 36) (v := 4) dX7_isA_36 (by decide) ?_
          refine cm_icmp_ne (pc := 37) (tgt := 44) dX7_isA_37 (by decide) (fun c37 => ?_) (fun c37 => ?_)
          · refine cm_iconst (pc := 44) (v := 0) dX7_isA_44 (by decide) ?_
            exact cm_zret (pc := 45) dX7_isA_45 rfl rfl ⟨by simp_all [cm_bi, uA], rfl⟩
          · refine cm_iconst (pc := 40) (v := 1) dX7_isA_40 (by decide) ?_
            refine cm_goto (pc := 41) (tgt := 45) dX7_isA_41 (by decide) ?_
            exact cm_zret (pc := 45) dX7_isA_45 rfl rfl ⟨by simp_all [cm_bi, uA], rfl⟩
set_option maxRecDepth 20000 in
theorem r_isHeld (hE : cm_mdl sh hr e) {i : Nat} {sp nx : Int32} (hi6 : i < 11) : cm_ct D mX7_isHeld d 0 0 [.ref e, .int (nI i), .int sp, .int nx] (sh, cm_us hi e u, hl, hr) (fun r9 h9 => r9 = some (.int (cm_bi (uHeld u i sp nx))) ∧ h9 = (sh, cm_us hi e u, hl, hr)) := by
  refine cm_ct_of (ls := [some (.ref e), some (.int (nI i)), some (.int sp), some (.int nx), none]) 1 (by decide +kernel) rfl rfl ?_
  refine cm_aload0 (pc := 0) dX7_isHeld_0 ?_
  refine cm_getR (pc := 1) flX7_28 dX7_isHeld_1 hE.1 hE.r11 ?_
  refine cm_iload1 (pc := 4) dX7_isHeld_4 ?_
  refine mk_get (pc := 5) dX7_isHeld_5 hE.a7 (by omega) (by decide) ?_
  refine cm_iconst (pc := 6) (v := 4) dX7_isHeld_6 (by decide) ?_
  refine cm_icmp_eq (pc := 7) (tgt := 22) dX7_isHeld_7 (by decide) (fun c7 => ?_) (fun c7 => ?_)
  · refine cm_iconst (pc := 22) (v := 1) dX7_isHeld_22 (by decide) ?_
    refine cm_goto (pc := 23) (tgt := 27) dX7_isHeld_23 (by decide) ?_
    refine cm_istore4 (pc := 27) dX7_isHeld_27 (by decide) rfl ?_
    refine cm_iload3 (pc := 29) dX7_isHeld_29 ?_
    refine cm_iload2 (pc := 30) dX7_isHeld_30 ?_
    refine cm_icmp_le (pc := 31) (tgt := 53) dX7_isHeld_31 (by decide) (fun c31 => ?_) (fun c31 => ?_)
    · refine cm_iconst (pc := 53) (v := 0) dX7_isHeld_53 (by decide) ?_
      exact cm_zret (pc := 54) dX7_isHeld_54 rfl rfl ⟨by simp_all [cm_bi, uHeld], rfl⟩
    · refine cm_iload4 (pc := 34) dX7_isHeld_34 ?_
      refine cm_if_ne (pc := 36) (tgt := 49) dX7_isHeld_36 (by decide) (fun c36 => ?_) (fun c36 => ?_)
      · refine cm_iconst (pc := 49) (v := 1) dX7_isHeld_49 (by decide) ?_
        refine cm_goto (pc := 50) (tgt := 54) dX7_isHeld_50 (by decide) ?_
        exact cm_zret (pc := 54) dX7_isHeld_54 rfl rfl ⟨by simp_all [cm_bi, uHeld], rfl⟩
      · refine cm_iload3 (pc := 39) dX7_isHeld_39 ?_
        refine cm_iload2 (pc := 40) dX7_isHeld_40 ?_
        refine cm_isub (pc := 41) dX7_isHeld_41 ?_
        refine cm_aload0 (pc := 42) dX7_isHeld_42 ?_
        refine mk_fld (pc := 43) flX7_157 dX7_isHeld_43 hE.1 ?_
        refine cm_icmp_gt (pc := 46) (tgt := 53) dX7_isHeld_46 (by decide) (fun c46 => ?_) (fun c46 => ?_)
        · refine cm_iconst (pc := 53) (v := 0) dX7_isHeld_53 (by decide) ?_
          exact cm_zret (pc := 54) dX7_isHeld_54 rfl rfl ⟨by simp_all [cm_bi, uHeld], rfl⟩
        · refine cm_iconst (pc := 49) (v := 1) dX7_isHeld_49 (by decide) ?_
          refine cm_goto (pc := 50) (tgt := 54) dX7_isHeld_50 (by decide) ?_
          exact cm_zret (pc := 54) dX7_isHeld_54 rfl rfl ⟨by simp_all [cm_bi, uHeld], rfl⟩
  · refine cm_aload0 (pc := 10) dX7_isHeld_10 ?_
    refine cm_getR (pc := 11) flX7_28 dX7_isHeld_11 hE.1 hE.r11 ?_
    refine cm_iload1 (pc := 14) dX7_isHeld_14 ?_
    refine cm_iconst (pc := 15) (v := 1) dX7_isHeld_15 (by decide) ?_
    refine cm_iadd (pc := 16) dX7_isHeld_16 ?_
    rw [nI_1]
    refine mk_get (pc := 17) dX7_isHeld_17 hE.a7 (by omega) (by decide) ?_
    refine cm_iconst (pc := 18) (v := 4) dX7_isHeld_18 (by decide) ?_
    refine cm_icmp_ne (pc := 19) (tgt := 26) dX7_isHeld_19 (by decide) (fun c19 => ?_) (fun c19 => ?_)
    · refine cm_iconst (pc := 26) (v := 0) dX7_isHeld_26 (by decide) ?_
      refine cm_istore4 (pc := 27) dX7_isHeld_27 (by decide) rfl ?_
      refine cm_iload3 (pc := 29) dX7_isHeld_29 ?_
      refine cm_iload2 (pc := 30) dX7_isHeld_30 ?_
      refine cm_icmp_le (pc := 31) (tgt := 53) dX7_isHeld_31 (by decide) (fun c31 => ?_) (fun c31 => ?_)
      · refine cm_iconst (pc := 53) (v := 0) dX7_isHeld_53 (by decide) ?_
        exact cm_zret (pc := 54) dX7_isHeld_54 rfl rfl ⟨by simp_all [cm_bi, uHeld], rfl⟩
      · refine cm_iload4 (pc := 34) dX7_isHeld_34 ?_
        refine cm_if_ne (pc := 36) (tgt := 49) dX7_isHeld_36 (by decide) (fun c36 => ?_) (fun c36 => ?_)
        · refine cm_iconst (pc := 49) (v := 1) dX7_isHeld_49 (by decide) ?_
          refine cm_goto (pc := 50) (tgt := 54) dX7_isHeld_50 (by decide) ?_
          exact cm_zret (pc := 54) dX7_isHeld_54 rfl rfl ⟨by simp_all [cm_bi, uHeld], rfl⟩
        · refine cm_iload3 (pc := 39) dX7_isHeld_39 ?_
          refine cm_iload2 (pc := 40) dX7_isHeld_40 ?_
          refine cm_isub (pc := 41) dX7_isHeld_41 ?_
          refine cm_aload0 (pc := 42) dX7_isHeld_42 ?_
          refine mk_fld (pc := 43) flX7_157 dX7_isHeld_43 hE.1 ?_
          refine cm_icmp_gt (pc := 46) (tgt := 53) dX7_isHeld_46 (by decide) (fun c46 => ?_) (fun c46 => ?_)
          · refine cm_iconst (pc := 53) (v := 0) dX7_isHeld_53 (by decide) ?_
            exact cm_zret (pc := 54) dX7_isHeld_54 rfl rfl ⟨by simp_all [cm_bi, uHeld], rfl⟩
          · refine cm_iconst (pc := 49) (v := 1) dX7_isHeld_49 (by decide) ?_
            refine cm_goto (pc := 50) (tgt := 54) dX7_isHeld_50 (by decide) ?_
            exact cm_zret (pc := 54) dX7_isHeld_54 rfl rfl ⟨by simp_all [cm_bi, uHeld], rfl⟩
    · refine cm_iconst (pc := 22) (v := 1) dX7_isHeld_22 (by decide) ?_
      refine cm_goto (pc := 23) (tgt := 27) dX7_isHeld_23 (by decide) ?_
      refine cm_istore4 (pc := 27) dX7_isHeld_27 (by decide) rfl ?_
      refine cm_iload3 (pc := 29) dX7_isHeld_29 ?_
      refine cm_iload2 (pc := 30) dX7_isHeld_30 ?_
      refine cm_icmp_le (pc := 31) (tgt := 53) dX7_isHeld_31 (by decide) (fun c31 => ?_) (fun c31 => ?_)
      · refine cm_iconst (pc := 53) (v := 0) dX7_isHeld_53 (by decide) ?_
        exact cm_zret (pc := 54) dX7_isHeld_54 rfl rfl ⟨by simp_all [cm_bi, uHeld], rfl⟩
      · refine cm_iload4 (pc := 34) dX7_isHeld_34 ?_
        refine cm_if_ne (pc := 36) (tgt := 49) dX7_isHeld_36 (by decide) (fun c36 => ?_) (fun c36 => ?_)
        · refine cm_iconst (pc := 49) (v := 1) dX7_isHeld_49 (by decide) ?_
          refine cm_goto (pc := 50) (tgt := 54) dX7_isHeld_50 (by decide) ?_
          exact cm_zret (pc := 54) dX7_isHeld_54 rfl rfl ⟨by simp_all [cm_bi, uHeld], rfl⟩
        · refine cm_iload3 (pc := 39) dX7_isHeld_39 ?_
          refine cm_iload2 (pc := 40) dX7_isHeld_40 ?_
          refine cm_isub (pc := 41) dX7_isHeld_41 ?_
          refine cm_aload0 (pc := 42) dX7_isHeld_42 ?_
          refine mk_fld (pc := 43) flX7_157 dX7_isHeld_43 hE.1 ?_
          refine cm_icmp_gt (pc := 46) (tgt := 53) dX7_isHeld_46 (by decide) (fun c46 => ?_) (fun c46 => ?_)
          · refine cm_iconst (pc := 53) (v := 0) dX7_isHeld_53 (by decide) ?_
            exact cm_zret (pc := 54) dX7_isHeld_54 rfl rfl ⟨by simp_all [cm_bi, uHeld], rfl⟩
          · refine cm_iconst (pc := 49) (v := 1) dX7_isHeld_49 (by decide) ?_
            refine cm_goto (pc := 50) (tgt := 54) dX7_isHeld_50 (by decide) ?_
            exact cm_zret (pc := 54) dX7_isHeld_54 rfl rfl ⟨by simp_all [cm_bi, uHeld], rfl⟩
set_option maxRecDepth 20000 in
theorem r_sun (hE : cm_mdl sh hr e)  : cm_ct D mX7_sunNow d 0 0 [.ref e] (sh, cm_us hi e u, hl, hr) (fun r9 h9 => r9 = some (.int (uSun u)) ∧ h9 = (sh, cm_us hi e u, hl, hr)) := by
  refine cm_ct_of (ls := [some (.ref e)]) 0 (by decide +kernel) rfl rfl ?_
  refine cm_aload0 (pc := 0) dX7_sunNow_0 ?_
  refine mk_fld (pc := 1) flX7_160 dX7_sunNow_1 hE.1 ?_
  refine cm_bipush (pc := 4) (v := 7) dX7_sunNow_4 (by decide) ?_
  refine cm_irem (pc := 6) dX7_sunNow_6 (by decide) ?_
  refine cm_iconst (pc := 7) (v := 3) dX7_sunNow_7 (by decide) ?_
  refine cm_isub (pc := 8) dX7_sunNow_8 ?_
  exact cm_iret (pc := 9) dX7_sunNow_9 rfl ⟨rfl, rfl⟩
set_option maxRecDepth 20000 in
theorem r_isShaded (hE : cm_mdl sh hr e) {sp mv : Int32} (hb : u 0 9 = nI nb) (hnb : nb ≤ 6) : cm_ct D mX7_isShaded (d + 1) 0 0 [.ref e, .int sp, .int mv] (sh, cm_us hi e u, hl, hr) (fun r9 h9 => r9 = some (.int (cm_bi (uShaded u nb sp mv))) ∧ h9 = (sh, cm_us hi e u, hl, hr)) := by
  refine cm_ct_of (ls := [some (.ref e), some (.int sp), some (.int mv)]) 0 (by decide +kernel) rfl rfl ?_
  refine cm_aload0 (pc := 0) dX7_isShaded_0 ?_
  refine mk_fld (pc := 1) flX7_151 dX7_isShaded_1 hE.1 ?_
  rw [hb]
  refine cm_if_le (pc := 4) (tgt := 37) dX7_isShaded_4 (by decide) (fun c4 => ?_) (fun c4 => ?_)
  · have h0 : nb = 0 := by
      rcases Nat.eq_zero_or_pos nb with q | q
      · exact q
      · exact absurd c4 (nI_nle q (by omega))
    refine cm_iconst (pc := 37) (v := 0) dX7_isShaded_37 (by decide) ?_
    exact cm_zret (pc := 38) dX7_isShaded_38 rfl rfl ⟨by simp [cm_bi, uShaded, *], rfl⟩
  · have h0 : 0 < nb := by
      rcases Nat.eq_zero_or_pos nb with q | q
      · subst q; exact absurd (show nI 0 ≤ 0 by decide) c4
      · exact q
    refine cm_iload1 (pc := 7) dX7_isShaded_7 ?_
    refine cm_iload2 (pc := 8) dX7_isShaded_8 ?_
    refine cm_isub (pc := 9) dX7_isShaded_9 ?_
    refine cm_aload0 (pc := 10) dX7_isShaded_10 ?_
    refine cm_getR (pc := 11) flX7_31 dX7_isShaded_11 hE.1 hE.r12 ?_
    refine cm_iconst (pc := 14) (v := 0) dX7_isShaded_14 (by decide) ?_
    refine mk_getE (pc := 15) (0) dX7_isShaded_15 hE.a8 nI_0.symm (by omega) (by decide) ?_
    refine cm_aload0 (pc := 16) dX7_isShaded_16 ?_
    refine cm_getR (pc := 17) flX7_31 dX7_isShaded_17 hE.1 hE.r12 ?_
    refine cm_aload0 (pc := 20) dX7_isShaded_20 ?_
    refine mk_fld (pc := 21) flX7_151 dX7_isShaded_21 hE.1 ?_
    rw [hb]
    refine cm_iconst (pc := 24) (v := 1) dX7_isShaded_24 (by decide) ?_
    refine cm_isub (pc := 25) dX7_isShaded_25 ?_
    refine mk_getE (pc := 26) (nb - 1) dX7_isShaded_26 hE.a8 (pk_sub (b := 1) h0) (by omega) (by decide) ?_
    refine cm_S3 (pc := 27) mX7_in_s mlX7_83 dX7_isShaded_27 (by omega) (Nat.le_of_ble_eq_true rfl) (Nat.le_refl _) (Nat.le_refl _) (r_in (d := d)) (fun r27 h27 hq27 => ?_)
    obtain ⟨rfl, rfl⟩ := hq27
    refine cm_ifeqB (pc := 30) (tgt := 37) dX7_isShaded_30 (by decide) (fun c30 => ?_) (fun c30 => ?_)
    · refine cm_iconst (pc := 37) (v := 0) dX7_isShaded_37 (by decide) ?_
      exact cm_zret (pc := 38) dX7_isShaded_38 rfl rfl ⟨by simp [cm_bi, uShaded, *], rfl⟩
    · refine cm_iconst (pc := 33) (v := 1) dX7_isShaded_33 (by decide) ?_
      refine cm_goto (pc := 34) (tgt := 38) dX7_isShaded_34 (by decide) ?_
      exact cm_zret (pc := 38) dX7_isShaded_38 rfl rfl ⟨by simp [cm_bi, uShaded, *], rfl⟩
set_option maxRecDepth 20000 in
theorem l_buy (hE : cm_mdl sh hr e) {i : Nat} {mv : Int32} (h : uOk u nb ns) (hi6 : i < nb) : ∀ n k : Nat, k + n = ns → cm_g D mX7_boughtAt (d + 2) 0 0 (fun r9 h9 => r9 = some (.int (cm_oi (uBuy u nb i mv n k))) ∧ h9 = (sh, cm_us hi e u, hl, hr)) 0 0 2 [some (.ref e), some (.int (nI i)), some (.int mv), some (.int (nI k))] [] (sh, cm_us hi e u, hl, hr) := by
  have h0 := h.1
  intro n
  induction n with
  | zero =>
    intro k hk
    refine cm_iload3 (pc := 2) dX7_boughtAt_2 ?_
    refine cm_aload0 (pc := 3) dX7_boughtAt_3 ?_
    refine mk_fld (pc := 4) flX7_154 dX7_boughtAt_4 hE.1 ?_
    rw [h.1.2.2.1]
    refine cm_geN (pc := 7) (tgt := 62) dX7_boughtAt_7 (by decide) (by omega) (by omega) (fun c7 => ?_) (fun c7 => ?_)
    · refine cm_bipush (pc := 62) (v := -9) dX7_boughtAt_62 (by decide) ?_
      exact cm_iret (pc := 64) dX7_boughtAt_64 rfl ⟨rfl, rfl⟩
    · exact absurd c7 (by omega)
  | succ n ih =>
    intro k hk
    refine cm_iload3 (pc := 2) dX7_boughtAt_2 ?_
    refine cm_aload0 (pc := 3) dX7_boughtAt_3 ?_
    refine mk_fld (pc := 4) flX7_154 dX7_boughtAt_4 hE.1 ?_
    rw [h.1.2.2.1]
    refine cm_geN (pc := 7) (tgt := 62) dX7_boughtAt_7 (by decide) (by omega) (by omega) (fun c7 => ?_) (fun c7 => ?_)
    · exact absurd c7 (by omega)
    · refine cm_aload0 (pc := 10) dX7_boughtAt_10 ?_
      refine cm_getR (pc := 11) flX7_40 dX7_boughtAt_11 hE.1 hE.r15 ?_
      refine cm_iload3 (pc := 14) dX7_boughtAt_14 ?_
      refine mk_get (pc := 15) dX7_boughtAt_15 hE.a11 (by omega) (by decide) ?_
      refine cm_aload0 (pc := 16) dX7_boughtAt_16 ?_
      refine cm_getR (pc := 17) flX7_31 dX7_boughtAt_17 hE.1 hE.r12 ?_
      refine cm_iload1 (pc := 20) dX7_boughtAt_20 ?_
      refine mk_get (pc := 21) dX7_boughtAt_21 hE.a8 (by omega) (by decide) ?_
      refine cm_icmp_ne (pc := 22) (tgt := 56) dX7_boughtAt_22 (by decide) (fun c22 => ?_) (fun c22 => ?_)
      · refine cm_incN3 (pc := 56) dX7_boughtAt_56 (by decide) rfl ?_
        refine cm_goto (pc := 59) (tgt := 2) dX7_boughtAt_59 (by decide) ?_
        rw [show uBuy u nb i mv (n + 1) k = uBuy u nb i mv n (k + 1) by simp [uBuy, *]]
        exact ih (k + 1) (by omega)
      · refine cm_aload0 (pc := 25) dX7_boughtAt_25 ?_
        refine cm_getR (pc := 26) flX7_43 dX7_boughtAt_26 hE.1 hE.r16 ?_
        refine cm_iload3 (pc := 29) dX7_boughtAt_29 ?_
        refine mk_get (pc := 30) dX7_boughtAt_30 hE.a12 (by omega) (by decide) ?_
        refine cm_aload0 (pc := 31) dX7_boughtAt_31 ?_
        refine cm_getR (pc := 32) flX7_34 dX7_boughtAt_32 hE.1 hE.r13 ?_
        refine cm_iload1 (pc := 35) dX7_boughtAt_35 ?_
        refine mk_get (pc := 36) dX7_boughtAt_36 hE.a9 (by omega) (by decide) ?_
        refine cm_icmp_ne (pc := 37) (tgt := 56) dX7_boughtAt_37 (by decide) (fun c37 => ?_) (fun c37 => ?_)
        · refine cm_incN3 (pc := 56) dX7_boughtAt_56 (by decide) rfl ?_
          refine cm_goto (pc := 59) (tgt := 2) dX7_boughtAt_59 (by decide) ?_
          rw [show uBuy u nb i mv (n + 1) k = uBuy u nb i mv n (k + 1) by simp [uBuy, *]]
          exact ih (k + 1) (by omega)
        · refine cm_aload0 (pc := 40) dX7_boughtAt_40 ?_
          refine cm_aload0 (pc := 41) dX7_boughtAt_41 ?_
          refine cm_getR (pc := 42) flX7_31 dX7_boughtAt_42 hE.1 hE.r12 ?_
          refine cm_iload1 (pc := 45) dX7_boughtAt_45 ?_
          refine mk_get (pc := 46) dX7_boughtAt_46 hE.a8 (by omega) (by decide) ?_
          refine cm_iload2 (pc := 47) dX7_boughtAt_47 ?_
          refine cm_V2 (pc := 48) mX7_isShaded_v mlX7_234 dX7_boughtAt_48 hE.1 (by omega) (Nat.le_of_ble_eq_true rfl) (Nat.le_refl _) (Nat.le_refl _) (r_isShaded hE (d := d) h.1.1 h.1.2.1) (fun r48 h48 hq48 => ?_)
          obtain ⟨rfl, rfl⟩ := hq48
          refine cm_ifeqB (pc := 51) (tgt := 56) dX7_boughtAt_51 (by decide) (fun c51 => ?_) (fun c51 => ?_)
          · refine cm_incN3 (pc := 56) dX7_boughtAt_56 (by decide) rfl ?_
            refine cm_goto (pc := 59) (tgt := 2) dX7_boughtAt_59 (by decide) ?_
            rw [show uBuy u nb i mv (n + 1) k = uBuy u nb i mv n (k + 1) by simp [uBuy, *]]
            exact ih (k + 1) (by omega)
          · refine cm_iload3 (pc := 54) dX7_boughtAt_54 ?_
            exact cm_iret (pc := 55) dX7_boughtAt_55 rfl ⟨by simp [uBuy, cm_oi, *], rfl⟩
set_option maxRecDepth 20000 in
theorem r_boughtAt (hE : cm_mdl sh hr e) {i : Nat} {mv : Int32} (h : uOk u nb ns) (hi6 : i < nb) : cm_ct D mX7_boughtAt (d + 2) 0 0 [.ref e, .int (nI i), .int mv] (sh, cm_us hi e u, hl, hr) (fun r9 h9 => r9 = some (.int (cm_oi (uBuy u nb i mv ns 0))) ∧ h9 = (sh, cm_us hi e u, hl, hr)) := by
  refine cm_ct_of (ls := [some (.ref e), some (.int (nI i)), some (.int mv), none]) 1 (by decide +kernel) rfl rfl ?_
  refine cm_iconst (pc := 0) (v := 0) dX7_boughtAt_0 (by decide) ?_
  rw [← nI_0]
  refine cm_istore3 (pc := 1) dX7_boughtAt_1 (by decide) rfl ?_
  exact l_buy hE h hi6 ns 0 (by omega)
end MD1
