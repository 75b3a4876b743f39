/-! PART ucalls6: the reference's calls: fewest, turns, tracks asked for -/
def uHd (u : cm_g2) (set : Int32) : Nat → Nat → Nat → Bool
  | 0, _, _ => true
  | n + 1, i, b => if uHas set (nI i) then (if ¬ u 8 i - u 8 b ≤ u 0 8 ∧ ¬ u 7 i = 4 ∧ ¬ u 7 b = 4 then false else uHd u set n (i + 1) i) else uHd u set n (i + 1) b
def uFc (u : cm_g2) (nb : Nat) (b s : Int32) : Bool := decide (s &&& ((1 : Int32) ||| ((1 : Int32) <<< (nI (nb - 1) &&& 31))) = (1 : Int32) ||| ((1 : Int32) <<< (nI (nb - 1) &&& 31))) && (decide (uSz s 10 ≤ uSz b 10) && uHd u s (nb - 1) 1 0)
def uFw (u : cm_g2) (nb : Nat) : Nat → Int32
  | 0 => nI (2 ^ nb - 1)
  | j + 1 => if uFc u nb (uFw u nb j) (nI (2 ^ nb - 1 - j)) then nI (2 ^ nb - 1 - j) else uFw u nb j
theorem uFw_s {u : cm_g2} {nb k s : Nat} (h : 2 ^ nb - 1 - k = s) : uFw u nb (k + 1) = if uFc u nb (uFw u nb k) (nI s) then nI s else uFw u nb k := by subst h; rfl
def uFewest (u : cm_g2) (nb : Nat) : Int32 × cm_g2 := if u 0 9 = 0 then (-4, u) else (uSz (uFw u nb (2 ^ nb - 1)) 10, uAsk u (uFw u nb (2 ^ nb - 1)))
def uTlf (u : cm_g2) (nb ns by_ : Nat) : Int32 := if u 8 0 - nI by_ < 0 then -1 else uSz (uShs u nb (uSun u - nI by_) ns) 10
def uTrt (u : cm_g2) (nb ns by_ : Nat) : Int32 := if 20 ≤ u 8 (nb - 1) + nI by_ then -1 else uSz (uShs u nb (uSun u + nI by_) ns) 10
def uTc (u : cm_g2) (nb ns by_ : Nat) : Int32 := if uTlf u nb ns by_ ≤ uTrt u nb ns by_ then uTrt u nb ns by_ else uTlf u nb ns by_
def uTn (u : cm_g2) (nb ns : Nat) : Nat → Int32 × Int32
  | 0 => (0, uSz (uShs u nb (uSun u) ns) 10)
  | j + 1 => if uTc u nb ns (j + 1) ≤ (uTn u nb ns j).2 then uTn u nb ns j else (nI (j + 1), uTc u nb ns (j + 1))
def uTurns (u : cm_g2) (nb ns : Nat) : Int32 × cm_g2 := if u 0 9 = 0 then (-4, u) else ((uTn u nb ns 19).1, uAsk u (uTn u nb ns 19).2)
def uUnl (u : cm_g2) (r : Nat) : Nat → Nat → Bool
  | 0, _ => false
  | q + 1, k => if u 3 (40 * r + k) = -9 then uUnl u r q (k + 1) else if uIn (u 3 (40 * r + k)) 0 19 then uUnl u r q (k + 1) else true
def uKT (u : cm_g2) (nb : Nat) (set n r : Int32) : Int32 × cm_g2 := if uIn set 0 (nI (2 ^ nb - 1)) = false ∨ uIn n 0 20 = false ∨ uIn r 0 5 = false then (-1, u) else if u 0 9 = 0 then (-4, u) else if uSz set 10 ≤ 5 then (if 0 ≤ (uAR u r).1 then (if u 2 r.toNatClampNeg = u 0 9 then (if uUnl u r.toNatClampNeg nb 0 then (-3, uMeet u 3) else (0, u)) else (-3, uMeet u 5)) else uAR u r) else (-6, u)
theorem nI_dec (q : Nat) : nI (q + 1) + -1 = nI q := by
  rw [← nI_1, Int32.add_assoc, show (1 : Int32) + -1 = 0 by decide, Int32.add_zero]
theorem nI_npos {q : Nat} (h : q + 1 < 2 ^ 31) : ¬ nI (q + 1) ≤ 0 := by
  have z0 : (0 : Int32).toInt = 0 := by decide
  rw [Int32.le_iff_toInt_le, nI_toInt h, z0]
  omega
theorem p2_64 {nb : Nat} (h : nb ≤ 6) : 2 ^ nb ≤ 64 ∧ 0 < 2 ^ nb := ⟨Nat.pow_le_pow_right (n := 2) (by decide) h, Nat.pos_of_ne_zero (by simp)⟩
section U6
variable {D : cm_D} {d : Nat} {sh : List cm_Sh} {hi u : cm_g2} {hl : Nat → Nat → Int64} {hr : Nat → Nat → Option Nat} {e nb ns : Nat}
set_option maxRecDepth 20000 in
theorem r_isSpan  {n : Int32} {h : cm_H} : cm_ct D mX7_isSpan (d + 1) 0 0 [.int n] h (fun r9 h9 => r9 = some (.int (cm_bi (uIn n 0 20))) ∧ h9 = h) := by
  refine cm_ct_of (ls := [some (.int n)]) 0 (by decide +kernel) rfl rfl ?_
  refine cm_iload0 (pc := 0) dX7_isSpan_0 ?_
  refine cm_iconst (pc := 1) (v := 0) dX7_isSpan_1 (by decide) ?_
  refine cm_bipush (pc := 2) (v := 20) dX7_isSpan_2 (by decide) ?_
  refine cm_S3 (pc := 4) mX7_in_s mlX7_83 dX7_isSpan_4 (by omega) (Nat.le_of_ble_eq_true rfl) (Nat.le_refl _) (Nat.le_refl _) (r_in (d := d)) (fun r4 h4 hq4 => ?_)
  obtain ⟨rfl, rfl⟩ := hq4
  exact cm_zret (pc := 7) dX7_isSpan_7 rfl (cm_nb _) ⟨rfl, rfl⟩
set_option maxRecDepth 20000 in
theorem l_rhold (hE : cm_mdl sh hr e) {set : Int32} (h : uOk u nb ns) : ∀ q k : Nat, k + q = nb → ∀ b : Nat, b < nb → uHd u set (nb - 1) 1 0 = uHd u set q k b → cm_g D mX7_holds (d + 1) 0 0 (fun r9 h9 => r9 = some (.int (cm_bi (uHd u set (nb - 1) 1 0))) ∧ h9 = (sh, cm_us hi e u, hl, hr)) 0 0 4 [some (.ref e), some (.int set), some (.int (nI b)), some (.int (nI k))] [] (sh, cm_us hi e u, hl, hr) := by
  have hnb := h.1.2.1
  have hns := h.1.2.2.2
  intro q
  induction q with
  | zero =>
    intro k hk b hb hf
    have h1 : k = nb := by omega
    subst h1
    refine cm_iload3 (pc := 4) dX7_holds_4 ?_
    refine cm_aload0 (pc := 5) dX7_holds_5 ?_
    refine mk_fld (pc := 6) flX7_151 dX7_holds_6 hE.1 ?_
    rw [h.1.1]
    refine cm_geN (pc := 9) (tgt := 70) dX7_holds_9 (by decide) (by omega) (by omega) (fun c9 => ?_) (fun c9 => ?_)
    · refine cm_iconst (pc := 70) (v := 1) dX7_holds_70 (by decide) ?_
      exact cm_zret (pc := 71) dX7_holds_71 rfl rfl ⟨by rw [hf]; rfl, rfl⟩
    · exact absurd c9 (by omega)
  | succ q ih =>
    intro k hk b hb hf
    have hst := ih (k + 1) (by omega)
    refine cm_iload3 (pc := 4) dX7_holds_4 ?_
    refine cm_aload0 (pc := 5) dX7_holds_5 ?_
    refine mk_fld (pc := 6) flX7_151 dX7_holds_6 hE.1 ?_
    rw [h.1.1]
    refine cm_geN (pc := 9) (tgt := 70) dX7_holds_9 (by decide) (by omega) (by omega) (fun c9 => ?_) (fun c9 => ?_)
    · exact absurd c9 (by omega)
    · refine cm_iload1 (pc := 12) dX7_holds_12 ?_
      refine cm_iload3 (pc := 13) dX7_holds_13 ?_
      refine cm_S2 (pc := 14) mX7_has_s mlX7_207 dX7_holds_14 (by omega) (Nat.le_of_ble_eq_true rfl) (Nat.le_refl _) (Nat.le_refl _) (r_has (d := d)) (fun r14 h14 hq14 => ?_)
      obtain ⟨rfl, rfl⟩ := hq14
      refine cm_ifeqB (pc := 17) (tgt := 64) dX7_holds_17 (by decide) (fun c17 => ?_) (fun c17 => ?_)
      · refine cm_incN3 (pc := 64) dX7_holds_64 (by decide) rfl ?_
        refine cm_goto (pc := 67) (tgt := 4) dX7_holds_67 (by decide) ?_
        exact hst b hb (by rw [hf]; show (if _ then (if _ then false else _) else _) = _; rw [if_neg (by rw [c17]; decide)])
      · refine cm_aload0 (pc := 20) dX7_holds_20 ?_
        refine cm_getR (pc := 21) flX7_31 dX7_holds_21 hE.1 hE.r12 ?_
        refine cm_iload3 (pc := 24) dX7_holds_24 ?_
        refine mk_get (pc := 25) dX7_holds_25 hE.a8 (by omega) (by decide) ?_
        refine cm_aload0 (pc := 26) dX7_holds_26 ?_
        refine cm_getR (pc := 27) flX7_31 dX7_holds_27 hE.1 hE.r12 ?_
        refine cm_iload2 (pc := 30) dX7_holds_30 ?_
        refine mk_get (pc := 31) dX7_holds_31 hE.a8 (by omega) (by decide) ?_
        refine cm_isub (pc := 32) dX7_holds_32 ?_
        refine cm_aload0 (pc := 33) dX7_holds_33 ?_
        refine mk_fld (pc := 34) flX7_157 dX7_holds_34 hE.1 ?_
        refine cm_icmp_le (pc := 37) (tgt := 62) dX7_holds_37 (by decide) (fun c37 => ?_) (fun c37 => ?_)
        · refine cm_iload3 (pc := 62) dX7_holds_62 ?_
          refine cm_istore2 (pc := 63) dX7_holds_63 (by decide) rfl ?_
          refine cm_incN3 (pc := 64) dX7_holds_64 (by decide) rfl ?_
          refine cm_goto (pc := 67) (tgt := 4) dX7_holds_67 (by decide) ?_
          exact hst k (by omega) (by rw [hf]; show (if _ then (if _ then false else _) else _) = _; rw [if_pos c17, if_neg (fun w => w.1 c37)])
        · refine cm_aload0 (pc := 40) dX7_holds_40 ?_
          refine cm_getR (pc := 41) flX7_28 dX7_holds_41 hE.1 hE.r11 ?_
          refine cm_iload3 (pc := 44) dX7_holds_44 ?_
          refine mk_get (pc := 45) dX7_holds_45 hE.a7 (by omega) (by decide) ?_
          refine cm_iconst (pc := 46) (v := 4) dX7_holds_46 (by decide) ?_
          refine cm_icmp_eq (pc := 47) (tgt := 62) dX7_holds_47 (by decide) (fun c47 => ?_) (fun c47 => ?_)
          · refine cm_iload3 (pc := 62) dX7_holds_62 ?_
            refine cm_istore2 (pc := 63) dX7_holds_63 (by decide) rfl ?_
            refine cm_incN3 (pc := 64) dX7_holds_64 (by decide) rfl ?_
            refine cm_goto (pc := 67) (tgt := 4) dX7_holds_67 (by decide) ?_
            exact hst k (by omega) (by rw [hf]; show (if _ then (if _ then false else _) else _) = _; rw [if_pos c17, if_neg (fun w => w.2.1 c47)])
          · refine cm_aload0 (pc := 50) dX7_holds_50 ?_
            refine cm_getR (pc := 51) flX7_28 dX7_holds_51 hE.1 hE.r11 ?_
            refine cm_iload2 (pc := 54) dX7_holds_54 ?_
            refine mk_get (pc := 55) dX7_holds_55 hE.a7 (by omega) (by decide) ?_
            refine cm_iconst (pc := 56) (v := 4) dX7_holds_56 (by decide) ?_
            refine cm_icmp_eq (pc := 57) (tgt := 62) dX7_holds_57 (by decide) (fun c57 => ?_) (fun c57 => ?_)
            · refine cm_iload3 (pc := 62) dX7_holds_62 ?_
              refine cm_istore2 (pc := 63) dX7_holds_63 (by decide) rfl ?_
              refine cm_incN3 (pc := 64) dX7_holds_64 (by decide) rfl ?_
              refine cm_goto (pc := 67) (tgt := 4) dX7_holds_67 (by decide) ?_
              exact hst k (by omega) (by rw [hf]; show (if _ then (if _ then false else _) else _) = _; rw [if_pos c17, if_neg (fun w => w.2.2 c57)])
            · refine cm_iconst (pc := 60) (v := 0) dX7_holds_60 (by decide) ?_
              exact cm_zret (pc := 61) dX7_holds_61 rfl rfl ⟨by rw [hf]; show _ = some (Value.int (cm_bi (if _ then (if _ then false else _) else _))); rw [if_pos c17, if_pos ⟨c37, c47, c57⟩]; rfl, rfl⟩
set_option maxRecDepth 20000 in
theorem r_holds (hE : cm_mdl sh hr e) {set : Int32} (h : uOk u nb ns) (h0 : 0 < nb) : cm_ct D mX7_holds (d + 1) 0 0 [.ref e, .int set] (sh, cm_us hi e u, hl, hr) (fun r9 h9 => r9 = some (.int (cm_bi (uHd u set (nb - 1) 1 0))) ∧ h9 = (sh, cm_us hi e u, hl, hr)) := by
  refine cm_ct_of (ls := [some (.ref e), some (.int set), none, none]) 2 (by decide +kernel) rfl rfl ?_
  refine cm_iconst (pc := 0) (v := 0) dX7_holds_0 (by decide) ?_
  refine cm_istore2 (pc := 1) dX7_holds_1 (by decide) rfl ?_
  refine cm_iconst (pc := 2) (v := 1) dX7_holds_2 (by decide) ?_
  refine cm_istore3 (pc := 3) dX7_holds_3 (by decide) rfl ?_
  exact l_rhold hE h (nb - 1) 1 (by omega) 0 (by omega) rfl
set_option maxRecDepth 20000 in
theorem l_rfew (hE : cm_mdl sh hr e) (h : uOk u nb ns) (h0 : 0 < nb) : ∀ q k : Nat, k + q = (2 ^ nb - 1) → cm_g D mX7_fewest (d + 2) 0 0 (fun r9 h9 => r9 = some (.int (uSz (uFw u nb (2 ^ nb - 1)) 10)) ∧ h9 = (sh, cm_us hi e (uAsk u (uFw u nb (2 ^ nb - 1))), hl, hr)) 0 0 32 [some (.ref e), some (.int ((1 : Int32) ||| ((1 : Int32) <<< (nI (nb - 1) &&& 31)))), some (.int (uFw u nb k)), some (.int (nI q))] [] (sh, cm_us hi e u, hl, hr) := by
  have hnb := h.1.2.1
  have hns := h.1.2.2.2
  have hp := p2_64 hnb
  intro q
  induction q with
  | zero =>
    intro k hk
    have h1 : k = 2 ^ nb - 1 := by omega
    rw [h1]
    refine cm_iload3 (pc := 32) dX7_fewest_32 ?_
    refine cm_if_le (pc := 33) (tgt := 70) dX7_fewest_33 (by decide) (fun c33 => ?_) (fun q => absurd (by decide) q)
    refine cm_aload0 (pc := 70) dX7_fewest_70 ?_
    refine cm_iload2 (pc := 71) dX7_fewest_71 ?_
    refine cm_iload2 (pc := 72) dX7_fewest_72 ?_
    refine cm_S1 (pc := 73) mX7_sizeOf_s mlX7_192 dX7_fewest_73 (by omega) (Nat.le_of_ble_eq_true rfl) (Nat.le_refl _) (Nat.le_refl _) (r_sizeOf (d := d + 1) ) (fun r73 h73 hq73 => ?_)
    obtain ⟨rfl, rfl⟩ := hq73
    refine cm_V2 (pc := 76) mX7_ask_v mlX7_109 dX7_fewest_76 hE.1 (by omega) (Nat.le_of_ble_eq_true rfl) (Nat.le_refl _) (Nat.le_refl _) (r_ask (d := d + 1) hE) (fun r76 h76 hq76 => ?_)
    obtain ⟨rfl, rfl⟩ := hq76
    exact cm_iret (pc := 79) dX7_fewest_79 rfl ⟨rfl, rfl⟩
  | succ q ih =>
    intro k hk
    have hst := ih (k + 1) (by omega)
    refine cm_iload3 (pc := 32) dX7_fewest_32 ?_
    refine cm_if_le (pc := 33) (tgt := 70) dX7_fewest_33 (by decide) (fun q => absurd q (nI_npos (by omega))) (fun c33 => ?_)
    refine cm_iload3 (pc := 36) dX7_fewest_36 ?_
    refine cm_iload1 (pc := 37) dX7_fewest_37 ?_
    refine cm_iand (pc := 38) dX7_fewest_38 ?_
    refine cm_iload1 (pc := 39) dX7_fewest_39 ?_
    refine cm_icmp_ne (pc := 40) (tgt := 64) dX7_fewest_40 (by decide) (fun c40 => ?_) (fun c40 => ?_)
    · refine cm_iinc3 (pc := 64) (-1) dX7_fewest_64 rfl (by decide) rfl ?_
      rw [nI_dec]
      refine cm_goto (pc := 67) (tgt := 32) dX7_fewest_67 (by decide) ?_
      rw [uFw_s (s := q + 1) (by omega), if_neg (by simp [uFc, c40])] at hst
      exact hst
    · refine cm_iload3 (pc := 43) dX7_fewest_43 ?_
      refine cm_S1 (pc := 44) mX7_sizeOf_s mlX7_192 dX7_fewest_44 (by omega) (Nat.le_of_ble_eq_true rfl) (Nat.le_refl _) (Nat.le_refl _) (r_sizeOf (d := d + 1) ) (fun r44 h44 hq44 => ?_)
      obtain ⟨rfl, rfl⟩ := hq44
      refine cm_iload2 (pc := 47) dX7_fewest_47 ?_
      refine cm_S1 (pc := 48) mX7_sizeOf_s mlX7_192 dX7_fewest_48 (by omega) (Nat.le_of_ble_eq_true rfl) (Nat.le_refl _) (Nat.le_refl _) (r_sizeOf (d := d + 1) ) (fun r48 h48 hq48 => ?_)
      obtain ⟨rfl, rfl⟩ := hq48
      refine cm_icmp_gt (pc := 51) (tgt := 64) dX7_fewest_51 (by decide) (fun c51 => ?_) (fun c51 => ?_)
      · refine cm_iinc3 (pc := 64) (-1) dX7_fewest_64 rfl (by decide) rfl ?_
        rw [nI_dec]
        refine cm_goto (pc := 67) (tgt := 32) dX7_fewest_67 (by decide) ?_
        rw [uFw_s (s := q + 1) (by omega), if_neg (by simp [uFc, show ¬ uSz (nI (q + 1)) 10 ≤ uSz (uFw u nb k) 10 from Int32.not_le.mpr c51])] at hst
        exact hst
      · refine cm_aload0 (pc := 54) dX7_fewest_54 ?_
        refine cm_iload3 (pc := 55) dX7_fewest_55 ?_
        refine cm_V1 (pc := 56) mX7_holds_v mlX7_292 dX7_fewest_56 hE.1 (by omega) (Nat.le_of_ble_eq_true rfl) (Nat.le_refl _) (Nat.le_refl _) (r_holds (d := d) hE h h0) (fun r56 h56 hq56 => ?_)
        obtain ⟨rfl, rfl⟩ := hq56
        refine cm_ifeqB (pc := 59) (tgt := 64) dX7_fewest_59 (by decide) (fun c59 => ?_) (fun c59 => ?_)
        · refine cm_iinc3 (pc := 64) (-1) dX7_fewest_64 rfl (by decide) rfl ?_
          rw [nI_dec]
          refine cm_goto (pc := 67) (tgt := 32) dX7_fewest_67 (by decide) ?_
          rw [uFw_s (s := q + 1) (by omega), if_neg (by simp [uFc, c59])] at hst
          exact hst
        · refine cm_iload3 (pc := 62) dX7_fewest_62 ?_
          refine cm_istore2 (pc := 63) dX7_fewest_63 (by decide) rfl ?_
          refine cm_iinc3 (pc := 64) (-1) dX7_fewest_64 rfl (by decide) rfl ?_
          rw [nI_dec]
          refine cm_goto (pc := 67) (tgt := 32) dX7_fewest_67 (by decide) ?_
          rw [uFw_s (s := q + 1) (by omega), if_pos (by simp [uFc, c40, c59, show uSz (nI (q + 1)) 10 ≤ uSz (uFw u nb k) 10 from Int32.not_lt.mp c51])] at hst
          exact hst
set_option maxRecDepth 20000 in
theorem r_fewest (hE : cm_mdl sh hr e) (h : uOk u nb ns) : cm_ct D mX7_fewest (d + 2) 0 0 [.ref e] (sh, cm_us hi e u, hl, hr) (fun r9 h9 => r9 = some (.int (uFewest u nb).1) ∧ h9 = (sh, cm_us hi e (uFewest u nb).2, hl, hr)) := by
  have hnb := h.1.2.1
  have hns := h.1.2.2.2
  refine cm_ct_of (ls := [some (.ref e), none, none, none]) 3 (by decide +kernel) rfl rfl ?_
  refine cm_aload0 (pc := 0) dX7_fewest_0 ?_
  refine mk_fld (pc := 1) flX7_151 dX7_fewest_1 hE.1 ?_
  refine cm_if_ne (pc := 4) (tgt := 10) dX7_fewest_4 (by decide) (fun c4 => ?_) (fun c4 => ?_)
  · have h0 : 0 < nb := by
      rcases Nat.eq_zero_or_pos nb with w | w
      · subst w; exact absurd h.1.1 c4
      · exact w
    refine cm_iconst (pc := 10) (v := 1) dX7_fewest_10 (by decide) ?_
    refine cm_iconst (pc := 11) (v := 1) dX7_fewest_11 (by decide) ?_
    refine cm_aload0 (pc := 12) dX7_fewest_12 ?_
    refine mk_fld (pc := 13) flX7_151 dX7_fewest_13 hE.1 ?_
    rw [h.1.1]
    refine cm_iconst (pc := 16) (v := 1) dX7_fewest_16 (by decide) ?_
    refine cm_isub (pc := 17) dX7_fewest_17 ?_
    rw [show nI nb - 1 = nI (nb - 1) from pk_sub (b := 1) (by omega)]
    refine cm_ishl (pc := 18) dX7_fewest_18 ?_
    refine cm_ior (pc := 19) dX7_fewest_19 ?_
    refine cm_istore1 (pc := 20) dX7_fewest_20 (by decide) rfl ?_
    refine cm_iconst (pc := 21) (v := 1) dX7_fewest_21 (by decide) ?_
    refine cm_aload0 (pc := 22) dX7_fewest_22 ?_
    refine mk_fld (pc := 23) flX7_151 dX7_fewest_23 hE.1 ?_
    rw [h.1.1]
    refine cm_ishl (pc := 26) dX7_fewest_26 ?_
    refine cm_iconst (pc := 27) (v := 1) dX7_fewest_27 (by decide) ?_
    refine cm_isub (pc := 28) dX7_fewest_28 ?_
    rw [all_nI nb hnb]
    refine cm_istore2 (pc := 29) dX7_fewest_29 (by decide) rfl ?_
    refine cm_iload2 (pc := 30) dX7_fewest_30 ?_
    refine cm_istore3 (pc := 31) dX7_fewest_31 (by decide) rfl ?_
    refine cm_g_imp (fun r9 h9 q => ?_) (l_rfew hE h h0 (2 ^ nb - 1) 0 (by omega))
    unfold uFewest
    rw [if_neg c4]
    exact q
  · refine cm_bipush (pc := 7) (v := -4) dX7_fewest_7 (by decide) ?_
    exact cm_iret (pc := 9) dX7_fewest_9 rfl ⟨by simp [uFewest, *], by simp [uFewest, *]⟩
set_option maxRecDepth 20000 in
set_option maxHeartbeats 1000000 in
theorem l_rturns (hE : cm_mdl sh hr e) (h : uOk u nb ns) (h0 : 0 < nb) : ∀ q k : Nat, k + q = 19 → ∀ x4 x5 x6 : Option Value, cm_g D mX7_turns (d + 3) 0 0 (fun r9 h9 => r9 = some (.int (uTn u nb ns 19).1) ∧ h9 = (sh, cm_us hi e (uAsk u (uTn u nb ns 19).2), hl, hr)) 0 0 26 [some (.ref e), some (.int (uTn u nb ns k).1), some (.int (uTn u nb ns k).2), some (.int (nI (k + 1))), x4, x5, x6] [] (sh, cm_us hi e u, hl, hr) := by
  have hnb := h.1.2.1
  have hns := h.1.2.2.2
  intro q
  induction q with
  | zero =>
    intro k hk x4 x5 x6
    have h1 : k = 19 := by omega
    subst h1
    refine cm_iload3 (pc := 26) dX7_turns_26 ?_
    refine cm_bipush (pc := 27) (v := 20) dX7_turns_27 (by decide) ?_
    refine cm_icmp_ge (pc := 29) (tgt := 146) dX7_turns_29 (by decide) (fun c29 => ?_) (fun q => absurd (by decide) q)
    refine cm_aload0 (pc := 146) dX7_turns_146 ?_
    refine cm_iload2 (pc := 147) dX7_turns_147 ?_
    refine cm_iload1 (pc := 148) dX7_turns_148 ?_
    refine cm_V2 (pc := 149) mX7_ask_v mlX7_109 dX7_turns_149 hE.1 (by omega) (Nat.le_of_ble_eq_true rfl) (Nat.le_refl _) (Nat.le_refl _) (r_ask (d := d + 2) hE) (fun r149 h149 hq149 => ?_)
    obtain ⟨rfl, rfl⟩ := hq149
    exact cm_iret (pc := 152) dX7_turns_152 rfl ⟨rfl, rfl⟩
  | succ q ih =>
    intro k hk x4 x5 x6
    have hst := ih (k + 1) (by omega)
    have k115 : cm_g D mX7_turns (d + 3) 0 0 (fun r9 h9 => r9 = some (.int (uTn u nb ns 19).1) ∧ h9 = (sh, cm_us hi e (uAsk u (uTn u nb ns 19).2), hl, hr)) 0 0 115 [some (.ref e), some (.int (uTn u nb ns k).1), some (.int (uTn u nb ns k).2), some (.int (nI (k + 1))), some (.int (uTlf u nb ns (k + 1))), some (.int (uTrt u nb ns (k + 1))), some (.int (uTc u nb ns (k + 1)))] [] (sh, cm_us hi e u, hl, hr) := by
      refine cm_iload6 (pc := 115) dX7_turns_115 ?_
      refine cm_iload2 (pc := 117) dX7_turns_117 ?_
      refine cm_icmp_le (pc := 118) (tgt := 125) dX7_turns_118 (by decide) (fun c118 => ?_) (fun c118 => ?_)
      · refine cm_iload1 (pc := 125) dX7_turns_125 ?_
        refine cm_istore1 (pc := 126) dX7_turns_126 (by decide) rfl ?_
        refine cm_iload6 (pc := 127) dX7_turns_127 ?_
        refine cm_iload2 (pc := 129) dX7_turns_129 ?_
        refine cm_icmp_le (pc := 130) (tgt := 138) dX7_turns_130 (by decide) (fun c130 => ?_) (fun c130 => ?_)
        · refine cm_iload2 (pc := 138) dX7_turns_138 ?_
          refine cm_istore2 (pc := 139) dX7_turns_139 (by decide) rfl ?_
          refine cm_incN3 (pc := 140) dX7_turns_140 (by decide) rfl ?_
          refine cm_goto (pc := 143) (tgt := 26) dX7_turns_143 (by decide) ?_
          have e9 : uTn u nb ns (k + 1) = uTn u nb ns k := by
            show (if uTc u nb ns (k + 1) ≤ (uTn u nb ns k).2 then _ else _) = _
            rw [if_pos c118]
          rw [e9] at hst
          exact hst (some (.int (uTlf u nb ns (k + 1)))) (some (.int (uTrt u nb ns (k + 1)))) (some (.int (uTc u nb ns (k + 1))))
        · refine cm_iload6 (pc := 133) dX7_turns_133 ?_
          refine cm_goto (pc := 135) (tgt := 139) dX7_turns_135 (by decide) ?_
          refine cm_istore2 (pc := 139) dX7_turns_139 (by decide) rfl ?_
          refine cm_incN3 (pc := 140) dX7_turns_140 (by decide) rfl ?_
          refine cm_goto (pc := 143) (tgt := 26) dX7_turns_143 (by decide) ?_
          exact absurd c118 c130
      · refine cm_iload3 (pc := 121) dX7_turns_121 ?_
        refine cm_goto (pc := 122) (tgt := 126) dX7_turns_122 (by decide) ?_
        refine cm_istore1 (pc := 126) dX7_turns_126 (by decide) rfl ?_
        refine cm_iload6 (pc := 127) dX7_turns_127 ?_
        refine cm_iload2 (pc := 129) dX7_turns_129 ?_
        refine cm_icmp_le (pc := 130) (tgt := 138) dX7_turns_130 (by decide) (fun c130 => ?_) (fun c130 => ?_)
        · refine cm_iload2 (pc := 138) dX7_turns_138 ?_
          refine cm_istore2 (pc := 139) dX7_turns_139 (by decide) rfl ?_
          refine cm_incN3 (pc := 140) dX7_turns_140 (by decide) rfl ?_
          refine cm_goto (pc := 143) (tgt := 26) dX7_turns_143 (by decide) ?_
          exact absurd c130 c118
        · refine cm_iload6 (pc := 133) dX7_turns_133 ?_
          refine cm_goto (pc := 135) (tgt := 139) dX7_turns_135 (by decide) ?_
          refine cm_istore2 (pc := 139) dX7_turns_139 (by decide) rfl ?_
          refine cm_incN3 (pc := 140) dX7_turns_140 (by decide) rfl ?_
          refine cm_goto (pc := 143) (tgt := 26) dX7_turns_143 (by decide) ?_
          have e9 : uTn u nb ns (k + 1) = (nI (k + 1), uTc u nb ns (k + 1)) := by
            show (if uTc u nb ns (k + 1) ≤ (uTn u nb ns k).2 then _ else _) = _
            rw [if_neg c118]
          rw [e9] at hst
          exact hst (some (.int (uTlf u nb ns (k + 1)))) (some (.int (uTrt u nb ns (k + 1)))) (some (.int (uTc u nb ns (k + 1))))
    have k99 : cm_g D mX7_turns (d + 3) 0 0 (fun r9 h9 => r9 = some (.int (uTn u nb ns 19).1) ∧ h9 = (sh, cm_us hi e (uAsk u (uTn u nb ns 19).2), hl, hr)) 0 0 99 [some (.ref e), some (.int (uTn u nb ns k).1), some (.int (uTn u nb ns k).2), some (.int (nI (k + 1))), some (.int (uTlf u nb ns (k + 1))), some (.int (uTrt u nb ns (k + 1))), x6] [] (sh, cm_us hi e u, hl, hr) := by
      refine cm_iload4 (pc := 99) dX7_turns_99 ?_
      refine cm_iload5 (pc := 101) dX7_turns_101 ?_
      refine cm_icmp_le (pc := 103) (tgt := 111) dX7_turns_103 (by decide) (fun c103 => ?_) (fun c103 => ?_)
      · refine cm_iload5 (pc := 111) dX7_turns_111 ?_
        refine cm_istore6 (pc := 113) dX7_turns_113 (by decide) rfl ?_
        have e8 : uTc u nb ns (k + 1) = uTrt u nb ns (k + 1) := if_pos c103
        rw [e8] at k115
        exact k115
      · refine cm_iload4 (pc := 106) dX7_turns_106 ?_
        refine cm_goto (pc := 108) (tgt := 113) dX7_turns_108 (by decide) ?_
        refine cm_istore6 (pc := 113) dX7_turns_113 (by decide) rfl ?_
        have e8 : uTc u nb ns (k + 1) = uTlf u nb ns (k + 1) := if_neg c103
        rw [e8] at k115
        exact k115
    have k97 : cm_g D mX7_turns (d + 3) 0 0 (fun r9 h9 => r9 = some (.int (uTn u nb ns 19).1) ∧ h9 = (sh, cm_us hi e (uAsk u (uTn u nb ns 19).2), hl, hr)) 0 0 97 [some (.ref e), some (.int (uTn u nb ns k).1), some (.int (uTn u nb ns k).2), some (.int (nI (k + 1))), some (.int (uTlf u nb ns (k + 1))), x5, x6] [.int (uTrt u nb ns (k + 1))] (sh, cm_us hi e u, hl, hr) := by
      exact cm_istore5 (pc := 97) dX7_turns_97 (by decide) rfl k99
    have k62 : cm_g D mX7_turns (d + 3) 0 0 (fun r9 h9 => r9 = some (.int (uTn u nb ns 19).1) ∧ h9 = (sh, cm_us hi e (uAsk u (uTn u nb ns 19).2), hl, hr)) 0 0 62 [some (.ref e), some (.int (uTn u nb ns k).1), some (.int (uTn u nb ns k).2), some (.int (nI (k + 1))), some (.int (uTlf u nb ns (k + 1))), x5, x6] [] (sh, cm_us hi e u, hl, hr) := by
      refine cm_aload0 (pc := 62) dX7_turns_62 ?_
      refine cm_getR (pc := 63) flX7_31 dX7_turns_63 hE.1 hE.r12 ?_
      refine cm_aload0 (pc := 66) dX7_turns_66 ?_
      refine mk_fld (pc := 67) flX7_151 dX7_turns_67 hE.1 ?_
      refine cm_top_eq h.1.1 ?_
      refine cm_iconst (pc := 70) (v := 1) dX7_turns_70 (by decide) ?_
      refine cm_isub (pc := 71) dX7_turns_71 ?_
      rw [show nI nb - 1 = nI (nb - 1) from pk_sub (b := 1) (by omega)]
      refine mk_get (pc := 72) dX7_turns_72 hE.a8 (by omega) (by decide) ?_
      refine cm_iload3 (pc := 73) dX7_turns_73 ?_
      refine cm_iadd (pc := 74) dX7_turns_74 ?_
      refine cm_bipush (pc := 75) (v := 20) dX7_turns_75 (by decide) ?_
      refine cm_icmp_ge (pc := 77) (tgt := 96) dX7_turns_77 (by decide) (fun c77 => ?_) (fun c77 => ?_)
      · refine cm_iconst (pc := 96) (v := -1) dX7_turns_96 (by decide) ?_
        have e8 : uTrt u nb ns (k + 1) = -1 := if_pos c77
        rw [e8] at k97
        exact k97
      · refine cm_aload0 (pc := 80) dX7_turns_80 ?_
        refine cm_aload0 (pc := 81) dX7_turns_81 ?_
        refine cm_V0 (pc := 82) mX7_sunNow_v mlX7_224 dX7_turns_82 hE.1 (by omega) (Nat.le_of_ble_eq_true rfl) (Nat.le_refl _) (Nat.le_refl _) (r_sun (d := d + 2) hE) (fun r82 h82 hq82 => ?_)
        obtain ⟨rfl, rfl⟩ := hq82
        refine cm_iload3 (pc := 85) dX7_turns_85 ?_
        refine cm_iadd (pc := 86) dX7_turns_86 ?_
        refine cm_V1 (pc := 87) mX7_shadedBy_v mlX7_247 dX7_turns_87 hE.1 (by omega) (Nat.le_of_ble_eq_true rfl) (Nat.le_refl _) (Nat.le_refl _) (r_shadedBy (d := d) hE h) (fun r87 h87 hq87 => ?_)
        obtain ⟨rfl, rfl⟩ := hq87
        refine cm_S1 (pc := 90) mX7_sizeOf_s mlX7_192 dX7_turns_90 (by omega) (Nat.le_of_ble_eq_true rfl) (Nat.le_refl _) (Nat.le_refl _) (r_sizeOf (d := d + 2)) (fun r90 h90 hq90 => ?_)
        obtain ⟨rfl, rfl⟩ := hq90
        refine cm_goto (pc := 93) (tgt := 97) dX7_turns_93 (by decide) ?_
        have e8 : uTrt u nb ns (k + 1) = uSz (uShs u nb (uSun u + nI (k + 1)) ns) 10 := if_neg c77
        rw [e8] at k97
        exact k97
    have k60 : cm_g D mX7_turns (d + 3) 0 0 (fun r9 h9 => r9 = some (.int (uTn u nb ns 19).1) ∧ h9 = (sh, cm_us hi e (uAsk u (uTn u nb ns 19).2), hl, hr)) 0 0 60 [some (.ref e), some (.int (uTn u nb ns k).1), some (.int (uTn u nb ns k).2), some (.int (nI (k + 1))), x4, x5, x6] [.int (uTlf u nb ns (k + 1))] (sh, cm_us hi e u, hl, hr) := by
      exact cm_istore4 (pc := 60) dX7_turns_60 (by decide) rfl k62
    refine cm_iload3 (pc := 26) dX7_turns_26 ?_
    refine cm_bipush (pc := 27) (v := 20) dX7_turns_27 (by decide) ?_
    refine cm_icmp_ge (pc := 29) (tgt := 146) dX7_turns_29 (by decide) (fun q => absurd q (nI_ge (a := k + 1) (b := 20) (by omega) (by omega))) (fun c29 => ?_)
    refine cm_aload0 (pc := 32) dX7_turns_32 ?_
    refine cm_getR (pc := 33) flX7_31 dX7_turns_33 hE.1 hE.r12 ?_
    refine cm_iconst (pc := 36) (v := 0) dX7_turns_36 (by decide) ?_
    refine mk_getE (pc := 37) (0) dX7_turns_37 hE.a8 rfl (by omega) (by decide) ?_
    refine cm_iload3 (pc := 38) dX7_turns_38 ?_
    refine cm_isub (pc := 39) dX7_turns_39 ?_
    refine cm_if_lt (pc := 40) (tgt := 59) dX7_turns_40 (by decide) (fun c40 => ?_) (fun c40 => ?_)
    · refine cm_iconst (pc := 59) (v := -1) dX7_turns_59 (by decide) ?_
      have e8 : uTlf u nb ns (k + 1) = -1 := if_pos c40
      rw [e8] at k60
      exact k60
    · refine cm_aload0 (pc := 43) dX7_turns_43 ?_
      refine cm_aload0 (pc := 44) dX7_turns_44 ?_
      refine cm_V0 (pc := 45) mX7_sunNow_v mlX7_224 dX7_turns_45 hE.1 (by omega) (Nat.le_of_ble_eq_true rfl) (Nat.le_refl _) (Nat.le_refl _) (r_sun (d := d + 2) hE) (fun r45 h45 hq45 => ?_)
      obtain ⟨rfl, rfl⟩ := hq45
      refine cm_iload3 (pc := 48) dX7_turns_48 ?_
      refine cm_isub (pc := 49) dX7_turns_49 ?_
      refine cm_V1 (pc := 50) mX7_shadedBy_v mlX7_247 dX7_turns_50 hE.1 (by omega) (Nat.le_of_ble_eq_true rfl) (Nat.le_refl _) (Nat.le_refl _) (r_shadedBy (d := d) hE h) (fun r50 h50 hq50 => ?_)
      obtain ⟨rfl, rfl⟩ := hq50
      refine cm_S1 (pc := 53) mX7_sizeOf_s mlX7_192 dX7_turns_53 (by omega) (Nat.le_of_ble_eq_true rfl) (Nat.le_refl _) (Nat.le_refl _) (r_sizeOf (d := d + 2)) (fun r53 h53 hq53 => ?_)
      obtain ⟨rfl, rfl⟩ := hq53
      refine cm_goto (pc := 56) (tgt := 60) dX7_turns_56 (by decide) ?_
      have e8 : uTlf u nb ns (k + 1) = uSz (uShs u nb (uSun u - nI (k + 1)) ns) 10 := if_neg c40
      rw [e8] at k60
      exact k60
set_option maxRecDepth 20000 in
theorem r_turns (hE : cm_mdl sh hr e) (h : uOk u nb ns) : cm_ct D mX7_turns (d + 3) 0 0 [.ref e] (sh, cm_us hi e u, hl, hr) (fun r9 h9 => r9 = some (.int (uTurns u nb ns).1) ∧ h9 = (sh, cm_us hi e (uTurns u nb ns).2, hl, hr)) := by
  have hnb := h.1.2.1
  have hns := h.1.2.2.2
  refine cm_ct_of (ls := [some (.ref e), none, none, none, none, none, none]) 6 (by decide +kernel) rfl rfl ?_
  refine cm_aload0 (pc := 0) dX7_turns_0 ?_
  refine mk_fld (pc := 1) flX7_151 dX7_turns_1 hE.1 ?_
  refine cm_if_ne (pc := 4) (tgt := 10) dX7_turns_4 (by decide) (fun c4 => ?_) (fun c4 => ?_)
  · have h0 : 0 < nb := by
      rcases Nat.eq_zero_or_pos nb with w | w
      · subst w; exact absurd h.1.1 c4
      · exact w
    refine cm_iconst (pc := 10) (v := 0) dX7_turns_10 (by decide) ?_
    refine cm_istore1 (pc := 11) dX7_turns_11 (by decide) rfl ?_
    refine cm_aload0 (pc := 12) dX7_turns_12 ?_
    refine cm_aload0 (pc := 13) dX7_turns_13 ?_
    refine cm_V0 (pc := 14) mX7_sunNow_v mlX7_224 dX7_turns_14 hE.1 (by omega) (Nat.le_of_ble_eq_true rfl) (Nat.le_refl _) (Nat.le_refl _) (r_sun (d := d + 2) hE) (fun r14 h14 hq14 => ?_)
    obtain ⟨rfl, rfl⟩ := hq14
    refine cm_V1 (pc := 17) mX7_shadedBy_v mlX7_247 dX7_turns_17 hE.1 (by omega) (Nat.le_of_ble_eq_true rfl) (Nat.le_refl _) (Nat.le_refl _) (r_shadedBy (d := d) hE h) (fun r17 h17 hq17 => ?_)
    obtain ⟨rfl, rfl⟩ := hq17
    refine cm_S1 (pc := 20) mX7_sizeOf_s mlX7_192 dX7_turns_20 (by omega) (Nat.le_of_ble_eq_true rfl) (Nat.le_refl _) (Nat.le_refl _) (r_sizeOf (d := d + 2)) (fun r20 h20 hq20 => ?_)
    obtain ⟨rfl, rfl⟩ := hq20
    refine cm_istore2 (pc := 23) dX7_turns_23 (by decide) rfl ?_
    refine cm_iconst (pc := 24) (v := 1) dX7_turns_24 (by decide) ?_
    refine cm_istore3 (pc := 25) dX7_turns_25 (by decide) rfl ?_
    refine cm_g_imp (fun r9 h9 q => ?_) (l_rturns hE h h0 19 0 (by omega) none none none)
    unfold uTurns
    rw [if_neg c4]
    generalize uTn u nb ns 19 = z9 at q ⊢
    exact q
  · refine cm_bipush (pc := 7) (v := -4) dX7_turns_7 (by decide) ?_
    exact cm_iret (pc := 9) dX7_turns_9 rfl ⟨by simp [uTurns, *], by simp [uTurns, *]⟩
set_option maxRecDepth 20000 in
theorem l_ratk (hE : cm_mdl sh hr e) {set n x4 : Int32} {r : Nat} (h : uOk u nb ns) (hr6 : r < 6) : ∀ q k : Nat, k + q = nb → uUnl u r nb 0 = uUnl u r q k → cm_g D mX7_askedTrack (d + 3) 0 0 (fun r9 h9 => r9 = some (.int (if uUnl u r nb 0 then -3 else 0)) ∧ h9 = (sh, cm_us hi e (if uUnl u r nb 0 then uMeet u 3 else u), hl, hr)) 0 0 90 [some (.ref e), some (.int set), some (.int n), some (.int (nI r)), some (.int x4), some (.int (nI k))] [] (sh, cm_us hi e u, hl, hr) := by
  have hnb := h.1.2.1
  have hns := h.1.2.2.2
  intro q
  induction q with
  | zero =>
    intro k hk hf
    have h1 : k = nb := by omega
    subst h1
    refine cm_iload5 (pc := 90) dX7_askedTrack_90 ?_
    refine cm_aload0 (pc := 92) dX7_askedTrack_92 ?_
    refine mk_fld (pc := 93) flX7_151 dX7_askedTrack_93 hE.1 ?_
    rw [h.1.1]
    refine cm_geN (pc := 96) (tgt := 136) dX7_askedTrack_96 (by decide) (by omega) (by omega) (fun c96 => ?_) (fun c96 => ?_)
    · refine cm_iconst (pc := 136) (v := 0) dX7_askedTrack_136 (by decide) ?_
      exact cm_iret (pc := 137) dX7_askedTrack_137 rfl ⟨by rw [hf]; rfl, by rw [hf]; rfl⟩
    · exact absurd c96 (by omega)
  | succ q ih =>
    intro k hk hf
    have hst := ih (k + 1) (by omega)
    refine cm_iload5 (pc := 90) dX7_askedTrack_90 ?_
    refine cm_aload0 (pc := 92) dX7_askedTrack_92 ?_
    refine mk_fld (pc := 93) flX7_151 dX7_askedTrack_93 hE.1 ?_
    rw [h.1.1]
    refine cm_geN (pc := 96) (tgt := 136) dX7_askedTrack_96 (by decide) (by omega) (by omega) (fun c96 => ?_) (fun c96 => ?_)
    · exact absurd c96 (by omega)
    · refine cm_aload0 (pc := 99) dX7_askedTrack_99 ?_
      refine cm_iload3 (pc := 100) dX7_askedTrack_100 ?_
      refine cm_iload5 (pc := 101) dX7_askedTrack_101 ?_
      refine cm_V2 (pc := 103) mX7_rowAt_v mlX7_105 dX7_askedTrack_103 hE.1 (by omega) (Nat.le_of_ble_eq_true rfl) (Nat.le_refl _) (Nat.le_refl _) (r_rowAt (d := d + 2) hE hr6 (by omega)) (fun r103 h103 hq103 => ?_)
      obtain ⟨rfl, rfl⟩ := hq103
      refine cm_bipush (pc := 106) (v := -9) dX7_askedTrack_106 (by decide) ?_
      refine cm_icmp_eq (pc := 108) (tgt := 130) dX7_askedTrack_108 (by decide) (fun c108 => ?_) (fun c108 => ?_)
      · refine cm_incN5 (pc := 130) dX7_askedTrack_130 (by decide) rfl ?_
        refine cm_goto (pc := 133) (tgt := 90) dX7_askedTrack_133 (by decide) ?_
        exact hst (by rw [hf]; simp [uUnl, c108])
      · refine cm_aload0 (pc := 111) dX7_askedTrack_111 ?_
        refine cm_iload3 (pc := 112) dX7_askedTrack_112 ?_
        refine cm_iload5 (pc := 113) dX7_askedTrack_113 ?_
        refine cm_V2 (pc := 115) mX7_rowAt_v mlX7_105 dX7_askedTrack_115 hE.1 (by omega) (Nat.le_of_ble_eq_true rfl) (Nat.le_refl _) (Nat.le_refl _) (r_rowAt (d := d + 2) hE hr6 (by omega)) (fun r115 h115 hq115 => ?_)
        obtain ⟨rfl, rfl⟩ := hq115
        refine cm_S1 (pc := 118) mX7_isSpot_s mlX7_204 dX7_askedTrack_118 (by omega) (Nat.le_of_ble_eq_true rfl) (Nat.le_refl _) (Nat.le_refl _) (r_isSpot (d := d + 1)) (fun r118 h118 hq118 => ?_)
        obtain ⟨rfl, rfl⟩ := hq118
        refine cm_ifneB (pc := 121) (tgt := 130) dX7_askedTrack_121 (by decide) (fun c121 => ?_) (fun c121 => ?_)
        · refine cm_incN5 (pc := 130) dX7_askedTrack_130 (by decide) rfl ?_
          refine cm_goto (pc := 133) (tgt := 90) dX7_askedTrack_133 (by decide) ?_
          exact hst (by rw [hf]; simp [uUnl, c108, c121])
        · refine cm_aload0 (pc := 124) dX7_askedTrack_124 ?_
          refine cm_iconst (pc := 125) (v := 3) dX7_askedTrack_125 (by decide) ?_
          refine cm_V1 (pc := 126) mX7_meet_v mlX7_91 dX7_askedTrack_126 hE.1 (by omega) (Nat.le_of_ble_eq_true rfl) (Nat.le_refl _) (Nat.le_refl _) (r_meet (d := d + 2) hE (f := 3) (by decide)) (fun r126 h126 hq126 => ?_)
          obtain ⟨rfl, rfl⟩ := hq126
          exact cm_iret (pc := 129) dX7_askedTrack_129 rfl ⟨by rw [hf]; simp [uUnl, c108, c121], by rw [hf]; simp [uUnl, c108, c121]⟩
set_option maxRecDepth 20000 in
theorem r_askedTrack (hE : cm_mdl sh hr e) {set n r : Int32} (h : uOk u nb ns) (hI : uInv u) : cm_ct D mX7_askedTrack (d + 3) 0 0 [.ref e, .int set, .int n, .int r] (sh, cm_us hi e u, hl, hr) (fun r9 h9 => r9 = some (.int (uKT u nb set n r).1) ∧ h9 = (sh, cm_us hi e (uKT u nb set n r).2, hl, hr)) := by
  have hnb := h.1.2.1
  have hns := h.1.2.2.2
  refine cm_ct_of (ls := [some (.ref e), some (.int set), some (.int n), some (.int r), none, none]) 2 (by decide +kernel) rfl rfl ?_
  refine cm_iload1 (pc := 0) dX7_askedTrack_0 ?_
  refine cm_iconst (pc := 1) (v := 0) dX7_askedTrack_1 (by decide) ?_
  refine cm_iconst (pc := 2) (v := 1) dX7_askedTrack_2 (by decide) ?_
  refine cm_aload0 (pc := 3) dX7_askedTrack_3 ?_
  refine mk_fld (pc := 4) flX7_151 dX7_askedTrack_4 hE.1 ?_
  rw [h.1.1]
  refine cm_ishl (pc := 7) dX7_askedTrack_7 ?_
  refine cm_iconst (pc := 8) (v := 1) dX7_askedTrack_8 (by decide) ?_
  refine cm_isub (pc := 9) dX7_askedTrack_9 ?_
  rw [all_nI nb hnb]
  refine cm_S3 (pc := 10) mX7_in_s mlX7_83 dX7_askedTrack_10 (by omega) (Nat.le_of_ble_eq_true rfl) (Nat.le_refl _) (Nat.le_refl _) (r_in (d := d + 2)) (fun r10 h10 hq10 => ?_)
  obtain ⟨rfl, rfl⟩ := hq10
  refine cm_ifeqB (pc := 13) (tgt := 30) dX7_askedTrack_13 (by decide) (fun c13 => ?_) (fun c13 => ?_)
  · refine cm_iconst (pc := 30) (v := -1) dX7_askedTrack_30 (by decide) ?_
    exact cm_iret (pc := 31) dX7_askedTrack_31 rfl ⟨by unfold uKT; rw [if_pos (Or.inl c13)], by unfold uKT; rw [if_pos (Or.inl c13)]⟩
  · refine cm_iload2 (pc := 16) dX7_askedTrack_16 ?_
    refine cm_S1 (pc := 17) mX7_isSpan_s mlX7_289 dX7_askedTrack_17 (by omega) (Nat.le_of_ble_eq_true rfl) (Nat.le_refl _) (Nat.le_refl _) (r_isSpan (d := d + 1)) (fun r17 h17 hq17 => ?_)
    obtain ⟨rfl, rfl⟩ := hq17
    refine cm_ifeqB (pc := 20) (tgt := 30) dX7_askedTrack_20 (by decide) (fun c20 => ?_) (fun c20 => ?_)
    · refine cm_iconst (pc := 30) (v := -1) dX7_askedTrack_30 (by decide) ?_
      exact cm_iret (pc := 31) dX7_askedTrack_31 rfl ⟨by unfold uKT; rw [if_pos (Or.inr (Or.inl c20))], by unfold uKT; rw [if_pos (Or.inr (Or.inl c20))]⟩
    · refine cm_iload3 (pc := 23) dX7_askedTrack_23 ?_
      refine cm_S1 (pc := 24) mX7_isRow_s mlX7_87 dX7_askedTrack_24 (by omega) (Nat.le_of_ble_eq_true rfl) (Nat.le_refl _) (Nat.le_refl _) (r_isRow (d := d + 1)) (fun r24 h24 hq24 => ?_)
      obtain ⟨rfl, rfl⟩ := hq24
      refine cm_ifneB (pc := 27) (tgt := 32) dX7_askedTrack_27 (by decide) (fun c27 => ?_) (fun c27 => ?_)
      · refine cm_aload0 (pc := 32) dX7_askedTrack_32 ?_
        refine mk_fld (pc := 33) flX7_151 dX7_askedTrack_33 hE.1 ?_
        refine cm_if_ne (pc := 36) (tgt := 42) dX7_askedTrack_36 (by decide) (fun c36 => ?_) (fun c36 => ?_)
        · refine cm_iload1 (pc := 42) dX7_askedTrack_42 ?_
          refine cm_S1 (pc := 43) mX7_sizeOf_s mlX7_192 dX7_askedTrack_43 (by omega) (Nat.le_of_ble_eq_true rfl) (Nat.le_refl _) (Nat.le_refl _) (r_sizeOf (d := d + 2)) (fun r43 h43 hq43 => ?_)
          obtain ⟨rfl, rfl⟩ := hq43
          refine cm_iconst (pc := 46) (v := 5) dX7_askedTrack_46 (by decide) ?_
          refine cm_icmp_le (pc := 47) (tgt := 53) dX7_askedTrack_47 (by decide) (fun c47 => ?_) (fun c47 => ?_)
          · refine cm_aload0 (pc := 53) dX7_askedTrack_53 ?_
            refine cm_iload3 (pc := 54) dX7_askedTrack_54 ?_
            refine cm_V1 (pc := 55) mX7_askedRow_v mlX7_102 dX7_askedTrack_55 hE.1 (by omega) (Nat.le_of_ble_eq_true rfl) (Nat.le_refl _) (Nat.le_refl _) (r_askedRow (d := d) hE) (fun r55 h55 hq55 => ?_)
            obtain ⟨rfl, rfl⟩ := hq55
            refine cm_istore4 (pc := 58) dX7_askedTrack_58 (by decide) rfl ?_
            refine cm_iload4 (pc := 60) dX7_askedTrack_60 ?_
            refine cm_if_ge (pc := 62) (tgt := 68) dX7_askedTrack_62 (by decide) (fun c62 => ?_) (fun c62 => ?_)
            · have hb62 := c62
              have hAR : (uAR u r).1 = 0 ∧ (uAR u r).2 = u := by
                unfold uAR at hb62 ⊢
                rw [if_neg (by rw [c27]; decide)] at hb62 ⊢
                by_cases w2 : 0 ≤ u 2 r.toNatClampNeg
                · rw [if_pos w2]; exact ⟨rfl, rfl⟩
                · rw [if_neg w2] at hb62; exact absurd hb62 (show ¬ (0 : Int32) ≤ -3 by decide)
              rw [hAR.2]
              obtain ⟨j9, hj9, rfl⟩ := uIn_ex 5 c27
              have hj9c : (nI j9).toNatClampNeg = j9 := nI_clamp (by omega)
              refine cm_aload0 (pc := 68) dX7_askedTrack_68 ?_
              refine cm_getR (pc := 69) flX7_13 dX7_askedTrack_69 hE.1 hE.r3 ?_
              refine cm_iload3 (pc := 72) dX7_askedTrack_72 ?_
              refine mk_get (pc := 73) dX7_askedTrack_73 hE.a2 (by omega) (by decide) ?_
              refine cm_aload0 (pc := 74) dX7_askedTrack_74 ?_
              refine mk_fld (pc := 75) flX7_151 dX7_askedTrack_75 hE.1 ?_
              refine cm_icmp_eq (pc := 78) (tgt := 87) dX7_askedTrack_78 (by decide) (fun c78 => ?_) (fun c78 => ?_)
              · refine cm_iconst (pc := 87) (v := 0) dX7_askedTrack_87 (by decide) ?_
                refine cm_istore5 (pc := 88) dX7_askedTrack_88 (by decide) rfl ?_
                refine cm_g_imp (fun r9 h9 q => ?_) (l_ratk hE h (r := j9) (by omega) nb 0 (by omega) rfl)
                have hspec : uKT u nb set n (nI j9) = if uUnl u j9 nb 0 then (-3, uMeet u 3) else (0, u) := by
                  unfold uKT
                  rw [if_neg (fun w => by rcases w with w | w | w <;> first | (rw [c13] at w; cases w) | (rw [c20] at w; cases w) | (rw [c27] at w; cases w)), if_neg c36, if_pos c47, if_pos hb62, hj9c, if_pos c78]
                rw [hspec]
                cases hu : uUnl u j9 nb 0 with
                | true => rw [hu] at q; exact q
                | false => rw [hu] at q; exact q
              · refine cm_aload0 (pc := 81) dX7_askedTrack_81 ?_
                refine cm_iconst (pc := 82) (v := 5) dX7_askedTrack_82 (by decide) ?_
                refine cm_V1 (pc := 83) mX7_meet_v mlX7_91 dX7_askedTrack_83 hE.1 (by omega) (Nat.le_of_ble_eq_true rfl) (Nat.le_refl _) (Nat.le_refl _) (r_meet (d := d + 2) hE (f := 5) (by decide)) (fun r83 h83 hq83 => ?_)
                obtain ⟨rfl, rfl⟩ := hq83
                exact cm_iret (pc := 86) dX7_askedTrack_86 rfl ⟨by unfold uKT; rw [if_neg (fun w => by rcases w with w | w | w <;> first | (rw [c13] at w; cases w) | (rw [c20] at w; cases w) | (rw [c27] at w; cases w)), if_neg c36, if_pos c47, if_pos hb62, hj9c, if_neg c78], by unfold uKT; rw [if_neg (fun w => by rcases w with w | w | w <;> first | (rw [c13] at w; cases w) | (rw [c20] at w; cases w) | (rw [c27] at w; cases w)), if_neg c36, if_pos c47, if_pos hb62, hj9c, if_neg c78]⟩
            · refine cm_iload4 (pc := 65) dX7_askedTrack_65 ?_
              exact cm_iret (pc := 67) dX7_askedTrack_67 rfl ⟨by unfold uKT; rw [if_neg (fun w => by rcases w with w | w | w <;> first | (rw [c13] at w; cases w) | (rw [c20] at w; cases w) | (rw [c27] at w; cases w)), if_neg c36, if_pos c47, if_neg c62], by unfold uKT; rw [if_neg (fun w => by rcases w with w | w | w <;> first | (rw [c13] at w; cases w) | (rw [c20] at w; cases w) | (rw [c27] at w; cases w)), if_neg c36, if_pos c47, if_neg c62]⟩
          · refine cm_bipush (pc := 50) (v := -6) dX7_askedTrack_50 (by decide) ?_
            exact cm_iret (pc := 52) dX7_askedTrack_52 rfl ⟨by unfold uKT; rw [if_neg (fun w => by rcases w with w | w | w <;> first | (rw [c13] at w; cases w) | (rw [c20] at w; cases w) | (rw [c27] at w; cases w)), if_neg c36, if_neg c47], by unfold uKT; rw [if_neg (fun w => by rcases w with w | w | w <;> first | (rw [c13] at w; cases w) | (rw [c20] at w; cases w) | (rw [c27] at w; cases w)), if_neg c36, if_neg c47]⟩
        · refine cm_bipush (pc := 39) (v := -4) dX7_askedTrack_39 (by decide) ?_
          exact cm_iret (pc := 41) dX7_askedTrack_41 rfl ⟨by unfold uKT; rw [if_neg (fun w => by rcases w with w | w | w <;> first | (rw [c13] at w; cases w) | (rw [c20] at w; cases w) | (rw [c27] at w; cases w)), if_pos c36], by unfold uKT; rw [if_neg (fun w => by rcases w with w | w | w <;> first | (rw [c13] at w; cases w) | (rw [c20] at w; cases w) | (rw [c27] at w; cases w)), if_pos c36]⟩
      · refine cm_iconst (pc := 30) (v := -1) dX7_askedTrack_30 (by decide) ?_
        exact cm_iret (pc := 31) dX7_askedTrack_31 rfl ⟨by unfold uKT; rw [if_pos (Or.inr (Or.inr c27))], by unfold uKT; rw [if_pos (Or.inr (Or.inr c27))]⟩
end U6
