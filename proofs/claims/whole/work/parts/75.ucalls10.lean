/-! PART ucalls10: the reference's calls: fits, could -/
def sbU (set : Int32) : Nat → Bool := fun i => uHas set (nI i)
def uWt (sb : Nat → Bool) : Nat → Nat → Nat
  | 0, _ => 1
  | q + 1, i => (if sb i then 5 else 1) * uWt sb q (i + 1)
def uTk (f : Nat → Int32) (V : cm_g2) : Nat → Bool
  | 0 => true
  | i + 1 => uTk f V i && (decide (f i = -9) || decide (f i = V 8 i))
theorem tGv_out {sb : Nat → Bool} : ∀ (p w : Nat) (f : Nat → Int32) (j : Nat), p ≤ j → tGv sb p w f j = f j
  | 0, w, f, j, _ => rfl
  | p + 1, w, f, j, h => by
    unfold tGv
    split
    · rw [tGv_out p _ _ j (by omega), pk_un (by omega)]
    · exact tGv_out p _ _ j (by omega)
theorem tGv_at {sb : Nat → Bool} : ∀ (p w : Nat) (f f' : Nat → Int32) (j : Nat), f j = f' j → tGv sb p w f j = tGv sb p w f' j
  | 0, w, f, f', j, h => h
  | p + 1, w, f, f', j, h => by
    unfold tGv
    split
    · refine tGv_at p _ _ _ j ?_
      unfold upd
      split
      · rfl
      · exact h
    · exact tGv_at p _ _ _ j h
theorem tGv_s {sb : Nat → Bool} {i c g : Nat} {f : Nat → Int32} (hs : sb i = true) (hg : g < 5) : (∀ j, j < i → tGv sb (i + 1) (5 * c + g) f j = tGv sb i c f j) ∧ tGv sb (i + 1) (5 * c + g) f i = nI g := by
  have e : tGv sb (i + 1) (5 * c + g) f = tGv sb i c (upd f i (nI g)) := by
    show (if sb i then tGv sb i ((5 * c + g) / 5) (upd f i (nI ((5 * c + g) % 5))) else _) = _
    rw [if_pos hs, show (5 * c + g) / 5 = c by omega, show (5 * c + g) % 5 = g by omega]
  rw [e]
  refine ⟨fun j hj => tGv_at i c _ _ j (by rw [pk_un (by omega)]), ?_⟩
  rw [tGv_out i c _ i (Nat.le_refl _), pk_us]
theorem tNv_out {sb : Nat → Bool} : ∀ (p w : Nat) (f : Nat → Int32) (j : Nat), p ≤ j → tNv sb p w f j = f j
  | 0, w, f, j, _ => rfl
  | p + 1, w, f, j, h => by
    unfold tNv
    split
    · rw [tNv_out p _ _ j (by omega), pk_un (by omega)]
    · exact tNv_out p _ _ j (by omega)
theorem tNv_at {sb : Nat → Bool} : ∀ (p w : Nat) (f g : Nat → Int32) (j : Nat), j < p → sb j = true → tNv sb p w f j = f j ||| (1 <<< (tGv sb p w g j &&& 31))
  | 0, w, f, g, j, h, _ => absurd h (Nat.not_lt_zero _)
  | p + 1, w, f, g, j, h, hs => by
    by_cases q : j = p
    · subst q
      have e1 : tNv sb (j + 1) w f = tNv sb j (w / 5) (upd f j (f j ||| (1 <<< (nI (w % 5) &&& 31)))) := if_pos hs
      have e2 : tGv sb (j + 1) w g = tGv sb j (w / 5) (upd g j (nI (w % 5))) := if_pos hs
      rw [e1, e2, tNv_out j _ _ j (Nat.le_refl _), tGv_out j _ _ j (Nat.le_refl _), pk_us, pk_us]
    · unfold tNv tGv
      split
      · rw [tNv_at p (w / 5) _ (upd g p (nI (w % 5))) j (by omega) hs, pk_un q]
      · exact tNv_at p w f g j (by omega) hs
theorem tGv_cut {sb : Nat → Bool} {nb w : Nat} {f : Nat → Int32} (h : ∀ j, nb ≤ j → j < 6 → sb j = false) : ∀ t, nb + t ≤ 6 → tGv sb (nb + t) w f = tGv sb nb w f
  | 0, _ => rfl
  | t + 1, ht => by
    show (if sb (nb + t) then _ else tGv sb (nb + t) w f) = _
    rw [if_neg (by rw [h (nb + t) (by omega) (by omega)]; decide), tGv_cut h t (by omega)]
def uFv (u : cm_g2) (nb ns n : Nat) (sb : Nat → Bool) (r w : Nat) (b : Bool) : Prop := ∃ W, uEqN u W nb ∧ (∀ j, j < nb → W 9 j = tGv sb nb w (u 9) j) ∧ b = uTk (fun i => u 3 (40 * r + i)) (uItW (uPA W) nb ns (fun _ => 0) (-9) n) nb
def uFI (u V : cm_g2) (nb : Nat) (sb F : Nat → Bool) (w i code : Nat) : Prop := uEqN u V nb ∧ (∀ j, j < i → V 9 j = tGv sb i code (u 9) j) ∧ (∀ j, i ≤ j → j < nb → sb j = false → V 9 j = u 9 j) ∧ V 0 40 = nI (skFold sb F w).1 ∧ V 0 41 = (skFold sb F w).2.1 ∧ (∀ j, j < nb → sb j = true → V 22 j = (skFold sb F w).2.2 j) ∧ ∀ j, j < 6 → V 21 j = u 9 j
theorem sk_at {sb F : Nat → Bool} {w : Nat} (b : Bool) : skFold sb (fun x => if x = w then b else F x) w = skFold sb F w := skFold_congr w (fun i hi => by rw [if_neg (by omega)])
theorem sk_f {sb F : Nat → Bool} {w : Nat} : skFold sb (fun x => if x = w then false else F x) (w + 1) = skFold sb F w := by
  show (if (if w = w then false else F w) = true then _ else skFold sb (fun x => if x = w then false else F x) w) = _
  rw [if_pos rfl, if_neg (by decide), sk_at]
theorem sk_t {sb F : Nat → Bool} {w : Nat} : skFold sb (fun x => if x = w then true else F x) (w + 1) = ((skFold sb F w).1 + 1, (if (skFold sb F w).1 = 0 then nI w else (skFold sb F w).2.1), tNv sb 6 w (skFold sb F w).2.2) := by
  show (if (if w = w then true else F w) = true then _ else _) = _
  rw [if_pos rfl, if_pos rfl, sk_at]
theorem uEqN.up0 {u V G : cm_g2} {nb : Nat} (e : uEqN u V nb) (h : ∀ c, c ≠ 0 → c ≠ 22 → G c = V c) (h0 : ∀ j, j < 31 → G 0 j = V 0 j) : uEqN u G nb := ⟨fun j hj => by rw [h0 j (by omega)]; exact e.1 j hj, fun c hc => by rw [h c (by omega) (by omega)]; exact e.2.1 c hc, fun c h1 h2 h9 i hi => by rw [h c (by omega) (by omega)]; exact e.2.2.1 c h1 h2 h9 i hi, fun i h1 hi => by rw [h 9 (by decide) (by decide)]; exact e.2.2.2 i h1 hi⟩
section U10
variable {D : cm_D} {d : Nat} {sh : List cm_Sh} {hi u : cm_g2} {hl : Nat → Nat → Int64} {hr : Nat → Nat → Option Nat} {e nb ns : Nat}
set_option maxRecDepth 20000 in
theorem l_ritr (hE : cm_mdl sh hr e) {n r : Nat} (h : uOk u nb ns) (hn20 : n ≤ 20) (hr6 : r < 6) : ∀ q k : Nat, k + q = nb → cm_g D mX7_isTrack (d + 5) 0 0 (fun r9 h9 => r9 = some (.int (cm_bi (uTk (fun i => u 3 (40 * r + i)) (uItW (uPA u) nb ns (fun _ => 0) (-9) n) nb))) ∧ h9 = (sh, cm_us hi e (uCB (uItW (uPA u) nb ns (fun _ => 0) (-9) n)), hl, hr)) 0 0 29 [some (.ref e), some (.int (nI n)), some (.int (nI r)), some (.int (cm_bi (uTk (fun i => u 3 (40 * r + i)) (uItW (uPA u) nb ns (fun _ => 0) (-9) n) k))), some (.int (nI k))] [] (sh, cm_us hi e (uItW (uPA u) nb ns (fun _ => 0) (-9) n), hl, hr) := by
  have hnb := h.1.2.1
  have hns := h.1.2.2.2
  have w3 : (uItW (uPA u) nb ns (fun _ => 0) (-9) n) 3 = u 3 := by rw [uItW_c (by decide), uPA_eq.1 3 (by decide) (by decide)]
  have w9 : (uItW (uPA u) nb ns (fun _ => 0) (-9) n) 0 9 = nI nb := (h.pa.itw n).1.1
  intro q
  induction q with
  | zero =>
    intro k hk
    have h1 : k = nb := by omega
    subst h1
    refine cm_iload4 (pc := 29) dX7_isTrack_29 ?_
    refine cm_aload0 (pc := 31) dX7_isTrack_31 ?_
    refine mk_fld (pc := 32) flX7_151 dX7_isTrack_32 hE.1 ?_
    rw [w9]
    refine cm_geN (pc := 35) (tgt := 83) dX7_isTrack_35 (by decide) (by omega) (by omega) (fun c35 => ?_) (fun c35 => ?_)
    · refine cm_aload0 (pc := 83) dX7_isTrack_83 ?_
      refine cm_V0 (pc := 84) mX7_comeBack_v mlX7_256 dX7_isTrack_84 hE.1 (by omega) (Nat.le_of_ble_eq_true rfl) (Nat.le_refl _) (Nat.le_refl _) (r_comeBack (d := d + 3) hE) (fun r84 h84 hq84 => ?_)
      obtain ⟨rfl, rfl⟩ := hq84
      refine cm_iload3 (pc := 87) dX7_isTrack_87 ?_
      exact cm_zret (pc := 88) dX7_isTrack_88 rfl (cm_nb _) ⟨rfl, rfl⟩
    · exact absurd c35 (by omega)
  | succ q ih =>
    intro k hk
    have hst := ih (k + 1) (by omega)
    refine cm_iload4 (pc := 29) dX7_isTrack_29 ?_
    refine cm_aload0 (pc := 31) dX7_isTrack_31 ?_
    refine mk_fld (pc := 32) flX7_151 dX7_isTrack_32 hE.1 ?_
    rw [w9]
    refine cm_geN (pc := 35) (tgt := 83) dX7_isTrack_35 (by decide) (by omega) (by omega) (fun c35 => ?_) (fun c35 => ?_)
    · exact absurd c35 (by omega)
    · refine cm_iload3 (pc := 38) dX7_isTrack_38 ?_
      refine cm_ifeqB (pc := 39) (tgt := 75) dX7_isTrack_39 (by decide) (fun c39 => ?_) (fun c39 => ?_)
      · refine cm_iconst (pc := 75) (v := 0) dX7_isTrack_75 (by decide) ?_
        refine cm_istore3 (pc := 76) dX7_isTrack_76 (by decide) rfl ?_
        refine cm_incN4 (pc := 77) dX7_isTrack_77 (by decide) rfl ?_
        refine cm_goto (pc := 80) (tgt := 29) dX7_isTrack_80 (by decide) ?_
        rw [show uTk (fun i => u 3 (40 * r + i)) (uItW (uPA u) nb ns (fun _ => 0) (-9) n) (k + 1) = false by simp [uTk, c39]] at hst
        exact hst
      · refine cm_aload0 (pc := 42) dX7_isTrack_42 ?_
        refine cm_iload2 (pc := 43) dX7_isTrack_43 ?_
        refine cm_iload4 (pc := 44) dX7_isTrack_44 ?_
        refine cm_V2 (pc := 46) mX7_rowAt_v mlX7_105 dX7_isTrack_46 hE.1 (by omega) (Nat.le_of_ble_eq_true rfl) (Nat.le_refl _) (Nat.le_refl _) (r_rowAt (d := d + 4) hE hr6 (by omega)) (fun r46 h46 hq46 => ?_)
        obtain ⟨rfl, rfl⟩ := hq46
        rw [w3]
        refine cm_bipush (pc := 49) (v := -9) dX7_isTrack_49 (by decide) ?_
        refine cm_icmp_eq (pc := 51) (tgt := 71) dX7_isTrack_51 (by decide) (fun c51 => ?_) (fun c51 => ?_)
        · refine cm_iconst (pc := 71) (v := 1) dX7_isTrack_71 (by decide) ?_
          refine cm_goto (pc := 72) (tgt := 76) dX7_isTrack_72 (by decide) ?_
          refine cm_istore3 (pc := 76) dX7_isTrack_76 (by decide) rfl ?_
          refine cm_incN4 (pc := 77) dX7_isTrack_77 (by decide) rfl ?_
          refine cm_goto (pc := 80) (tgt := 29) dX7_isTrack_80 (by decide) ?_
          rw [show uTk (fun i => u 3 (40 * r + i)) (uItW (uPA u) nb ns (fun _ => 0) (-9) n) (k + 1) = true by simp [uTk, c39, c51]] at hst
          exact hst
        · refine cm_aload0 (pc := 54) dX7_isTrack_54 ?_
          refine cm_iload2 (pc := 55) dX7_isTrack_55 ?_
          refine cm_iload4 (pc := 56) dX7_isTrack_56 ?_
          refine cm_V2 (pc := 58) mX7_rowAt_v mlX7_105 dX7_isTrack_58 hE.1 (by omega) (Nat.le_of_ble_eq_true rfl) (Nat.le_refl _) (Nat.le_refl _) (r_rowAt (d := d + 4) hE hr6 (by omega)) (fun r58 h58 hq58 => ?_)
          obtain ⟨rfl, rfl⟩ := hq58
          rw [w3]
          refine cm_aload0 (pc := 61) dX7_isTrack_61 ?_
          refine cm_getR (pc := 62) flX7_31 dX7_isTrack_62 hE.1 hE.r12 ?_
          refine cm_iload4 (pc := 65) dX7_isTrack_65 ?_
          refine mk_get (pc := 67) dX7_isTrack_67 hE.a8 (by omega) (by decide) ?_
          refine cm_icmp_ne (pc := 68) (tgt := 75) dX7_isTrack_68 (by decide) (fun c68 => ?_) (fun c68 => ?_)
          · refine cm_iconst (pc := 75) (v := 0) dX7_isTrack_75 (by decide) ?_
            refine cm_istore3 (pc := 76) dX7_isTrack_76 (by decide) rfl ?_
            refine cm_incN4 (pc := 77) dX7_isTrack_77 (by decide) rfl ?_
            refine cm_goto (pc := 80) (tgt := 29) dX7_isTrack_80 (by decide) ?_
            rw [show uTk (fun i => u 3 (40 * r + i)) (uItW (uPA u) nb ns (fun _ => 0) (-9) n) (k + 1) = false by simp [uTk, c51, c68]] at hst
            exact hst
          · refine cm_iconst (pc := 71) (v := 1) dX7_isTrack_71 (by decide) ?_
            refine cm_goto (pc := 72) (tgt := 76) dX7_isTrack_72 (by decide) ?_
            refine cm_istore3 (pc := 76) dX7_isTrack_76 (by decide) rfl ?_
            refine cm_incN4 (pc := 77) dX7_isTrack_77 (by decide) rfl ?_
            refine cm_goto (pc := 80) (tgt := 29) dX7_isTrack_80 (by decide) ?_
            rw [show uTk (fun i => u 3 (40 * r + i)) (uItW (uPA u) nb ns (fun _ => 0) (-9) n) (k + 1) = true by simp [uTk, c39, c51, c68]] at hst
            exact hst
set_option maxRecDepth 20000 in
theorem l_ritm (hE : cm_mdl sh hr e) {n r : Nat} (h : uOk u nb ns) (hn20 : n ≤ 20) (hr6 : r < 6) : ∀ q k : Nat, k + q = n → cm_g D mX7_isTrack (d + 5) 0 0 (fun r9 h9 => r9 = some (.int (cm_bi (uTk (fun i => u 3 (40 * r + i)) (uItW (uPA u) nb ns (fun _ => 0) (-9) n) nb))) ∧ h9 = (sh, cm_us hi e (uCB (uItW (uPA u) nb ns (fun _ => 0) (-9) n)), hl, hr)) 0 0 6 [some (.ref e), some (.int (nI n)), some (.int (nI r)), some (.int (nI k)), none] [] (sh, cm_us hi e (uItW (uPA u) nb ns (fun _ => 0) (-9) k), hl, hr) := by
  have hnb := h.1.2.1
  have hns := h.1.2.2.2
  intro q
  induction q with
  | zero =>
    intro k hk
    have h1 : k = n := by omega
    subst h1
    refine cm_iload3 (pc := 6) dX7_isTrack_6 ?_
    refine cm_iload1 (pc := 7) dX7_isTrack_7 ?_
    refine cm_geN (pc := 8) (tgt := 24) dX7_isTrack_8 (by decide) (by omega) (by omega) (fun c8 => ?_) (fun c8 => ?_)
    · refine cm_iconst (pc := 24) (v := 1) dX7_isTrack_24 (by decide) ?_
      refine cm_istore3 (pc := 25) dX7_isTrack_25 (by decide) rfl ?_
      refine cm_iconst (pc := 26) (v := 0) dX7_isTrack_26 (by decide) ?_
      refine cm_istore4 (pc := 27) dX7_isTrack_27 (by decide) rfl ?_
      exact l_ritr hE h hn20 hr6 nb 0 (by omega)
    · exact absurd c8 (by omega)
  | succ q ih =>
    intro k hk
    have hst := ih (k + 1) (by omega)
    refine cm_iload3 (pc := 6) dX7_isTrack_6 ?_
    refine cm_iload1 (pc := 7) dX7_isTrack_7 ?_
    refine cm_geN (pc := 8) (tgt := 24) dX7_isTrack_8 (by decide) (by omega) (by omega) (fun c8 => ?_) (fun c8 => ?_)
    · exact absurd c8 (by omega)
    · refine cm_aload0 (pc := 11) dX7_isTrack_11 ?_
      refine cm_iconst (pc := 12) (v := 0) dX7_isTrack_12 (by decide) ?_
      refine cm_bipush (pc := 13) (v := -9) dX7_isTrack_13 (by decide) ?_
      refine cm_V2 (pc := 15) mX7_passMinute_v mlX7_241 dX7_isTrack_15 hE.1 (by omega) (Nat.le_of_ble_eq_true rfl) (Nat.le_refl _) (Nat.le_refl _) (r_passMinute (d := d) hE (h.pa.itw k)) (fun r15 h15 hq15 => ?_)
      obtain ⟨rfl, rfl⟩ := hq15
      refine cm_incN3 (pc := 18) dX7_isTrack_18 (by decide) rfl ?_
      refine cm_goto (pc := 21) (tgt := 6) dX7_isTrack_21 (by decide) ?_
      exact hst
set_option maxRecDepth 20000 in
theorem r_isTrack (hE : cm_mdl sh hr e) {n r : Nat} (h : uOk u nb ns) (hn20 : n ≤ 20) (hr6 : r < 6) : cm_ct D mX7_isTrack (d + 5) 0 0 [.ref e, .int (nI n), .int (nI r)] (sh, cm_us hi e u, hl, hr) (fun r9 h9 => r9 = some (.int (cm_bi (uTk (fun i => u 3 (40 * r + i)) (uItW (uPA u) nb ns (fun _ => 0) (-9) n) nb))) ∧ h9 = (sh, cm_us hi e (uCB (uItW (uPA u) nb ns (fun _ => 0) (-9) n)), hl, hr)) := by
  have hnb := h.1.2.1
  have hns := h.1.2.2.2
  refine cm_ct_of (ls := [some (.ref e), some (.int (nI n)), some (.int (nI r)), none, none]) 2 (by decide +kernel) rfl rfl ?_
  refine cm_aload0 (pc := 0) dX7_isTrack_0 ?_
  refine cm_V0 (pc := 1) mX7_putAside_v mlX7_253 dX7_isTrack_1 hE.1 (by omega) (Nat.le_of_ble_eq_true rfl) (Nat.le_refl _) (Nat.le_refl _) (r_putAside (d := d + 3) hE) (fun r1 h1 hq1 => ?_)
  obtain ⟨rfl, rfl⟩ := hq1
  refine cm_iconst (pc := 4) (v := 0) dX7_isTrack_4 (by decide) ?_
  refine cm_istore3 (pc := 5) dX7_isTrack_5 (by decide) rfl ?_
  exact l_ritm hE h hn20 hr6 n 0 (by omega)
set_option maxRecDepth 20000 in
theorem l_fgd (hE : cm_mdl sh hr e) {n r code : Nat} {set : Int32} {F : Nat → Bool} (h : uOk u nb ns) (hsb : ∀ j, nb ≤ j → j < 6 → sbU set j = false) (hfv : uFv u nb ns n (sbU set) r code true) : ∀ q k : Nat, k + q = nb → ∀ X, (uEqN u X nb ∧ (∀ j, j < nb → X 9 j = tGv (sbU set) nb code (u 9) j) ∧ X 0 40 = nI ((skFold (sbU set) F code).1 + 1) ∧ X 0 41 = (if (skFold (sbU set) F code).1 = 0 then nI code else (skFold (sbU set) F code).2.1) ∧ (∀ j, j < nb → sbU set j = true → X 22 j = if j < k then (skFold (sbU set) F code).2.2 j ||| (1 <<< (X 9 j &&& 31)) else (skFold (sbU set) F code).2.2 j) ∧ ∀ j, j < 6 → X 21 j = u 9 j) → cm_g D mX7_fitOn (d + 6) 0 0 (fun r9 h9 => r9 = none ∧ ∃ V9 F9, h9 = (sh, cm_us hi e V9, hl, hr) ∧ (∀ w, w < code → F9 w = F w) ∧ uFv u nb ns n (sbU set) r code (F9 code) ∧ uFI u V9 nb (sbU set) F9 (code + 1) nb code) 0 0 51 [some (.ref e), some (.int set), some (.int (nI n)), some (.int (nI r)), some (.int (nI nb)), some (.int (nI code)), some (.int (nI k))] [] (sh, cm_us hi e (X), hl, hr) := by
  have hnb := h.1.2.1
  have hns := h.1.2.2.2
  intro q
  induction q with
  | zero =>
    intro k hk X hX
    have h1 : k = nb := by omega
    subst h1
    refine cm_iload6 (pc := 51) dX7_fitOn_51 ?_
    refine cm_aload0 (pc := 53) dX7_fitOn_53 ?_
    refine mk_fld (pc := 54) flX7_151 dX7_fitOn_54 hE.1 ?_
    rw [show X 0 9 = nI k by rw [hX.1.1 9 (by decide)]; exact h.1.1]
    refine cm_geN (pc := 57) (tgt := 85) dX7_fitOn_57 (by decide) (by omega) (by omega) (fun c57 => ?_) (fun c57 => ?_)
    · exact cm_vret (pc := 85) dX7_fitOn_85 rfl (by
              refine ⟨rfl, X, (fun x => if x = code then true else F x), rfl, fun w hw => if_neg (by omega), ?_, hX.1, hX.2.1, fun j h1 h2 => absurd h2 (by omega), ?_, ?_, ?_, hX.2.2.2.2.2⟩
              · dsimp only; rw [if_pos rfl]; exact hfv
              · rw [sk_t]; exact hX.2.2.1
              · rw [sk_t]; exact hX.2.2.2.1
              · intro j hj hs
                rw [sk_t, hX.2.2.2.2.1 j hj hs, if_pos hj, hX.2.1 j hj]
                show _ = tNv (sbU set) 6 code _ j
                rw [tNv_at 6 code _ (u 9) j (by omega) hs, show (6 : Nat) = k + (6 - k) by omega, tGv_cut hsb _ (by omega)])
    · exact absurd c57 (by omega)
  | succ q ih =>
    intro k hk X hX
    have hst := ih (k + 1) (by omega)
    refine cm_iload6 (pc := 51) dX7_fitOn_51 ?_
    refine cm_aload0 (pc := 53) dX7_fitOn_53 ?_
    refine mk_fld (pc := 54) flX7_151 dX7_fitOn_54 hE.1 ?_
    rw [show X 0 9 = nI nb by rw [hX.1.1 9 (by decide)]; exact h.1.1]
    refine cm_geN (pc := 57) (tgt := 85) dX7_fitOn_57 (by decide) (by omega) (by omega) (fun c57 => ?_) (fun c57 => ?_)
    · exact absurd c57 (by omega)
    · refine cm_aload0 (pc := 60) dX7_fitOn_60 ?_
      refine cm_getR (pc := 61) flX7_73 dX7_fitOn_61 hE.1 hE.r42 ?_
      refine cm_iload6 (pc := 64) dX7_fitOn_64 ?_
      refine cm_dup2 (pc := 66) dX7_fitOn_66 rfl rfl ?_
      refine mk_get (pc := 67) dX7_fitOn_67 hE.a22 (by omega) (by decide) ?_
      refine cm_iconst (pc := 68) (v := 1) dX7_fitOn_68 (by decide) ?_
      refine cm_aload0 (pc := 69) dX7_fitOn_69 ?_
      refine cm_getR (pc := 70) flX7_34 dX7_fitOn_70 hE.1 hE.r13 ?_
      refine cm_iload6 (pc := 73) dX7_fitOn_73 ?_
      refine mk_get (pc := 75) dX7_fitOn_75 hE.a9 (by omega) (by decide) ?_
      refine cm_ishl (pc := 76) dX7_fitOn_76 ?_
      refine cm_ior (pc := 77) dX7_fitOn_77 ?_
      refine mk_put (pc := 78) dX7_fitOn_78 hE.a22 (by omega) (by decide) ?_
      refine cm_mkG (fun G78 e78 f78 => ?_)
      refine cm_incN6 (pc := 79) dX7_fitOn_79 (by decide) rfl ?_
      refine cm_goto (pc := 82) (tgt := 51) dX7_fitOn_82 (by decide) ?_
      refine hst G78 ⟨hX.1.g (by decide) e78, fun j hj => by rw [e78 9 (by decide)]; exact hX.2.1 j hj, by rw [e78 0 (by decide)]; exact hX.2.2.1, by rw [e78 0 (by decide)]; exact hX.2.2.2.1, fun j hj hs => ?_, fun j hj => by rw [e78 21 (by decide)]; exact hX.2.2.2.2.2 j hj⟩
      rw [f78, e78 9 (by decide)]
      unfold upd
      by_cases q9 : j = k
      · subst q9
        rw [if_pos rfl, if_pos (by omega), hX.2.2.2.2.1 j hj hs, if_neg (by omega)]
      · rw [if_neg q9, hX.2.2.2.2.1 j hj hs]
        by_cases q8 : j < k
        · rw [if_pos q8, if_pos (by omega)]
        · rw [if_neg q8, if_neg (by omega)]
set_option maxRecDepth 20000 in
set_option maxHeartbeats 1000000 in
theorem r_fleaf (hE : cm_mdl sh hr e) {n r code : Nat} {set : Int32} {F : Nat → Bool} (h : uOk u nb ns) (hn20 : n ≤ 20) (hr6 : r < 6) (hsb : ∀ j, nb ≤ j → j < 6 → sbU set j = false) (hc : code < 15625) {X : cm_g2} (hX : uFI u X nb (sbU set) F code nb code) : cm_ct D mX7_fitOn (d + 6) 0 0 [.ref e, .int set, .int (nI n), .int (nI r), .int (nI nb), .int (nI code)] (sh, cm_us hi e (X), hl, hr) (fun r9 h9 => r9 = none ∧ ∃ V9 F9, h9 = (sh, cm_us hi e V9, hl, hr) ∧ (∀ w, w < code → F9 w = F w) ∧ uFv u nb ns n (sbU set) r code (F9 code) ∧ uFI u V9 nb (sbU set) F9 (code + 1) nb code) := by
  have hnb := h.1.2.1
  have hns := h.1.2.2.2
  refine cm_ct_of (ls := [some (.ref e), some (.int set), some (.int (nI n)), some (.int (nI r)), some (.int (nI nb)), some (.int (nI code)), none]) 1 (by decide +kernel) rfl rfl ?_
  refine cm_iload4 (pc := 0) dX7_fitOn_0 ?_
  refine cm_aload0 (pc := 2) dX7_fitOn_2 ?_
  refine mk_fld (pc := 3) flX7_151 dX7_fitOn_3 hE.1 ?_
  rw [show X 0 9 = nI nb by rw [hX.1.1 9 (by decide)]; exact h.1.1]
  refine cm_icmp_ne (pc := 6) (tgt := 86) dX7_fitOn_6 (by decide) (fun q => absurd rfl q) (fun c6 => ?_)
  refine cm_aload0 (pc := 9) dX7_fitOn_9 ?_
  refine cm_iload2 (pc := 10) dX7_fitOn_10 ?_
  refine cm_iload3 (pc := 11) dX7_fitOn_11 ?_
  refine cm_V2 (pc := 12) mX7_isTrack_v mlX7_305 dX7_fitOn_12 hE.1 (by omega) (Nat.le_of_ble_eq_true rfl) (Nat.le_refl _) (Nat.le_refl _) (r_isTrack (d := d) hE (hX.1.ok h) hn20 hr6) (fun r12 h12 hq12 => ?_)
  obtain ⟨rfl, rfl⟩ := hq12
  have yq := uIt_back (u := X) (nb := nb) (ns := ns) (w := fun _ => 0) (lk := -9) n
  have yc : ∀ c, c = 21 ∨ c = 22 → uCB (uItW (uPA X) nb ns (fun _ => 0) (-9) n) c = X c := fun c hc => by
    unfold uCB
    rw [va_up_ne _ _ (by omega), uRd_c (by omega), uItW_c (by omega), (uPA_eq (u := X)).1 c (by omega) (by omega)]
  have y0 : ∀ j, j = 40 ∨ j = 41 → uCB (uItW (uPA X) nb ns (fun _ => 0) (-9) n) 0 j = X 0 j := fun j hj => by
    unfold uCB
    rw [va_up_self, pk_un (by omega), uItW_0 (by omega), (uPA_eq (u := X)).2.1 j (by omega)]
  have yn : uEqN u (uCB (uItW (uPA X) nb ns (fun _ => 0) (-9) n)) nb := hX.1.eq yq hnb
  have y9 : ∀ j, j < nb → uCB (uItW (uPA X) nb ns (fun _ => 0) (-9) n) 9 j = tGv (sbU set) nb code (u 9) j := fun j hj => by rw [yq.2.2 9 (by decide) (by decide) j (by omega)]; exact hX.2.1 j hj
  have y40 : uCB (uItW (uPA X) nb ns (fun _ => 0) (-9) n) 0 40 = nI (skFold (sbU set) F code).1 := by rw [y0 40 (by decide)]; exact hX.2.2.2.1
  have y41 : uCB (uItW (uPA X) nb ns (fun _ => 0) (-9) n) 0 41 = (skFold (sbU set) F code).2.1 := by rw [y0 41 (by decide)]; exact hX.2.2.2.2.1
  have y22 : ∀ j, j < nb → sbU set j = true → uCB (uItW (uPA X) nb ns (fun _ => 0) (-9) n) 22 j = (skFold (sbU set) F code).2.2 j := by rw [yc 22 (by decide)]; exact hX.2.2.2.2.2.1
  have y21 : ∀ j, j < 6 → uCB (uItW (uPA X) nb ns (fun _ => 0) (-9) n) 21 j = u 9 j := by rw [yc 21 (by decide)]; exact hX.2.2.2.2.2.2
  have x3 : X 3 = u 3 := hX.1.2.1 3 (by decide)
  have hle := skFold_le (sb := sbU set) (F := F) code
  have hfv : ∀ b, uTk (fun i => X 3 (40 * r + i)) (uItW (uPA X) nb ns (fun _ => 0) (-9) n) nb = b → uFv u nb ns n (sbU set) r code b := fun b hb => ⟨X, hX.1, hX.2.1, by rw [← hb, x3]⟩
  generalize uCB (uItW (uPA X) nb ns (fun _ => 0) (-9) n) = Y at *
  refine cm_ifeqB (pc := 15) (tgt := 85) dX7_fitOn_15 (by decide) (fun c15 => ?_) (fun c15 => ?_)
  · exact cm_vret (pc := 85) dX7_fitOn_85 rfl ⟨rfl, Y, (fun x => if x = code then false else F x), rfl, fun w hw => if_neg (by omega), by dsimp only; rw [if_pos rfl]; exact hfv _ c15, yn, y9, fun j h1 h2 => absurd h2 (by omega), by rw [sk_f]; exact y40, by rw [sk_f]; exact y41, by rw [sk_f]; exact y22, y21⟩
  · skip
    have k35 : ∀ v : Int32, v = (if (skFold (sbU set) F code).1 = 0 then nI code else (skFold (sbU set) F code).2.1) → cm_g D mX7_fitOn (d + 6) 0 0 (fun r9 h9 => r9 = none ∧ ∃ V9 F9, h9 = (sh, cm_us hi e V9, hl, hr) ∧ (∀ w, w < code → F9 w = F w) ∧ uFv u nb ns n (sbU set) r code (F9 code) ∧ uFI u V9 nb (sbU set) F9 (code + 1) nb code) 0 0 35 [some (.ref e), some (.int set), some (.int (nI n)), some (.int (nI r)), some (.int (nI nb)), some (.int (nI code)), none] [.int v, .ref e] (sh, cm_us hi e (Y), hl, hr) := by
      intro v hv
      refine mk_set (pc := 35) fpX7_298 dX7_fitOn_35 hE.1 ?_
      refine cm_mkG (fun G35 e35 f35 => ?_)
      refine cm_aload0 (pc := 38) dX7_fitOn_38 ?_
      refine cm_dup (pc := 39) dX7_fitOn_39 rfl ?_
      refine mk_fld (pc := 40) flX7_295 dX7_fitOn_40 hE.1 ?_
      rw [show G35 0 40 = nI (skFold (sbU set) F code).1 by rw [f35, pk_un (by decide)]; exact y40]
      refine cm_iconst (pc := 43) (v := 1) dX7_fitOn_43 (by decide) ?_
      refine cm_iadd (pc := 44) dX7_fitOn_44 ?_
      rw [nI_1]
      refine mk_set (pc := 45) fpX7_295 dX7_fitOn_45 hE.1 ?_
      refine cm_mkG (fun G45 e45 f45 => ?_)
      refine cm_iconst (pc := 48) (v := 0) dX7_fitOn_48 (by decide) ?_
      refine cm_istore6 (pc := 49) dX7_fitOn_49 (by decide) rfl ?_
      refine l_fgd hE h hsb (hfv _ c15) nb 0 (by omega) G45 ⟨yn.up0 (fun c h0 _ => by rw [e45 c h0, e35 c h0]) (fun j hj => by rw [f45, pk_un (by omega), f35, pk_un (by omega)]), fun j hj => by rw [e45 9 (by decide), e35 9 (by decide)]; exact y9 j hj, by rw [f45, pk_us], by rw [f45, pk_un (by decide), f35, pk_us]; exact hv, fun j hj hs => by rw [if_neg (by omega), e45 22 (by decide), e35 22 (by decide)]; exact y22 j hj hs, fun j hj => by rw [e45 21 (by decide), e35 21 (by decide)]; exact y21 j hj⟩
    refine cm_aload0 (pc := 18) dX7_fitOn_18 ?_
    refine cm_aload0 (pc := 19) dX7_fitOn_19 ?_
    refine mk_fld (pc := 20) flX7_295 dX7_fitOn_20 hE.1 ?_
    rw [y40]
    refine cm_if_ne (pc := 23) (tgt := 31) dX7_fitOn_23 (by decide) (fun c23 => ?_) (fun c23 => ?_)
    · have hs0 : ¬ (skFold (sbU set) F code).1 = 0 := fun w => c23 (by rw [w]; rfl)
      refine cm_aload0 (pc := 31) dX7_fitOn_31 ?_
      refine mk_fld (pc := 32) flX7_298 dX7_fitOn_32 hE.1 ?_
      rw [y41]
      exact k35 _ (by rw [if_neg hs0])
    · have hs0 : (skFold (sbU set) F code).1 = 0 := (nI_eq (b := 0) (by omega) (by decide)).mp c23
      refine cm_iload5 (pc := 26) dX7_fitOn_26 ?_
      refine cm_goto (pc := 28) (tgt := 35) dX7_fitOn_28 (by decide) ?_
      exact k35 _ (by rw [if_pos hs0])
theorem uFI.back {u X V : cm_g2} {nb w0 w i code : Nat} {set : Int32} {F F' : Nat → Bool} (h : uFI u V nb (sbU set) F w (i + 1) code) (hi : i < nb) (hs : sbU set i = false) (k : uFI u X nb (sbU set) F' w0 i code) : uFI u V nb (sbU set) F w i code := by
  have e : tGv (sbU set) (i + 1) code (u 9) = tGv (sbU set) i code (u 9) := if_neg (by rw [hs]; decide)
  refine ⟨h.1, fun j hj => by rw [h.2.1 j (by omega), e], fun j h1 h2 h3 => ?_, h.2.2.2⟩
  by_cases q : j = i
  · subst q
    rw [h.2.1 j (by omega), e, tGv_out j code _ j (Nat.le_refl _)]
  · exact h.2.2.1 j (by omega) h2 h3
theorem uFI.fwd {u X : cm_g2} {nb w i code : Nat} {set : Int32} {F : Nat → Bool} (h : uFI u X nb (sbU set) F w i code) (hi : i < nb) (hs : sbU set i = false) : uFI u X nb (sbU set) F w (i + 1) code := by
  have e : tGv (sbU set) (i + 1) code (u 9) = tGv (sbU set) i code (u 9) := if_neg (by rw [hs]; decide)
  refine ⟨h.1, fun j hj => ?_, fun j h1 h2 h3 => h.2.2.1 j (by omega) h2 h3, h.2.2.2⟩
  rw [e]
  by_cases q : j = i
  · subst q
    rw [tGv_out j code _ j (Nat.le_refl _)]
    exact h.2.2.1 j (Nat.le_refl _) hi hs
  · exact h.2.1 j (by omega)
theorem uFI.set {u Y G : cm_g2} {nb w i code g : Nat} {set : Int32} {F : Nat → Bool} (h : uFI u Y nb (sbU set) F w i code) (hi : i < nb) (hs : sbU set i = true) (hg : g < 5) (e : ∀ c, c ≠ 9 → G c = Y c) (f : G 9 = upd (Y 9) i (nI g)) : uFI u G nb (sbU set) F w (i + 1) (5 * code + g) := by
  have t := tGv_s (f := u 9) (c := code) hs hg
  refine ⟨h.1.w9 hi e f, fun j hj => ?_, fun j h1 h2 h3 => by rw [f, pk_un (by omega)]; exact h.2.2.1 j (by omega) h2 h3, by rw [e 0 (by decide)]; exact h.2.2.2.1, by rw [e 0 (by decide)]; exact h.2.2.2.2.1, by rw [e 22 (by decide)]; exact h.2.2.2.2.2.1, by rw [e 21 (by decide)]; exact h.2.2.2.2.2.2⟩
  rw [f]
  by_cases q : j = i
  · subst q
    rw [pk_us, t.2]
  · rw [pk_un q, t.1 j (by omega)]
    exact h.2.1 j (by omega)
theorem uFI.unset {u V : cm_g2} {nb w i code g : Nat} {set : Int32} {F : Nat → Bool} (h : uFI u V nb (sbU set) F w (i + 1) (5 * code + g)) (hs : sbU set i = true) (hg : g < 5) : uFI u V nb (sbU set) F w i code := by
  have t := tGv_s (f := u 9) (c := code) hs hg
  refine ⟨h.1, fun j hj => by rw [h.2.1 j (by omega), t.1 j hj], fun j h1 h2 h3 => ?_, h.2.2.2⟩
  by_cases q : j = i
  · subst q; rw [hs] at h3; cases h3
  · exact h.2.2.1 j (by omega) h2 h3
theorem nI_gt4 {g : Nat} (h : g < 5) : ¬ (4 : Int32) < nI g := by
  have z : (4 : Int32).toInt = 4 := by decide
  rw [Int32.lt_iff_toInt_lt, z, nI_toInt (by omega)]
  omega
set_option maxRecDepth 20000 in
set_option maxHeartbeats 2000000 in
theorem r_fitOn (hE : cm_mdl sh hr e) {n r : Nat} {set : Int32} (h : uOk u nb ns) (hn20 : n ≤ 20) (hr6 : r < 6) (hsb : ∀ j, nb ≤ j → j < 6 → sbU set j = false) : ∀ (q i code : Nat) (X : cm_g2) (F : Nat → Bool), i + q = nb → (code + 1) * uWt (sbU set) q i ≤ 15625 → uFI u X nb (sbU set) F (code * uWt (sbU set) q i) i code → cm_ct D mX7_fitOn (d + 6 + q) 0 0 [.ref e, .int set, .int (nI n), .int (nI r), .int (nI i), .int (nI code)] (sh, cm_us hi e (X), hl, hr) (fun r9 h9 => r9 = none ∧ ∃ V9 F9, h9 = (sh, cm_us hi e V9, hl, hr) ∧ (∀ w, w < code * uWt (sbU set) q i → F9 w = F w) ∧ (∀ w, code * uWt (sbU set) q i ≤ w → w < (code + 1) * uWt (sbU set) q i → uFv u nb ns n (sbU set) r w (F9 w)) ∧ uFI u V9 nb (sbU set) F9 ((code + 1) * uWt (sbU set) q i) i code) := by
  have hnb := h.1.2.1
  have hns := h.1.2.2.2
  intro q
  induction q with
  | zero =>
    intro i code X F hi9 hb hX
    have h1 : i = nb := by omega
    subst h1
    simp only [show uWt (sbU set) 0 i = 1 from rfl, Nat.mul_one] at hb hX ⊢
    refine cm_ct_imp (fun r9 h9 q => ?_) (r_fleaf hE h hn20 hr6 hsb (by omega) hX)
    obtain ⟨q1, V9, F9, q2, q3, q4, q5⟩ := q
    exact ⟨q1, V9, F9, q2, q3, fun w h1 h2 => by rw [show w = code by omega]; exact q4, q5⟩
  | succ q ihq =>
    intro i code X F hi9 hb hX
    refine cm_ct_of (ls := [some (.ref e), some (.int set), some (.int (nI n)), some (.int (nI r)), some (.int (nI i)), some (.int (nI code)), none]) 1 (by decide +kernel) rfl rfl ?_
    refine cm_iload4 (pc := 0) dX7_fitOn_0 ?_
    refine cm_aload0 (pc := 2) dX7_fitOn_2 ?_
    refine mk_fld (pc := 3) flX7_151 dX7_fitOn_3 hE.1 ?_
    rw [show X 0 9 = nI nb by rw [hX.1.1 9 (by decide)]; exact h.1.1]
    refine cm_icmp_ne (pc := 6) (tgt := 86) dX7_fitOn_6 (by decide) (fun c6 => ?_) (fun q => absurd q (fun w => by have := (nI_eq (a := i) (b := nb) (by omega) (by omega)).mp w; omega))
    refine cm_iload1 (pc := 86) dX7_fitOn_86 ?_
    refine cm_iload4 (pc := 87) dX7_fitOn_87 ?_
    refine cm_S2 (pc := 89) mX7_has_s mlX7_207 dX7_fitOn_89 (by omega) (Nat.le_of_ble_eq_true rfl) (Nat.le_refl _) (Nat.le_refl _) (r_has (d := d + 6 + q)) (fun r89 h89 hq89 => ?_)
    obtain ⟨rfl, rfl⟩ := hq89
    refine cm_ifneB (pc := 92) (tgt := 109) dX7_fitOn_92 (by decide) (fun c92 => ?_) (fun c92 => ?_)
    · skip
      have hc92 : sbU set i = true := c92
      have eW : uWt (sbU set) (q + 1) i = 5 * uWt (sbU set) q (i + 1) := by
        show (if sbU set i then 5 else 1) * _ = _
        rw [hc92, if_pos rfl]
      rw [eW] at hb hX
      have hj : ∀ m g : Nat, g + m = 5 → ∀ (Y : cm_g2) (F1 : Nat → Bool), uFI u Y nb (sbU set) F1 ((5 * code + g) * uWt (sbU set) q (i + 1)) i code → (∀ w, w < code * (5 * uWt (sbU set) q (i + 1)) → F1 w = F w) → (∀ w, code * (5 * uWt (sbU set) q (i + 1)) ≤ w → w < (5 * code + g) * uWt (sbU set) q (i + 1) → uFv u nb ns n (sbU set) r w (F1 w)) → cm_g D mX7_fitOn (d + 6 + (q + 1)) 0 0 (fun r9 h9 => r9 = none ∧ ∃ V9 F9, h9 = (sh, cm_us hi e V9, hl, hr) ∧ (∀ w, w < code * uWt (sbU set) (q + 1) i → F9 w = F w) ∧ (∀ w, code * uWt (sbU set) (q + 1) i ≤ w → w < (code + 1) * uWt (sbU set) (q + 1) i → uFv u nb ns n (sbU set) r w (F9 w)) ∧ uFI u V9 nb (sbU set) F9 ((code + 1) * uWt (sbU set) (q + 1) i) i code) 0 0 112 [some (.ref e), some (.int set), some (.int (nI n)), some (.int (nI r)), some (.int (nI i)), some (.int (nI code)), some (.int (nI g))] [] (sh, cm_us hi e (Y), hl, hr) := by
        intro m
        induction m with
        | zero =>
          intro g hg5 Y F1 hY hF1 hF2
          have h5 : g = 5 := by omega
          subst h5
          refine cm_iload6 (pc := 112) dX7_fitOn_112 ?_
          refine cm_iconst (pc := 114) (v := 4) dX7_fitOn_114 (by decide) ?_
          refine cm_icmp_gt (pc := 115) (tgt := 151) dX7_fitOn_115 (by decide) (fun c115 => ?_) (fun q => absurd (by decide) q)
          exact cm_vret (pc := 151) dX7_fitOn_151 rfl ⟨rfl, Y, F1, rfl, by rw [eW]; exact hF1, by rw [eW, show (code + 1) * (5 * uWt (sbU set) q (i + 1)) = (5 * code + 5) * uWt (sbU set) q (i + 1) by rw [← Nat.mul_assoc]; congr 1; omega]; exact hF2, by rw [eW, show (code + 1) * (5 * uWt (sbU set) q (i + 1)) = (5 * code + 5) * uWt (sbU set) q (i + 1) by rw [← Nat.mul_assoc]; congr 1; omega]; exact hY⟩
        | succ m ihj =>
          intro g hg5 Y F1 hY hF1 hF2
          have hbg : (5 * code + g + 1) * uWt (sbU set) q (i + 1) ≤ 15625 := Nat.le_trans (Nat.mul_le_mul_right _ (show 5 * code + g + 1 ≤ (code + 1) * 5 by omega)) (by rw [Nat.mul_assoc]; exact hb)
          refine cm_iload6 (pc := 112) dX7_fitOn_112 ?_
          refine cm_iconst (pc := 114) (v := 4) dX7_fitOn_114 (by decide) ?_
          refine cm_icmp_gt (pc := 115) (tgt := 151) dX7_fitOn_115 (by decide) (fun q => absurd q (nI_gt4 (by omega))) (fun c115 => ?_)
          refine cm_aload0 (pc := 118) dX7_fitOn_118 ?_
          refine cm_getR (pc := 119) flX7_34 dX7_fitOn_119 hE.1 hE.r13 ?_
          refine cm_iload4 (pc := 122) dX7_fitOn_122 ?_
          refine cm_iload6 (pc := 124) dX7_fitOn_124 ?_
          refine mk_put (pc := 126) dX7_fitOn_126 hE.a9 (by omega) (by decide) ?_
          refine cm_mkG (fun G126 e126 f126 => ?_)
          have hG := hY.set (by omega) hc92 (by omega) e126 f126
          refine cm_aload0 (pc := 127) dX7_fitOn_127 ?_
          refine cm_iload1 (pc := 128) dX7_fitOn_128 ?_
          refine cm_iload2 (pc := 129) dX7_fitOn_129 ?_
          refine cm_iload3 (pc := 130) dX7_fitOn_130 ?_
          refine cm_iload4 (pc := 131) dX7_fitOn_131 ?_
          refine cm_iconst (pc := 133) (v := 1) dX7_fitOn_133 (by decide) ?_
          refine cm_iadd (pc := 134) dX7_fitOn_134 ?_
          rw [nI_1]
          refine cm_iconst (pc := 135) (v := 5) dX7_fitOn_135 (by decide) ?_
          refine cm_iload5 (pc := 136) dX7_fitOn_136 ?_
          refine cm_imul (pc := 138) dX7_fitOn_138 ?_
          rw [show (5 : Int32) * nI code = nI (5 * code) by rw [show (5 : Int32) = nI 5 from rfl, pk_mul]]
          refine cm_iload6 (pc := 139) dX7_fitOn_139 ?_
          refine cm_iadd (pc := 141) dX7_fitOn_141 ?_
          rw [nI_add]
          refine cm_V5 (pc := 142) mX7_fitOn_v mlX7_301 dX7_fitOn_142 hE.1 (by omega) (Nat.le_of_ble_eq_true rfl) (Nat.le_refl _) (Nat.le_refl _) (ihq (i + 1) (5 * code + g) G126 F1 (by omega) hbg hG) (fun r142 h142 hq142 => ?_)
          obtain ⟨rfl, V9, F9, rfl, hG1, hG2, hV9⟩ := hq142
          refine cm_incN6 (pc := 145) dX7_fitOn_145 (by decide) rfl ?_
          refine cm_goto (pc := 148) (tgt := 112) dX7_fitOn_148 (by decide) ?_
          refine ihj (g + 1) (by omega) V9 F9 (hV9.unset hc92 (by omega)) (fun w hw => ?_) (fun w h1 h2 => ?_)
          · have h3 : w < (5 * code + g) * uWt (sbU set) q (i + 1) := Nat.lt_of_lt_of_le hw (by rw [← Nat.mul_assoc]; exact Nat.mul_le_mul_right _ (by omega))
            rw [hG1 w h3]; exact hF1 w hw
          · by_cases q7 : w < (5 * code + g) * uWt (sbU set) q (i + 1)
            · rw [hG1 w q7]; exact hF2 w h1 q7
            · exact hG2 w (by omega) h2
      have e50 : (5 * code + 0) * uWt (sbU set) q (i + 1) = code * (5 * uWt (sbU set) q (i + 1)) := by
        rw [← Nat.mul_assoc]
        congr 1
        omega
      have hX0 : uFI u X nb (sbU set) F ((5 * code + 0) * uWt (sbU set) q (i + 1)) i code := by rw [e50]; exact hX
      refine cm_iconst (pc := 109) (v := 0) dX7_fitOn_109 (by decide) ?_
      refine cm_istore6 (pc := 110) dX7_fitOn_110 (by decide) rfl ?_
      exact hj 5 0 (by omega) X F hX0 (fun w hw => rfl) (fun w h1 h2 => absurd h2 (by rw [e50]; omega))
    · skip
      have hc92 : sbU set i = false := c92
      have eW : uWt (sbU set) (q + 1) i = uWt (sbU set) q (i + 1) := by
        show (if sbU set i then 5 else 1) * _ = _
        rw [hc92, if_neg (by decide), Nat.one_mul]
      have hb1 : (code + 1) * uWt (sbU set) q (i + 1) ≤ 15625 := by rw [← eW]; exact hb
      have hX1 : uFI u X nb (sbU set) F (code * uWt (sbU set) q (i + 1)) (i + 1) code := by rw [← eW]; exact hX.fwd (by omega) hc92
      refine cm_aload0 (pc := 95) dX7_fitOn_95 ?_
      refine cm_iload1 (pc := 96) dX7_fitOn_96 ?_
      refine cm_iload2 (pc := 97) dX7_fitOn_97 ?_
      refine cm_iload3 (pc := 98) dX7_fitOn_98 ?_
      refine cm_iload4 (pc := 99) dX7_fitOn_99 ?_
      refine cm_iconst (pc := 101) (v := 1) dX7_fitOn_101 (by decide) ?_
      refine cm_iadd (pc := 102) dX7_fitOn_102 ?_
      rw [nI_1]
      refine cm_iload5 (pc := 103) dX7_fitOn_103 ?_
      refine cm_V5 (pc := 105) mX7_fitOn_v mlX7_301 dX7_fitOn_105 hE.1 (by omega) (Nat.le_of_ble_eq_true rfl) (Nat.le_refl _) (Nat.le_refl _) (ihq (i + 1) code X F (by omega) hb1 hX1) (fun r105 h105 hq105 => ?_)
      obtain ⟨rfl, V9, F9, rfl, hF1, hF2, hV9⟩ := hq105
      exact cm_vret (pc := 108) dX7_fitOn_108 rfl ⟨rfl, V9, F9, rfl, by rw [eW]; exact hF1, by rw [eW]; exact hF2, by rw [eW]; exact hV9.back (by omega) hc92 hX⟩
theorem uWt_le {sb : Nat → Bool} : ∀ q i, uWt sb q i ≤ 5 ^ q
  | 0, _ => Nat.le_refl _
  | q + 1, i => by
    have := uWt_le (sb := sb) q (i + 1)
    show (if sb i then 5 else 1) * uWt sb q (i + 1) ≤ 5 ^ (q + 1)
    rw [Nat.pow_succ]
    split <;> omega
theorem p5_le {nb : Nat} (h : nb ≤ 6) : 5 ^ nb ≤ 15625 := Nat.le_trans (Nat.pow_le_pow_right (n := 5) (by decide) h) (by decide)
theorem uKT_ok {u : cm_g2} {nb : Nat} {set n r : Int32} (h : 0 ≤ (uKT u nb set n r).1) : (uKT u nb set n r).2 = u ∧ (uKT u nb set n r).1 = 0 ∧ uIn set 0 (nI (2 ^ nb - 1)) = true ∧ uIn n 0 20 = true ∧ uIn r 0 5 = true ∧ ¬ u 0 9 = 0 ∧ 0 ≤ u 2 r.toNatClampNeg ∧ u 2 r.toNatClampNeg = u 0 9 ∧ uSz set 10 ≤ 5 ∧ uUnl u r.toNatClampNeg nb 0 = false := by
  unfold uKT at h ⊢
  by_cases h1 : uIn set 0 (nI (2 ^ nb - 1)) = false ∨ uIn n 0 20 = false ∨ uIn r 0 5 = false
  · rw [if_pos h1] at h; exact absurd h (show ¬ (0 : Int32) ≤ -1 by decide)
  · rw [if_neg h1] at h ⊢
    by_cases h2 : u 0 9 = 0
    · rw [if_pos h2] at h; exact absurd h (show ¬ (0 : Int32) ≤ -4 by decide)
    · rw [if_neg h2] at h ⊢
      by_cases h3 : uSz set 10 ≤ 5
      · rw [if_pos h3] at h ⊢
        have hr5 : uIn r 0 5 = true := by
          cases hq : uIn r 0 5 with
          | true => rfl
          | false => exact absurd (Or.inr (Or.inr hq)) h1
        by_cases h4 : 0 ≤ (uAR u r).1
        · rw [if_pos h4] at h ⊢
          have h5 : 0 ≤ u 2 r.toNatClampNeg := by
            unfold uAR at h4
            rw [if_neg (by rw [hr5]; decide)] at h4
            by_cases w : 0 ≤ u 2 r.toNatClampNeg
            · exact w
            · rw [if_neg w] at h4; exact absurd h4 (show ¬ (0 : Int32) ≤ -3 by decide)
          by_cases h6 : u 2 r.toNatClampNeg = u 0 9
          · rw [if_pos h6] at h ⊢
            cases h7 : uUnl u r.toNatClampNeg nb 0 with
            | true => rw [h7, if_pos rfl] at h; exact absurd h (show ¬ (0 : Int32) ≤ -3 by decide)
            | false =>
              rw [if_neg (by decide)]
              refine ⟨rfl, rfl, ?_, ?_, hr5, h2, h5, h6, h3, rfl⟩
              · cases hq : uIn set 0 (nI (2 ^ nb - 1)) with
                | true => rfl
                | false => exact absurd (Or.inl hq) h1
              · cases hq : uIn n 0 20 with
                | true => rfl
                | false => exact absurd (Or.inr (Or.inl hq)) h1
          · rw [if_neg h6] at h; exact absurd h (show ¬ (0 : Int32) ≤ -3 by decide)
        · rw [if_neg h4] at h; exact absurd h h4
      · rw [if_neg h3] at h; exact absurd h (show ¬ (0 : Int32) ≤ -6 by decide)
theorem sbU_cut {nb s : Nat} (hnb : nb ≤ 6) (hs : s < 2 ^ nb) : ∀ j, nb ≤ j → j < 6 → sbU (nI s) j = false := fun j h1 h2 => by
  have h64 := p2_64 hnb
  show uHas (nI s) (nI j) = false
  rw [uHas_bit s (by omega) j h2]
  exact Nat.testBit_lt_two_pow (Nat.lt_of_lt_of_le hs (Nat.pow_le_pow_right (by decide) h1))
def uFits (u : cm_g2) (nb ns n : Nat) (set : Int32) (r : Nat) (F : Nat → Bool) (V : cm_g2) : Prop := uEq u V ∧ (∀ w, w < uWt (sbU set) nb 0 → uFv u nb ns n (sbU set) r w (F w)) ∧ V 0 40 = nI (skFold (sbU set) F (uWt (sbU set) nb 0)).1 ∧ V 0 41 = (skFold (sbU set) F (uWt (sbU set) nb 0)).2.1 ∧ ∀ j, j < nb → sbU set j = true → V 22 j = (skFold (sbU set) F (uWt (sbU set) nb 0)).2.2 j
set_option maxRecDepth 20000 in
theorem l_sf1 (hE : cm_mdl sh hr e) {n r : Nat} {set : Int32} {A : cm_g2} {Q : Option Value → cm_H → Prop} : ∀ q k : Nat, k + q = 6 → (∀ X, ((∀ c, c ≠ 21 → c ≠ 22 → X c = A c) ∧ (∀ j, X 21 j = if j < 6 then A 9 j else A 21 j) ∧ (∀ j, X 22 j = if j < 6 then 0 else A 22 j)) → cm_g D mX7_setFits (d + 13) 0 0 (Q) 0 0 49 [some (.ref e), some (.int set), some (.int (nI n)), some (.int (nI r)), some (.int (nI 6))] [] (sh, cm_us hi e (X), hl, hr)) → ∀ X, ((∀ c, c ≠ 21 → c ≠ 22 → X c = A c) ∧ (∀ j, X 21 j = if j < k then A 9 j else A 21 j) ∧ (∀ j, X 22 j = if j < k then 0 else A 22 j)) → cm_g D mX7_setFits (d + 13) 0 0 (Q) 0 0 14 [some (.ref e), some (.int set), some (.int (nI n)), some (.int (nI r)), some (.int (nI k))] [] (sh, cm_us hi e (X), hl, hr) := by
  intro q
  induction q with
  | zero =>
    intro k hk kk X hX
    have h1 : k = 6 := by omega
    subst h1
    refine cm_iload4 (pc := 14) dX7_setFits_14 ?_
    refine cm_bipush (pc := 16) (v := 6) dX7_setFits_16 (by decide) ?_
    refine cm_icmp_ge (pc := 18) (tgt := 49) dX7_setFits_18 (by decide) (fun c18 => ?_) (fun q => absurd (by decide) q)
    exact kk X hX
  | succ q ih =>
    intro k hk kk X hX
    have hst := ih (k + 1) (by omega)
    refine cm_iload4 (pc := 14) dX7_setFits_14 ?_
    refine cm_bipush (pc := 16) (v := 6) dX7_setFits_16 (by decide) ?_
    refine cm_icmp_ge (pc := 18) (tgt := 49) dX7_setFits_18 (by decide) (fun q => absurd q (nI_ge (a := k) (b := 6) (by omega) (by omega))) (fun c18 => ?_)
    refine cm_aload0 (pc := 21) dX7_setFits_21 ?_
    refine cm_getR (pc := 22) flX7_73 dX7_setFits_22 hE.1 hE.r42 ?_
    refine cm_iload4 (pc := 25) dX7_setFits_25 ?_
    refine cm_iconst (pc := 27) (v := 0) dX7_setFits_27 (by decide) ?_
    refine mk_put (pc := 28) dX7_setFits_28 hE.a22 (by omega) (by decide) ?_
    refine cm_mkG (fun G28 e28 f28 => ?_)
    refine cm_aload0 (pc := 29) dX7_setFits_29 ?_
    refine cm_getR (pc := 30) flX7_70 dX7_setFits_30 hE.1 hE.r39 ?_
    refine cm_iload4 (pc := 33) dX7_setFits_33 ?_
    refine cm_aload0 (pc := 35) dX7_setFits_35 ?_
    refine cm_getR (pc := 36) flX7_34 dX7_setFits_36 hE.1 hE.r13 ?_
    refine cm_iload4 (pc := 39) dX7_setFits_39 ?_
    refine mk_get (pc := 41) dX7_setFits_41 hE.a9 (by omega) (by decide) ?_
    refine mk_put (pc := 42) dX7_setFits_42 hE.a21 (by omega) (by decide) ?_
    refine cm_mkG (fun G42 e42 f42 => ?_)
    refine cm_incN4 (pc := 43) dX7_setFits_43 (by decide) rfl ?_
    refine cm_goto (pc := 46) (tgt := 14) dX7_setFits_46 (by decide) ?_
    refine hst kk G42 ⟨fun c h1 h2 => by rw [e42 c h1, e28 c h2]; exact hX.1 c h1 h2, fun j => ?_, fun j => ?_⟩
    · rw [f42, e28 21 (by decide), e28 9 (by decide), hX.1 9 (by decide) (by decide)]
      unfold upd
      by_cases q9 : j = k
      · rw [if_pos q9, if_pos (by omega), q9]
      · rw [if_neg q9, hX.2.1 j]
        by_cases q8 : j < k
        · rw [if_pos q8, if_pos (by omega)]
        · rw [if_neg q8, if_neg (by omega)]
    · rw [e42 22 (by decide), f28]
      unfold upd
      by_cases q9 : j = k
      · rw [if_pos q9, if_pos (by omega)]
      · rw [if_neg q9, hX.2.2 j]
        by_cases q8 : j < k
        · rw [if_pos q8, if_pos (by omega)]
        · rw [if_neg q8, if_neg (by omega)]
set_option maxRecDepth 20000 in
theorem l_sf2 (hE : cm_mdl sh hr e) {n r : Nat} {set : Int32} {A : cm_g2} : ∀ q k : Nat, k + q = 6 → ∀ X, ((∀ c, c ≠ 9 → X c = A c) ∧ (∀ j, X 9 j = if j < k then A 21 j else A 9 j)) → cm_g D mX7_setFits (d + 13) 0 0 (fun r9 h9 => r9 = none ∧ ∃ X, h9 = (sh, cm_us hi e X, hl, hr) ∧ (∀ c, c ≠ 9 → X c = A c) ∧ (∀ j, X 9 j = if j < 6 then A 21 j else A 9 j)) 0 0 61 [some (.ref e), some (.int set), some (.int (nI n)), some (.int (nI r)), some (.int (nI k))] [] (sh, cm_us hi e (X), hl, hr) := by
  intro q
  induction q with
  | zero =>
    intro k hk X hX
    have h1 : k = 6 := by omega
    subst h1
    refine cm_iload4 (pc := 61) dX7_setFits_61 ?_
    refine cm_bipush (pc := 63) (v := 6) dX7_setFits_63 (by decide) ?_
    refine cm_icmp_ge (pc := 65) (tgt := 88) dX7_setFits_65 (by decide) (fun c65 => ?_) (fun q => absurd (by decide) q)
    exact cm_vret (pc := 88) dX7_setFits_88 rfl ⟨rfl, X, rfl, hX⟩
  | succ q ih =>
    intro k hk X hX
    have hst := ih (k + 1) (by omega)
    refine cm_iload4 (pc := 61) dX7_setFits_61 ?_
    refine cm_bipush (pc := 63) (v := 6) dX7_setFits_63 (by decide) ?_
    refine cm_icmp_ge (pc := 65) (tgt := 88) dX7_setFits_65 (by decide) (fun q => absurd q (nI_ge (a := k) (b := 6) (by omega) (by omega))) (fun c65 => ?_)
    refine cm_aload0 (pc := 68) dX7_setFits_68 ?_
    refine cm_getR (pc := 69) flX7_34 dX7_setFits_69 hE.1 hE.r13 ?_
    refine cm_iload4 (pc := 72) dX7_setFits_72 ?_
    refine cm_aload0 (pc := 74) dX7_setFits_74 ?_
    refine cm_getR (pc := 75) flX7_70 dX7_setFits_75 hE.1 hE.r39 ?_
    refine cm_iload4 (pc := 78) dX7_setFits_78 ?_
    refine mk_get (pc := 80) dX7_setFits_80 hE.a21 (by omega) (by decide) ?_
    refine mk_put (pc := 81) dX7_setFits_81 hE.a9 (by omega) (by decide) ?_
    refine cm_mkG (fun G81 e81 f81 => ?_)
    refine cm_incN4 (pc := 82) dX7_setFits_82 (by decide) rfl ?_
    refine cm_goto (pc := 85) (tgt := 61) dX7_setFits_85 (by decide) ?_
    refine hst G81 ⟨fun c h1 => by rw [e81 c h1]; exact hX.1 c h1, fun j => ?_⟩
    rw [f81, hX.1 21 (by decide)]
    unfold upd
    by_cases q9 : j = k
    · rw [if_pos q9, if_pos (by omega), q9]
    · rw [if_neg q9, hX.2 j]
      by_cases q8 : j < k
      · rw [if_pos q8, if_pos (by omega)]
      · rw [if_neg q8, if_neg (by omega)]
set_option maxRecDepth 20000 in
theorem r_setFits (hE : cm_mdl sh hr e) {n r : Nat} {set : Int32} (h : uOk u nb ns) (hn20 : n ≤ 20) (hr6 : r < 6) (hsb : ∀ j, nb ≤ j → j < 6 → sbU set j = false) : cm_ct D mX7_setFits (d + 13) 0 0 [.ref e, .int set, .int (nI n), .int (nI r)] (sh, cm_us hi e u, hl, hr) (fun r9 h9 => r9 = none ∧ ∃ V9 F9, h9 = (sh, cm_us hi e V9, hl, hr) ∧ uFits u nb ns n set r F9 V9) := by
  have hnb := h.1.2.1
  have hns := h.1.2.2.2
  refine cm_ct_of (ls := [some (.ref e), some (.int set), some (.int (nI n)), some (.int (nI r)), none]) 1 (by decide +kernel) rfl rfl ?_
  refine cm_aload0 (pc := 0) dX7_setFits_0 ?_
  refine cm_iconst (pc := 1) (v := 0) dX7_setFits_1 (by decide) ?_
  refine mk_set (pc := 2) fpX7_295 dX7_setFits_2 hE.1 ?_
  refine cm_mkG (fun G2 e2 f2 => ?_)
  refine cm_aload0 (pc := 5) dX7_setFits_5 ?_
  refine cm_bipush (pc := 6) (v := -9) dX7_setFits_6 (by decide) ?_
  refine mk_set (pc := 8) fpX7_298 dX7_setFits_8 hE.1 ?_
  refine cm_mkG (fun G8 e8 f8 => ?_)
  refine cm_iconst (pc := 11) (v := 0) dX7_setFits_11 (by decide) ?_
  refine cm_istore4 (pc := 12) dX7_setFits_12 (by decide) rfl ?_
  refine l_sf1 hE (n := n) (r := r) (set := set) (A := G8) 6 0 (by omega) (fun X hX => ?_) G8 ⟨fun _ _ _ => rfl, fun j => by rw [if_neg (by omega)], fun j => by rw [if_neg (by omega)]⟩
  have hx0 : ∀ j, j ≠ 40 → j ≠ 41 → X 0 j = u 0 j := fun j h1 h2 => by rw [hX.1 0 (by decide) (by decide), f8, pk_un h2, f2, pk_un h1]
  have hxc : ∀ c, c ≠ 0 → c ≠ 21 → c ≠ 22 → X c = u c := fun c h1 h2 h3 => by rw [hX.1 c h2 h3, e8 c h1, e2 c h1]
  have hXI : uFI u X nb (sbU set) (fun _ => false) (0 * uWt (sbU set) nb 0) 0 0 := by
    rw [Nat.zero_mul]
    refine ⟨⟨fun j hj => hx0 j (by omega) (by omega), fun c hc => hxc c (by omega) (by omega) (by omega), fun c h1 h2 h9 i hi => by rw [hxc c (by omega) (by omega) (by omega)], fun i h1 hi => by rw [hxc 9 (by decide) (by decide) (by decide)]⟩, fun j hj => absurd hj (by omega), fun j h1 h2 h3 => by rw [hxc 9 (by decide) (by decide) (by decide)], ?_, ?_, fun j hj hs => ?_, fun j hj => ?_⟩
    · rw [hX.1 0 (by decide) (by decide), f8, pk_un (by decide), f2, pk_us]; rfl
    · rw [hX.1 0 (by decide) (by decide), f8, pk_us]; rfl
    · rw [hX.2.2 j, if_pos (by omega)]; rfl
    · rw [hX.2.1 j, if_pos hj, e8 9 (by decide), e2 9 (by decide)]
  have hoo := r_fitOn (D := D) (d := d + (6 - nb)) (sh := sh) (hi := hi) (hl := hl) hE h hn20 hr6 hsb nb 0 0 X (fun _ => false) (by omega) (by rw [Nat.zero_add, Nat.one_mul]; exact Nat.le_trans (uWt_le nb 0) (p5_le hnb)) hXI
  rw [show d + (6 - nb) + 6 + nb = d + 12 by omega] at hoo
  refine cm_aload0 (pc := 49) dX7_setFits_49 ?_
  refine cm_iload1 (pc := 50) dX7_setFits_50 ?_
  refine cm_iload2 (pc := 51) dX7_setFits_51 ?_
  refine cm_iload3 (pc := 52) dX7_setFits_52 ?_
  refine cm_iconst (pc := 53) (v := 0) dX7_setFits_53 (by decide) ?_
  refine cm_iconst (pc := 54) (v := 0) dX7_setFits_54 (by decide) ?_
  refine cm_V5 (pc := 55) mX7_fitOn_v mlX7_301 dX7_setFits_55 hE.1 (by omega) (Nat.le_of_ble_eq_true rfl) (Nat.le_refl _) (Nat.le_refl _) ((hoo)) (fun r55 h55 hq55 => ?_)
  obtain ⟨rfl, V, F9, rfl, hV1, hV2, hV⟩ := hq55
  refine cm_iconst (pc := 58) (v := 0) dX7_setFits_58 (by decide) ?_
  refine cm_istore4 (pc := 59) dX7_setFits_59 (by decide) rfl ?_
  refine cm_g_imp (fun r9 h9 q => ?_) (l_sf2 hE (n := n) (r := r) (set := set) (A := V) 6 0 (by omega) V ⟨fun _ _ => rfl, fun j => by rw [if_neg (by omega)]⟩)
  obtain ⟨q1, Z, q2, q3, q4⟩ := q
  rw [Nat.zero_add, Nat.one_mul] at hV2 hV
  refine ⟨q1, Z, F9, q2, ⟨fun j hj => by rw [q3 0 (by decide)]; exact hV.1.1 j hj, fun c hc => by rw [q3 c (by omega)]; exact hV.1.2.1 c hc, fun c h1 h2 i hi => ?_⟩, fun w hw => hV2 w (by omega) hw, by rw [q3 0 (by decide)]; exact hV.2.2.2.1, by rw [q3 0 (by decide)]; exact hV.2.2.2.2.1, fun j hj hs => by rw [q3 22 (by decide)]; exact hV.2.2.2.2.2.1 j hj hs⟩
  by_cases w9 : c = 9
  · subst w9
    rw [q4 i, if_pos hi]
    exact hV.2.2.2.2.2.2 i hi
  · rw [q3 c w9]
    exact hV.1.2.2.1 c h1 h2 w9 i hi
set_option maxRecDepth 20000 in
theorem r_fits (hE : cm_mdl sh hr e) {set n r : Int32} (h : uOk u nb ns) (hI : uInv u) : cm_ct D mX7_fits (d + 14) 0 0 [.ref e, .int set, .int n, .int r] (sh, cm_us hi e u, hl, hr) (fun r9 h9 => ∃ v, h9 = (sh, cm_us hi e v, hl, hr) ∧ (if 0 ≤ (uKT u nb set n r).1 then ∃ F V, uFits u nb ns n.toNatClampNeg set r.toNatClampNeg F V ∧ r9 = some (.int (nI (skFold (sbU set) F (uWt (sbU set) nb 0)).1)) ∧ v = uAsk V (skFold (sbU set) F (uWt (sbU set) nb 0)).2.1 else r9 = some (.int (uKT u nb set n r).1) ∧ v = (uKT u nb set n r).2)) := by
  have hnb := h.1.2.1
  have hns := h.1.2.2.2
  refine cm_ct_of (ls := [some (.ref e), some (.int set), some (.int n), some (.int r), none]) 1 (by decide +kernel) rfl rfl ?_
  refine cm_aload0 (pc := 0) dX7_fits_0 ?_
  refine cm_iload1 (pc := 1) dX7_fits_1 ?_
  refine cm_iload2 (pc := 2) dX7_fits_2 ?_
  refine cm_iload3 (pc := 3) dX7_fits_3 ?_
  refine cm_V3 (pc := 4) mX7_askedTrack_v mlX7_308 dX7_fits_4 hE.1 (by omega) (Nat.le_of_ble_eq_true rfl) (Nat.le_refl _) (Nat.le_refl _) (r_askedTrack (d := d + 10) hE h hI) (fun r4 h4 hq4 => ?_)
  obtain ⟨rfl, rfl⟩ := hq4
  refine cm_istore4 (pc := 7) dX7_fits_7 (by decide) rfl ?_
  refine cm_iload4 (pc := 9) dX7_fits_9 ?_
  refine cm_if_ge (pc := 11) (tgt := 17) dX7_fits_11 (by decide) (fun c11 => ?_) (fun c11 => ?_)
  · obtain ⟨k1, k2, k3, k4, k5, k6, k7⟩ := uKT_ok c11
    rw [k1]
    have zs := uIn_zz.mp k3
    have zn := uIn_zz.mp k4
    have hp := p2_64 hnb
    have z0 : (0 : Int32).toInt = 0 := by decide
    have z20 : (20 : Int32).toInt = 20 := by decide
    rw [z0, nI_toInt (by omega)] at zs
    rw [z0, z20] at zn
    obtain ⟨j9, hj9, rfl⟩ := uIn_ex 5 k5
    have hj9c : (nI j9).toNatClampNeg = j9 := nI_clamp (by omega)
    have en : n = nI n.toNatClampNeg := z_of (by omega)
    have wn : n.toNatClampNeg = n.toInt.toNat := rfl
    have es : set = nI set.toNatClampNeg := z_of (by omega)
    have ws : set.toNatClampNeg = set.toInt.toNat := rfl
    have hsb := sbU_cut (nb := nb) (s := set.toNatClampNeg) hnb (by omega)
    rw [← es] at hsb
    generalize hq9 : n.toNatClampNeg = q9 at *
    subst en
    refine cm_aload0 (pc := 17) dX7_fits_17 ?_
    refine cm_iload1 (pc := 18) dX7_fits_18 ?_
    refine cm_iload2 (pc := 19) dX7_fits_19 ?_
    refine cm_iload3 (pc := 20) dX7_fits_20 ?_
    refine cm_V3 (pc := 21) mX7_setFits_v mlX7_311 dX7_fits_21 hE.1 (by omega) (Nat.le_of_ble_eq_true rfl) (Nat.le_refl _) (Nat.le_refl _) (r_setFits (d := d) hE h (n := q9) (by omega) (by omega) hsb) (fun r21 h21 hq21 => ?_)
    obtain ⟨rfl, V, F, rfl, hV⟩ := hq21
    refine cm_aload0 (pc := 24) dX7_fits_24 ?_
    refine cm_aload0 (pc := 25) dX7_fits_25 ?_
    refine mk_fld (pc := 26) flX7_298 dX7_fits_26 hE.1 ?_
    rw [hV.2.2.2.1]
    refine cm_aload0 (pc := 29) dX7_fits_29 ?_
    refine mk_fld (pc := 30) flX7_295 dX7_fits_30 hE.1 ?_
    rw [hV.2.2.1]
    refine cm_V2 (pc := 33) mX7_ask_v mlX7_109 dX7_fits_33 hE.1 (by omega) (Nat.le_of_ble_eq_true rfl) (Nat.le_refl _) (Nat.le_refl _) (r_ask (d := d + 13) hE) (fun r33 h33 hq33 => ?_)
    obtain ⟨rfl, rfl⟩ := hq33
    exact cm_iret (pc := 36) dX7_fits_36 rfl ⟨_, rfl, by rw [if_pos c11, hj9c]; exact ⟨F, V, hV, rfl, rfl⟩⟩
  · refine cm_iload4 (pc := 14) dX7_fits_14 ?_
    exact cm_iret (pc := 16) dX7_fits_16 rfl ⟨_, rfl, by rw [if_neg c11]; exact ⟨rfl, rfl⟩⟩
set_option maxRecDepth 20000 in
theorem r_could (hE : cm_mdl sh hr e) {set n r i : Int32} (h : uOk u nb ns) (hI : uInv u) : cm_ct D mX7_could (d + 14) 0 0 [.ref e, .int set, .int n, .int r, .int i] (sh, cm_us hi e u, hl, hr) (fun r9 h9 => ∃ v, h9 = (sh, cm_us hi e v, hl, hr) ∧ (if uIn i 0 (u 0 9 - 1) = false ∨ uHas set i = false then r9 = some (.int (-1)) ∧ v = u else if 0 ≤ (uKT u nb set n r).1 then ∃ F, uFits u nb ns n.toNatClampNeg set r.toNatClampNeg F v ∧ r9 = some (.int ((skFold (sbU set) F (uWt (sbU set) nb 0)).2.2 i.toNatClampNeg)) else r9 = some (.int (uKT u nb set n r).1) ∧ v = (uKT u nb set n r).2)) := by
  have hnb := h.1.2.1
  have hns := h.1.2.2.2
  refine cm_ct_of (ls := [some (.ref e), some (.int set), some (.int n), some (.int r), some (.int i), none]) 1 (by decide +kernel) rfl rfl ?_
  refine cm_aload0 (pc := 0) dX7_could_0 ?_
  refine cm_iload4 (pc := 1) dX7_could_1 ?_
  refine cm_V1 (pc := 3) mX7_isBuyer_v mlX7_166 dX7_could_3 hE.1 (by omega) (Nat.le_of_ble_eq_true rfl) (Nat.le_refl _) (Nat.le_refl _) (r_isBuyer (d := d + 12) hE) (fun r3 h3 hq3 => ?_)
  obtain ⟨rfl, rfl⟩ := hq3
  refine cm_ifeqB (pc := 6) (tgt := 18) dX7_could_6 (by decide) (fun c6 => ?_) (fun c6 => ?_)
  · refine cm_iconst (pc := 18) (v := -1) dX7_could_18 (by decide) ?_
    exact cm_iret (pc := 19) dX7_could_19 rfl ⟨u, rfl, by rw [if_pos (Or.inl c6)]; exact ⟨rfl, rfl⟩⟩
  · obtain ⟨j, hj, rfl⟩ := uIn_b (m := nb) (by rw [← h.1.1]; exact c6) (by omega)
    have hjc : (nI j).toNatClampNeg = j := nI_clamp (by omega)
    refine cm_iload1 (pc := 9) dX7_could_9 ?_
    refine cm_iload4 (pc := 10) dX7_could_10 ?_
    refine cm_S2 (pc := 12) mX7_has_s mlX7_207 dX7_could_12 (by omega) (Nat.le_of_ble_eq_true rfl) (Nat.le_refl _) (Nat.le_refl _) (r_has (d := d + 13)) (fun r12 h12 hq12 => ?_)
    obtain ⟨rfl, rfl⟩ := hq12
    refine cm_ifneB (pc := 15) (tgt := 20) dX7_could_15 (by decide) (fun c15 => ?_) (fun c15 => ?_)
    · refine cm_aload0 (pc := 20) dX7_could_20 ?_
      refine cm_iload1 (pc := 21) dX7_could_21 ?_
      refine cm_iload2 (pc := 22) dX7_could_22 ?_
      refine cm_iload3 (pc := 23) dX7_could_23 ?_
      refine cm_V3 (pc := 24) mX7_askedTrack_v mlX7_308 dX7_could_24 hE.1 (by omega) (Nat.le_of_ble_eq_true rfl) (Nat.le_refl _) (Nat.le_refl _) (r_askedTrack (d := d + 10) hE h hI) (fun r24 h24 hq24 => ?_)
      obtain ⟨rfl, rfl⟩ := hq24
      refine cm_istore5 (pc := 27) dX7_could_27 (by decide) rfl ?_
      refine cm_iload5 (pc := 29) dX7_could_29 ?_
      refine cm_if_ge (pc := 31) (tgt := 37) dX7_could_31 (by decide) (fun c31 => ?_) (fun c31 => ?_)
      · obtain ⟨k1, k2, k3, k4, k5, k6, k7⟩ := uKT_ok c31
        rw [k1]
        have zs := uIn_zz.mp k3
        have zn := uIn_zz.mp k4
        have hp := p2_64 hnb
        have z0 : (0 : Int32).toInt = 0 := by decide
        have z20 : (20 : Int32).toInt = 20 := by decide
        rw [z0, nI_toInt (by omega)] at zs
        rw [z0, z20] at zn
        obtain ⟨j9, hj9, rfl⟩ := uIn_ex 5 k5
        have hj9c : (nI j9).toNatClampNeg = j9 := nI_clamp (by omega)
        have en : n = nI n.toNatClampNeg := z_of (by omega)
        have wn : n.toNatClampNeg = n.toInt.toNat := rfl
        have es : set = nI set.toNatClampNeg := z_of (by omega)
        have ws : set.toNatClampNeg = set.toInt.toNat := rfl
        have hsb := sbU_cut (nb := nb) (s := set.toNatClampNeg) hnb (by omega)
        rw [← es] at hsb
        generalize hq9 : n.toNatClampNeg = q9 at *
        subst en
        refine cm_aload0 (pc := 37) dX7_could_37 ?_
        refine cm_iload1 (pc := 38) dX7_could_38 ?_
        refine cm_iload2 (pc := 39) dX7_could_39 ?_
        refine cm_iload3 (pc := 40) dX7_could_40 ?_
        refine cm_V3 (pc := 41) mX7_setFits_v mlX7_311 dX7_could_41 hE.1 (by omega) (Nat.le_of_ble_eq_true rfl) (Nat.le_refl _) (Nat.le_refl _) (r_setFits (d := d) hE h (n := q9) (by omega) (by omega) hsb) (fun r41 h41 hq41 => ?_)
        obtain ⟨rfl, V, F, rfl, hV⟩ := hq41
        refine cm_aload0 (pc := 44) dX7_could_44 ?_
        refine cm_getR (pc := 45) flX7_73 dX7_could_45 hE.1 hE.r42 ?_
        refine cm_iload4 (pc := 48) dX7_could_48 ?_
        refine mk_get (pc := 50) dX7_could_50 hE.a22 (by omega) (by decide) ?_
        exact cm_iret (pc := 51) dX7_could_51 rfl ⟨_, rfl, by rw [if_neg (fun w => by rcases w with w | w <;> first | (rw [c6] at w; cases w) | (rw [c15] at w; cases w)), if_pos c31, hj9c]; exact ⟨F, hV, by rw [hjc, hV.2.2.2.2 j hj c15]⟩⟩
      · refine cm_iload5 (pc := 34) dX7_could_34 ?_
        exact cm_iret (pc := 36) dX7_could_36 rfl ⟨_, rfl, by rw [if_neg (fun w => by rcases w with w | w <;> first | (rw [c6] at w; cases w) | (rw [c15] at w; cases w)), if_neg c31]; exact ⟨rfl, rfl⟩⟩
    · refine cm_iconst (pc := 18) (v := -1) dX7_could_18 (by decide) ?_
      exact cm_iret (pc := 19) dX7_could_19 rfl ⟨u, rfl, by rw [if_pos (Or.inr c15)]; exact ⟨rfl, rfl⟩⟩
end U10
