/-! PART ucalls5: the reference's calls: minutes aside, sums -/
def uFs (b : Nat → Bool) : Nat → Nat → Option Nat
  | 0, _ => none
  | q + 1, k => if b (k + 1) then some (k + 1) else uFs b q (k + 1)
theorem uFs_hit {b : Nat → Bool} : ∀ {q k m : Nat}, uFs b q k = some m → k < m ∧ m ≤ k + q ∧ b m = true
  | 0, k, m, h => by cases h
  | q + 1, k, m, h => by
    unfold uFs at h
    split at h
    · next hb => cases h; exact ⟨by omega, by omega, hb⟩
    · have := uFs_hit h; exact ⟨by omega, by omega, this.2.2⟩
def uB0 (u : cm_g2) (nb ns i m : Nat) : Bool := uHas (uItW (uPA u) nb ns (fun _ => 0) (nI i) m 0 25) (nI i)
def uWhen (u : cm_g2) (nb ns i : Nat) (r9 : Option Value) (v : cm_g2) : Prop := match uFs (uB0 u nb ns i) 60 0 with
  | none => r9 = some (.int (-9)) ∧ uEq u v
  | some m => r9 = some (.int (nI m)) ∧ ∃ v', uEq u v' ∧ v = uAsk v' (uItW (uPA u) nb ns (fun _ => 0) (nI i) m 0 27)
def uIsP (v : cm_g2) (a : Nat) : Nat → Bool
  | 0 => true
  | i + 1 => uIsP v a i && (decide (v 18 (a + i) = v 8 i) && decide (v 18 (a + 6 + i) = v 9 i))
def psOk (v W : cm_g2) (a k : Nat) : Prop := (∀ c, c ≠ 18 → W c = v c) ∧ ∀ x, W 18 x = if a ≤ x ∧ x < a + 12 ∧ (x - a) % 6 < k then (if x < a + 6 then v 8 (x - a) else v 9 (x - a - 6)) else v 18 x
def uSP (v : cm_g2) (a nb : Nat) : cm_g2 := va_up v 18 (fun x => if a ≤ x ∧ x < a + 12 ∧ (x - a) % 6 < nb then (if x < a + 6 then v 8 (x - a) else v 9 (x - a - 6)) else v 18 x)
theorem psOk.eq {v W : cm_g2} {a nb : Nat} (h : psOk v W a nb) : W = uSP v a nb := upG h.1 (funext h.2)
theorem uSP_c {v : cm_g2} {a nb c : Nat} (h : c ≠ 18) : uSP v a nb c = v c := va_up_ne _ _ h
theorem uOk.sp {v : cm_g2} {a nb ns : Nat} (h : uOk v nb ns) : uOk (uSP v a nb) nb ns := by
  refine ⟨by rw [uSP_c (by decide)]; exact h.1, fun i hi => by rw [uSP_c (by decide)]; exact h.2.1 i hi, fun k hk => by rw [uSP_c (by decide)]; exact h.2.2 k hk⟩
def uRs (u : cm_g2) (nb ns : Nat) : Nat → cm_g2
  | 0 => uSP (uPA u) 0 nb
  | m + 1 => uSP (uPass (uRs u nb ns m) nb ns 0 (-9)) (12 * ((m + 1) % 7)) nb
def uRb (u : cm_g2) (nb ns : Nat) : Nat → Bool
  | 0 => false
  | m + 1 => decide (7 ≤ m + 1) && uIsP (uPass (uRs u nb ns m) nb ns 0 (-9)) (12 * ((m + 1) % 7)) nb
def uWantN (v : cm_g2) (nb : Nat) : Int32 := sumP (fun i => if v 9 i = 4 then 0 else 1) nb
theorem uOk.rs {u : cm_g2} {nb ns : Nat} (h : uOk u nb ns) : ∀ m, uOk (uRs u nb ns m) nb ns
  | 0 => h.pa.sp
  | m + 1 => (uOk.rs h m).pass.sp
theorem uRs_c {u : cm_g2} {nb ns c : Nat} (h : c ≠ 0 ∧ c ≠ 8 ∧ c ≠ 9 ∧ c ≠ 10 ∧ c ≠ 14 ∧ c ≠ 18) : ∀ m, uRs u nb ns m c = uPA u c
  | 0 => uSP_c h.2.2.2.2.2
  | m + 1 => by
    show uSP _ _ _ c = _
    rw [uSP_c h.2.2.2.2.2, uPass_c ⟨h.1, h.2.1, h.2.2.1, h.2.2.2.1, h.2.2.2.2.1⟩, uRs_c h m]
theorem uRs_0 {u : cm_g2} {nb ns j : Nat} (h : j ≠ 19 ∧ j ≠ 25 ∧ j ≠ 26 ∧ j ≠ 27) : ∀ m, uRs u nb ns m 0 j = uPA u 0 j
  | 0 => by show uSP _ _ _ 0 j = _; rw [uSP_c (by decide)]
  | m + 1 => by
    show uSP _ _ _ 0 j = _
    rw [uSP_c (by decide), uPass_0 h, uRs_0 h m]
theorem uRs_back {u : cm_g2} {nb ns : Nat} (m : Nat) : uEq u (uCB (uRs u nb ns m)) := by
  have e := uPA_eq (u := u)
  refine uCB_eq (fun j hj => ?_) ?_ (fun y hy => ?_) (fun c hc => ?_) (fun c hc i hi => ?_)
  · rw [uRs_0 (by omega), e.2.1 j (by omega)]
  · rw [uRs_0 (by decide), e.2.2.1]
  · rw [uRs_c (by decide), e.2.2.2 y hy]
  · rw [uRs_c (by omega), e.1 c (by omega) (by omega)]
  · rw [uRs_c (by omega), e.1 c (by omega) (by omega)]
def uRest (u : cm_g2) (nb ns : Nat) (r9 : Option Value) (v : cm_g2) : Prop := if u 0 9 = 0 then r9 = some (.int (-4)) ∧ v = u else match uFs (uRb u nb ns) 200 0 with
  | none => r9 = some (.int (-9)) ∧ uEq u v
  | some m => r9 = some (.int (nI m)) ∧ ∃ v', uEq u v' ∧ v = uAsk v' (uWantN (uRs u nb ns m) nb)
def rowF (f : Nat → Int32) (r nb : Nat) (g : Nat → Int32) : Nat → Int32 := fun x => if 40 * r ≤ x ∧ x < 40 * r + 40 then (if x < 40 * r + nb then g (x - 40 * r) else 0) else f x
def uPR (u : cm_g2) (r nb : Nat) (g : Nat → Int32) : cm_g2 := va_up (va_up u 2 (upd (u 2) r (nI nb))) 3 (rowF (u 3) r nb g)
theorem uPR_c {u : cm_g2} {r nb c : Nat} {g : Nat → Int32} (h : c ≠ 2 ∧ c ≠ 3) : uPR u r nb g c = u c := by
  unfold uPR
  rw [va_up_ne _ _ h.2, va_up_ne _ _ h.1]
theorem uPR_3 {u : cm_g2} {r nb : Nat} {g : Nat → Int32} : uPR u r nb g 3 = rowF (u 3) r nb g := va_up_self _ _ _
theorem uPR_2 {u : cm_g2} {r nb : Nat} {g : Nat → Int32} : uPR u r nb g 2 = upd (u 2) r (nI nb) := by
  unfold uPR
  rw [va_up_ne _ _ (by decide), va_up_self]
theorem uPR_put {u : cm_g2} {r nb k : Nat} {g : Nat → Int32} (hk : k < 40) : va_up (va_up (va_up u 2 (upd (u 2) r (nI nb))) 3 (rowF (u 3) r k g)) 3 (upd (va_up (va_up u 2 (upd (u 2) r (nI nb))) 3 (rowF (u 3) r k g) 3) (40 * r + k) (g k)) = va_up (va_up u 2 (upd (u 2) r (nI nb))) 3 (rowF (u 3) r (k + 1) g) := by
  rw [va_up_self, bx_uu]
  congr 1
  funext x
  unfold upd rowF
  by_cases q9 : x = 40 * r + k
  · subst q9
    rw [if_pos rfl, if_pos (by omega), if_pos (by omega), show 40 * r + k - 40 * r = k by omega]
  · rw [if_neg q9]
    by_cases q8 : 40 * r ≤ x ∧ x < 40 * r + 40
    · rw [if_pos q8, if_pos q8]
      by_cases q7 : x < 40 * r + k
      · rw [if_pos q7, if_pos (by omega)]
      · rw [if_neg q7, if_neg (by omega)]
    · rw [if_neg q8, if_neg q8]
/-- put aside, MINUTES, a ROW, come back -/
theorem uPR_back {u V : cm_g2} {r nb : Nat} {g : Nat → Int32} (h0 : ∀ j, j = 0 ∨ j = 2 ∨ j = 8 ∨ j = 9 ∨ j = 10 ∨ j = 20 → V 0 j = u 0 j) (h31 : V 0 31 = u 0 19) (h17 : ∀ y, y < 24 → V 17 y = uBk u y) (hc : ∀ c, c = 1 ∨ c = 2 ∨ c = 3 ∨ c = 5 ∨ c = 6 ∨ c = 15 ∨ c = 16 → V c = u c) (hs : ∀ c, c = 7 ∨ c = 11 ∨ c = 12 ∨ c = 13 → ∀ i, i < 6 → V c i = u c i) : uEq (uPR u r nb g) (uCB (uPR V r nb g)) := by
  refine uCB_eq (fun j hj => ?_) ?_ (fun y hy => ?_) (fun c hc9 => ?_) (fun c hc9 i hi => ?_)
  · rw [uPR_c (by decide), uPR_c (by decide)]; exact h0 j hj
  · rw [uPR_c (by decide), uPR_c (by decide)]; exact h31
  · rw [uPR_c (by decide), h17 y hy]
    unfold uBk
    rw [uPR_c (by decide), uPR_c (by decide), uPR_c (by decide), uPR_c (by decide)]
  · by_cases q2 : c = 2
    · subst q2; rw [uPR_2, uPR_2, hc 2 (by omega)]
    · by_cases q3 : c = 3
      · subst q3; rw [uPR_3, uPR_3, hc 3 (by omega)]
      · rw [uPR_c ⟨q2, q3⟩, uPR_c ⟨q2, q3⟩]; exact hc c hc9
  · rw [uPR_c (by omega), uPR_c (by omega)]; exact hs c hc9 i hi
def uTrack (u : cm_g2) (nb ns : Nat) (n r : Int32) (r9 : Option Value) (v : cm_g2) : Prop := if uIn n 0 60 = false ∨ uIn r 0 5 = false then r9 = some (.int (-1)) ∧ v = u else r9 = some (.int 1) ∧ ∃ v', uEq (uPR u r.toNatClampNeg nb (uItW (uPA u) nb ns (fun _ => 0) (-9) n.toNatClampNeg 8)) v' ∧ v = uAsk v' (uSun (uItW (uPA u) nb ns (fun _ => 0) (-9) n.toNatClampNeg))
def uLot (seed : Int64) : Nat → Int64
  | 0 => seed
  | m + 1 => 48271 * uLot seed m - 48271 * uLot seed m / 2147483647 * 2147483647
def uWind (seed : Int64) (m : Nat) : Int32 := (uLot seed (m + 1) - uLot seed (m + 1) / 3 * 3).toInt32 - 1
def uWc (v : Nat → cm_g2) : Nat → Int32
  | 0 => 0
  | k + 1 => uWc v k + uSz (v (k + 1) 0 25) 10
def uWs (v : Nat → cm_g2) : Nat → Int32
  | 0 => 0
  | k + 1 => uWs v k + v (k + 1) 0 26
abbrev uWv (u : cm_g2) (nb ns : Nat) (seed : Int32) : Nat → cm_g2 := uItW (uPA u) nb ns (uWind seed.toInt64) (-9)
def uWinds (u : cm_g2) (nb ns : Nat) (n seed : Int32) (r9 : Option Value) (v : cm_g2) : Prop := if uIn n 1 60 = false ∨ uIn seed 1 2147483646 = false then r9 = some (.int (-1)) ∧ v = u else if u 0 9 = 0 then r9 = some (.int (-4)) ∧ v = u else r9 = some (.int (uWc (uWv u nb ns seed) n.toNatClampNeg)) ∧ ∃ v', uEq u v' ∧ v = uAsk v' (uWs (uWv u nb ns seed) n.toNatClampNeg)
theorem uLA_c {u : cm_g2} {nb ns c : Nat} (h : c ≠ 0 ∧ c ≠ 8 ∧ c ≠ 9 ∧ c ≠ 10 ∧ c ≠ 14) : ∀ m, uLA u nb ns m c = uPA u c
  | 0 => va_up_ne _ _ h.1
  | m + 1 => by
    show va_up _ 0 _ c = _
    rw [va_up_ne _ _ h.1, uPass_c h, uLA_c h m]
theorem uLA_0 {u : cm_g2} {nb ns j : Nat} (h : j ≠ 19 ∧ j ≠ 25 ∧ j ≠ 26 ∧ j ≠ 27 ∧ j ≠ 32 ∧ j ≠ 33) : ∀ m, uLA u nb ns m 0 j = uPA u 0 j
  | 0 => by
    show (va_up _ 0 _ : cm_g2) 0 j = _
    rw [va_up_self, pk_un h.2.2.2.2.2, pk_un h.2.2.2.2.1]
  | m + 1 => by
    show (va_up _ 0 _ : cm_g2) 0 j = _
    rw [va_up_self, pk_un h.2.2.2.2.2, pk_un h.2.2.2.2.1, uPass_0 ⟨h.1, h.2.1, h.2.2.1, h.2.2.2.1⟩, uLA_0 h m]
theorem uLA_back {u : cm_g2} {nb ns : Nat} (m : Nat) : uEq u (uCB (uLA u nb ns m)) := by
  have e := uPA_eq (u := u)
  refine uCB_eq (fun j hj => ?_) ?_ (fun y hy => ?_) (fun c hc => ?_) (fun c hc i hi => ?_)
  · rw [uLA_0 (by omega), e.2.1 j (by omega)]
  · rw [uLA_0 (by decide), e.2.2.1]
  · rw [uLA_c (by decide), e.2.2.2 y hy]
  · rw [uLA_c (by omega), e.1 c (by omega) (by omega)]
  · rw [uLA_c (by omega), e.1 c (by omega) (by omega)]
section U5
variable {D : cm_D} {d : Nat} {sh : List cm_Sh} {hi u : cm_g2} {hl : Nat → Nat → Int64} {hr : Nat → Nat → Option Nat} {e nb ns : Nat}
set_option maxRecDepth 20000 in
theorem l_rwant (hE : cm_mdl sh hr e) (h : uOk u nb ns) : ∀ q k : Nat, k + q = nb → cm_g D mX7_wanting d 0 0 (fun r9 h9 => r9 = some (.int (uWantN u nb)) ∧ h9 = (sh, cm_us hi e u, hl, hr)) 0 0 4 [some (.ref e), some (.int (sumP (fun i => if u 9 i = 4 then 0 else 1) k)), some (.int (nI k))] [] (sh, cm_us hi e u, hl, hr) := by
  have hnb := h.1.2.1
  have hns := h.1.2.2.2
  intro q
  induction q with
  | zero =>
    intro k hk
    have h1 : k = nb := by omega
    subst h1
    refine cm_iload2 (pc := 4) dX7_wanting_4 ?_
    refine cm_aload0 (pc := 5) dX7_wanting_5 ?_
    refine mk_fld (pc := 6) flX7_151 dX7_wanting_6 hE.1 ?_
    rw [h.1.1]
    refine cm_geN (pc := 9) (tgt := 36) dX7_wanting_9 (by decide) (by omega) (by omega) (fun c9 => ?_) (fun c9 => ?_)
    · refine cm_iload1 (pc := 36) dX7_wanting_36 ?_
      exact cm_iret (pc := 37) dX7_wanting_37 rfl ⟨rfl, rfl⟩
    · exact absurd c9 (by omega)
  | succ q ih =>
    intro k hk
    have hst := ih (k + 1) (by omega)
    refine cm_iload2 (pc := 4) dX7_wanting_4 ?_
    refine cm_aload0 (pc := 5) dX7_wanting_5 ?_
    refine mk_fld (pc := 6) flX7_151 dX7_wanting_6 hE.1 ?_
    rw [h.1.1]
    refine cm_geN (pc := 9) (tgt := 36) dX7_wanting_9 (by decide) (by omega) (by omega) (fun c9 => ?_) (fun c9 => ?_)
    · exact absurd c9 (by omega)
    · refine cm_iload1 (pc := 12) dX7_wanting_12 ?_
      refine cm_aload0 (pc := 13) dX7_wanting_13 ?_
      refine cm_getR (pc := 14) flX7_34 dX7_wanting_14 hE.1 hE.r13 ?_
      refine cm_iload2 (pc := 17) dX7_wanting_17 ?_
      refine mk_get (pc := 18) dX7_wanting_18 hE.a9 (by omega) (by decide) ?_
      refine cm_iconst (pc := 19) (v := 4) dX7_wanting_19 (by decide) ?_
      refine cm_icmp_ne (pc := 20) (tgt := 27) dX7_wanting_20 (by decide) (fun c20 => ?_) (fun c20 => ?_)
      · have e9 : sumP (fun i => if u 9 i = 4 then 0 else 1) (k + 1) = sumP (fun i => if u 9 i = 4 then 0 else 1) k + 1 := by simp [sumP, c20]
        rw [e9] at hst
        refine cm_iconst (pc := 27) (v := 1) dX7_wanting_27 (by decide) ?_
        refine cm_iadd (pc := 28) dX7_wanting_28 ?_
        refine cm_istore1 (pc := 29) dX7_wanting_29 (by decide) rfl ?_
        refine cm_incN2 (pc := 30) dX7_wanting_30 (by decide) rfl ?_
        refine cm_goto (pc := 33) (tgt := 4) dX7_wanting_33 (by decide) ?_
        exact hst
      · have e9 : sumP (fun i => if u 9 i = 4 then 0 else 1) (k + 1) = sumP (fun i => if u 9 i = 4 then 0 else 1) k + 0 := by simp [sumP, c20]
        rw [e9] at hst
        refine cm_iconst (pc := 23) (v := 0) dX7_wanting_23 (by decide) ?_
        refine cm_goto (pc := 24) (tgt := 28) dX7_wanting_24 (by decide) ?_
        refine cm_iadd (pc := 28) dX7_wanting_28 ?_
        refine cm_istore1 (pc := 29) dX7_wanting_29 (by decide) rfl ?_
        refine cm_incN2 (pc := 30) dX7_wanting_30 (by decide) rfl ?_
        refine cm_goto (pc := 33) (tgt := 4) dX7_wanting_33 (by decide) ?_
        exact hst
set_option maxRecDepth 20000 in
theorem r_wanting (hE : cm_mdl sh hr e) (h : uOk u nb ns) : cm_ct D mX7_wanting d 0 0 [.ref e] (sh, cm_us hi e u, hl, hr) (fun r9 h9 => r9 = some (.int (uWantN u nb)) ∧ h9 = (sh, cm_us hi e u, hl, hr)) := by
  refine cm_ct_of (ls := [some (.ref e), none, none]) 2 (by decide +kernel) rfl rfl ?_
  refine cm_iconst (pc := 0) (v := 0) dX7_wanting_0 (by decide) ?_
  refine cm_istore1 (pc := 1) dX7_wanting_1 (by decide) rfl ?_
  refine cm_iconst (pc := 2) (v := 0) dX7_wanting_2 (by decide) ?_
  refine cm_istore2 (pc := 3) dX7_wanting_3 (by decide) rfl ?_
  exact l_rwant hE h nb 0 (by omega)
set_option maxRecDepth 20000 in
theorem l_risp (hE : cm_mdl sh hr e) (h : uOk u nb ns) {a : Nat} (ha : a + 12 ≤ 84) : ∀ q k : Nat, k + q = nb → cm_g D mX7_isPast d 0 0 (fun r9 h9 => r9 = some (.int (cm_bi (uIsP u a nb))) ∧ h9 = (sh, cm_us hi e u, hl, hr)) 0 0 4 [some (.ref e), some (.int (nI a)), some (.int (cm_bi (uIsP u a k))), some (.int (nI k))] [] (sh, cm_us hi e u, hl, hr) := by
  have hnb := h.1.2.1
  have hns := h.1.2.2.2
  intro q
  induction q with
  | zero =>
    intro k hk
    have h1 : k = nb := by omega
    subst h1
    refine cm_iload3 (pc := 4) dX7_isPast_4 ?_
    refine cm_aload0 (pc := 5) dX7_isPast_5 ?_
    refine mk_fld (pc := 6) flX7_151 dX7_isPast_6 hE.1 ?_
    rw [h.1.1]
    refine cm_geN (pc := 9) (tgt := 65) dX7_isPast_9 (by decide) (by omega) (by omega) (fun c9 => ?_) (fun c9 => ?_)
    · refine cm_iload2 (pc := 65) dX7_isPast_65 ?_
      exact cm_zret (pc := 66) dX7_isPast_66 rfl (cm_nb _) ⟨rfl, rfl⟩
    · exact absurd c9 (by omega)
  | succ q ih =>
    intro k hk
    have hst := ih (k + 1) (by omega)
    refine cm_iload3 (pc := 4) dX7_isPast_4 ?_
    refine cm_aload0 (pc := 5) dX7_isPast_5 ?_
    refine mk_fld (pc := 6) flX7_151 dX7_isPast_6 hE.1 ?_
    rw [h.1.1]
    refine cm_geN (pc := 9) (tgt := 65) dX7_isPast_9 (by decide) (by omega) (by omega) (fun c9 => ?_) (fun c9 => ?_)
    · exact absurd c9 (by omega)
    · refine cm_iload2 (pc := 12) dX7_isPast_12 ?_
      refine cm_ifeqB (pc := 13) (tgt := 57) dX7_isPast_13 (by decide) (fun c13 => ?_) (fun c13 => ?_)
      · rw [show uIsP u a (k + 1) = false by simp [uIsP, c13]] at hst
        refine cm_iconst (pc := 57) (v := 0) dX7_isPast_57 (by decide) ?_
        refine cm_istore2 (pc := 58) dX7_isPast_58 (by decide) rfl ?_
        refine cm_incN3 (pc := 59) dX7_isPast_59 (by decide) rfl ?_
        refine cm_goto (pc := 62) (tgt := 4) dX7_isPast_62 (by decide) ?_
        exact hst
      · refine cm_aload0 (pc := 16) dX7_isPast_16 ?_
        refine cm_getR (pc := 17) flX7_61 dX7_isPast_17 hE.1 hE.r34 ?_
        refine cm_iload1 (pc := 20) dX7_isPast_20 ?_
        refine cm_iload3 (pc := 21) dX7_isPast_21 ?_
        refine cm_iadd (pc := 22) dX7_isPast_22 ?_
        rw [nI_add]
        refine mk_get (pc := 23) dX7_isPast_23 hE.a18 (by omega) (by decide) ?_
        refine cm_aload0 (pc := 24) dX7_isPast_24 ?_
        refine cm_getR (pc := 25) flX7_31 dX7_isPast_25 hE.1 hE.r12 ?_
        refine cm_iload3 (pc := 28) dX7_isPast_28 ?_
        refine mk_get (pc := 29) dX7_isPast_29 hE.a8 (by omega) (by decide) ?_
        refine cm_icmp_ne (pc := 30) (tgt := 57) dX7_isPast_30 (by decide) (fun c30 => ?_) (fun c30 => ?_)
        · rw [show uIsP u a (k + 1) = false by simp [uIsP, c30]] at hst
          refine cm_iconst (pc := 57) (v := 0) dX7_isPast_57 (by decide) ?_
          refine cm_istore2 (pc := 58) dX7_isPast_58 (by decide) rfl ?_
          refine cm_incN3 (pc := 59) dX7_isPast_59 (by decide) rfl ?_
          refine cm_goto (pc := 62) (tgt := 4) dX7_isPast_62 (by decide) ?_
          exact hst
        · refine cm_aload0 (pc := 33) dX7_isPast_33 ?_
          refine cm_getR (pc := 34) flX7_61 dX7_isPast_34 hE.1 hE.r34 ?_
          refine cm_iload1 (pc := 37) dX7_isPast_37 ?_
          refine cm_bipush (pc := 38) (v := 6) dX7_isPast_38 (by decide) ?_
          refine cm_iadd (pc := 40) dX7_isPast_40 ?_
          rw [show nI a + 6 = nI (a + 6) by rw [show (6 : Int32) = nI 6 from rfl, nI_add]]
          refine cm_iload3 (pc := 41) dX7_isPast_41 ?_
          refine cm_iadd (pc := 42) dX7_isPast_42 ?_
          rw [nI_add]
          refine mk_get (pc := 43) dX7_isPast_43 hE.a18 (by omega) (by decide) ?_
          refine cm_aload0 (pc := 44) dX7_isPast_44 ?_
          refine cm_getR (pc := 45) flX7_34 dX7_isPast_45 hE.1 hE.r13 ?_
          refine cm_iload3 (pc := 48) dX7_isPast_48 ?_
          refine mk_get (pc := 49) dX7_isPast_49 hE.a9 (by omega) (by decide) ?_
          refine cm_icmp_ne (pc := 50) (tgt := 57) dX7_isPast_50 (by decide) (fun c50 => ?_) (fun c50 => ?_)
          · rw [show uIsP u a (k + 1) = false by simp [uIsP, c50]] at hst
            refine cm_iconst (pc := 57) (v := 0) dX7_isPast_57 (by decide) ?_
            refine cm_istore2 (pc := 58) dX7_isPast_58 (by decide) rfl ?_
            refine cm_incN3 (pc := 59) dX7_isPast_59 (by decide) rfl ?_
            refine cm_goto (pc := 62) (tgt := 4) dX7_isPast_62 (by decide) ?_
            exact hst
          · rw [show uIsP u a (k + 1) = true by simp [uIsP, c13, c30, c50]] at hst
            refine cm_iconst (pc := 53) (v := 1) dX7_isPast_53 (by decide) ?_
            refine cm_goto (pc := 54) (tgt := 58) dX7_isPast_54 (by decide) ?_
            refine cm_istore2 (pc := 58) dX7_isPast_58 (by decide) rfl ?_
            refine cm_incN3 (pc := 59) dX7_isPast_59 (by decide) rfl ?_
            refine cm_goto (pc := 62) (tgt := 4) dX7_isPast_62 (by decide) ?_
            exact hst
set_option maxRecDepth 20000 in
theorem r_isPast (hE : cm_mdl sh hr e) (h : uOk u nb ns) {a : Nat} (ha : a + 12 ≤ 84) : cm_ct D mX7_isPast d 0 0 [.ref e, .int (nI a)] (sh, cm_us hi e u, hl, hr) (fun r9 h9 => r9 = some (.int (cm_bi (uIsP u a nb))) ∧ h9 = (sh, cm_us hi e u, hl, hr)) := by
  refine cm_ct_of (ls := [some (.ref e), some (.int (nI a)), none, none]) 2 (by decide +kernel) rfl rfl ?_
  refine cm_iconst (pc := 0) (v := 1) dX7_isPast_0 (by decide) ?_
  refine cm_istore2 (pc := 1) dX7_isPast_1 (by decide) rfl ?_
  refine cm_iconst (pc := 2) (v := 0) dX7_isPast_2 (by decide) ?_
  refine cm_istore3 (pc := 3) dX7_isPast_3 (by decide) rfl ?_
  exact l_risp hE h ha nb 0 (by omega)
set_option maxRecDepth 20000 in
theorem l_rsp (hE : cm_mdl sh hr e) (h : uOk u nb ns) {a : Nat} (ha : a + 12 ≤ 84) : ∀ q k : Nat, k + q = nb → ∀ W, psOk u W a k → cm_g D mX7_setPast d 0 0 (fun r9 h9 => r9 = none ∧ h9 = (sh, cm_us hi e (uSP u a nb), hl, hr)) 0 0 2 [some (.ref e), some (.int (nI a)), some (.int (nI k))] [] (sh, cm_us hi e (W), hl, hr) := by
  have hnb := h.1.2.1
  have hns := h.1.2.2.2
  intro q
  induction q with
  | zero =>
    intro k hk W hV
    have h1 : k = nb := by omega
    subst h1
    refine cm_iload2 (pc := 2) dX7_setPast_2 ?_
    refine cm_aload0 (pc := 3) dX7_setPast_3 ?_
    refine mk_fld (pc := 4) flX7_151 dX7_setPast_4 hE.1 ?_
    rw [show W 0 9 = nI k by rw [hV.1 0 (by decide)]; exact h.1.1]
    refine cm_geN (pc := 7) (tgt := 47) dX7_setPast_7 (by decide) (by omega) (by omega) (fun c7 => ?_) (fun c7 => ?_)
    · exact cm_vret (pc := 47) dX7_setPast_47 rfl ⟨rfl, by rw [hV.eq]⟩
    · exact absurd c7 (by omega)
  | succ q ih =>
    intro k hk W hV
    have hst := ih (k + 1) (by omega)
    refine cm_iload2 (pc := 2) dX7_setPast_2 ?_
    refine cm_aload0 (pc := 3) dX7_setPast_3 ?_
    refine mk_fld (pc := 4) flX7_151 dX7_setPast_4 hE.1 ?_
    rw [show W 0 9 = nI nb by rw [hV.1 0 (by decide)]; exact h.1.1]
    refine cm_geN (pc := 7) (tgt := 47) dX7_setPast_7 (by decide) (by omega) (by omega) (fun c7 => ?_) (fun c7 => ?_)
    · exact absurd c7 (by omega)
    · refine cm_aload0 (pc := 10) dX7_setPast_10 ?_
      refine cm_getR (pc := 11) flX7_61 dX7_setPast_11 hE.1 hE.r34 ?_
      refine cm_iload1 (pc := 14) dX7_setPast_14 ?_
      refine cm_iload2 (pc := 15) dX7_setPast_15 ?_
      refine cm_iadd (pc := 16) dX7_setPast_16 ?_
      rw [nI_add]
      refine cm_aload0 (pc := 17) dX7_setPast_17 ?_
      refine cm_getR (pc := 18) flX7_31 dX7_setPast_18 hE.1 hE.r12 ?_
      refine cm_iload2 (pc := 21) dX7_setPast_21 ?_
      refine mk_get (pc := 22) dX7_setPast_22 hE.a8 (by omega) (by decide) ?_
      refine mk_putE (pc := 23) (a + k) dX7_setPast_23 hE.a18 rfl (by omega) (by decide) ?_
      refine cm_mkG (fun G23 e23 f23 => ?_)
      refine cm_aload0 (pc := 24) dX7_setPast_24 ?_
      refine cm_getR (pc := 25) flX7_61 dX7_setPast_25 hE.1 hE.r34 ?_
      refine cm_iload1 (pc := 28) dX7_setPast_28 ?_
      refine cm_bipush (pc := 29) (v := 6) dX7_setPast_29 (by decide) ?_
      refine cm_iadd (pc := 31) dX7_setPast_31 ?_
      rw [show nI a + 6 = nI (a + 6) by rw [show (6 : Int32) = nI 6 from rfl, nI_add]]
      refine cm_iload2 (pc := 32) dX7_setPast_32 ?_
      refine cm_iadd (pc := 33) dX7_setPast_33 ?_
      rw [nI_add]
      refine cm_aload0 (pc := 34) dX7_setPast_34 ?_
      refine cm_getR (pc := 35) flX7_34 dX7_setPast_35 hE.1 hE.r13 ?_
      refine cm_iload2 (pc := 38) dX7_setPast_38 ?_
      refine mk_get (pc := 39) dX7_setPast_39 hE.a9 (by omega) (by decide) ?_
      refine mk_putE (pc := 40) (a + 6 + k) dX7_setPast_40 hE.a18 rfl (by omega) (by decide) ?_
      refine cm_mkG (fun G40 e40 f40 => ?_)
      refine cm_incN2 (pc := 41) dX7_setPast_41 (by decide) rfl ?_
      refine cm_goto (pc := 44) (tgt := 2) dX7_setPast_44 (by decide) ?_
      refine hst G40 ⟨fun c hc => by rw [e40 c hc, e23 c hc]; exact hV.1 c hc, fun x => ?_⟩
      have a8 : W 8 k = u 8 k := by rw [hV.1 8 (by decide)]
      have a9 : G23 9 k = u 9 k := by rw [e23 9 (by decide), hV.1 9 (by decide)]
      rw [f40, f23, a8, a9]
      unfold upd
      by_cases q2 : x = a + 6 + k
      · rw [if_pos q2, if_pos (by omega), if_neg (by omega), show x - a - 6 = k by omega]
      · rw [if_neg q2]
        by_cases q1 : x = a + k
        · rw [if_pos q1, if_pos (by omega), if_pos (by omega), show x - a = k by omega]
        · rw [if_neg q1, hV.2 x]
          by_cases q0 : a ≤ x ∧ x < a + 12 ∧ (x - a) % 6 < k
          · rw [if_pos q0, if_pos (show a ≤ x ∧ x < a + 12 ∧ (x - a) % 6 < k + 1 by omega)]
          · rw [if_neg q0, if_neg (by omega)]
set_option maxRecDepth 20000 in
theorem r_setPast (hE : cm_mdl sh hr e) (h : uOk u nb ns) {a : Nat} (ha : a + 12 ≤ 84) : cm_ct D mX7_setPast d 0 0 [.ref e, .int (nI a)] (sh, cm_us hi e u, hl, hr) (fun r9 h9 => r9 = none ∧ h9 = (sh, cm_us hi e (uSP u a nb), hl, hr)) := by
  refine cm_ct_of (ls := [some (.ref e), some (.int (nI a)), none]) 1 (by decide +kernel) rfl rfl ?_
  refine cm_iconst (pc := 0) (v := 0) dX7_setPast_0 (by decide) ?_
  refine cm_istore2 (pc := 1) dX7_setPast_1 (by decide) rfl ?_
  exact l_rsp hE h ha nb 0 (by omega) u ⟨fun _ _ => rfl, fun x => by rw [if_neg (by omega)]⟩
set_option maxRecDepth 20000 in
theorem l_rallPaid (hE : cm_mdl sh hr e) (h : uOk u nb ns) : ∀ q k : Nat, k + q = nb → cm_g D mX7_allPaid d 0 0 (fun r9 h9 => r9 = some (.int (sumP (u 10) nb)) ∧ h9 = (sh, cm_us hi e u, hl, hr)) 0 0 4 [some (.ref e), some (.int (sumP (u 10) k)), some (.int (nI k))] [] (sh, cm_us hi e u, hl, hr) := by
  have hnb := h.1.2.1
  have hns := h.1.2.2.2
  intro q
  induction q with
  | zero =>
    intro k hk
    have h1 : k = nb := by omega
    subst h1
    refine cm_iload2 (pc := 4) dX7_allPaid_4 ?_
    refine cm_aload0 (pc := 5) dX7_allPaid_5 ?_
    refine mk_fld (pc := 6) flX7_151 dX7_allPaid_6 hE.1 ?_
    rw [h.1.1]
    refine cm_geN (pc := 9) (tgt := 27) dX7_allPaid_9 (by decide) (by omega) (by omega) (fun c9 => ?_) (fun c9 => ?_)
    · refine cm_iload1 (pc := 27) dX7_allPaid_27 ?_
      exact cm_iret (pc := 28) dX7_allPaid_28 rfl ⟨rfl, rfl⟩
    · exact absurd c9 (by omega)
  | succ q ih =>
    intro k hk
    have hst := ih (k + 1) (by omega)
    refine cm_iload2 (pc := 4) dX7_allPaid_4 ?_
    refine cm_aload0 (pc := 5) dX7_allPaid_5 ?_
    refine mk_fld (pc := 6) flX7_151 dX7_allPaid_6 hE.1 ?_
    rw [h.1.1]
    refine cm_geN (pc := 9) (tgt := 27) dX7_allPaid_9 (by decide) (by omega) (by omega) (fun c9 => ?_) (fun c9 => ?_)
    · exact absurd c9 (by omega)
    · refine cm_iload1 (pc := 12) dX7_allPaid_12 ?_
      refine cm_aload0 (pc := 13) dX7_allPaid_13 ?_
      refine cm_getR (pc := 14) flX7_37 dX7_allPaid_14 hE.1 hE.r14 ?_
      refine cm_iload2 (pc := 17) dX7_allPaid_17 ?_
      refine mk_get (pc := 18) dX7_allPaid_18 hE.a10 (by omega) (by decide) ?_
      refine cm_iadd (pc := 19) dX7_allPaid_19 ?_
      refine cm_istore1 (pc := 20) dX7_allPaid_20 (by decide) rfl ?_
      refine cm_incN2 (pc := 21) dX7_allPaid_21 (by decide) rfl ?_
      refine cm_goto (pc := 24) (tgt := 4) dX7_allPaid_24 (by decide) ?_
      exact hst
set_option maxRecDepth 20000 in
theorem r_allPaid (hE : cm_mdl sh hr e) (h : uOk u nb ns) : cm_ct D mX7_allPaid d 0 0 [.ref e] (sh, cm_us hi e u, hl, hr) (fun r9 h9 => r9 = some (.int (sumP (u 10) nb)) ∧ h9 = (sh, cm_us hi e u, hl, hr)) := by
  refine cm_ct_of (ls := [some (.ref e), none, none]) 2 (by decide +kernel) rfl rfl ?_
  refine cm_iconst (pc := 0) (v := 0) dX7_allPaid_0 (by decide) ?_
  refine cm_istore1 (pc := 1) dX7_allPaid_1 (by decide) rfl ?_
  refine cm_iconst (pc := 2) (v := 0) dX7_allPaid_2 (by decide) ?_
  refine cm_istore2 (pc := 3) dX7_allPaid_3 (by decide) rfl ?_
  exact l_rallPaid hE h nb 0 (by omega)
set_option maxRecDepth 20000 in
theorem l_rallPrices (hE : cm_mdl sh hr e) (h : uOk u nb ns) : ∀ q k : Nat, k + q = ns → cm_g D mX7_allPrices d 0 0 (fun r9 h9 => r9 = some (.int (sumP (u 13) ns)) ∧ h9 = (sh, cm_us hi e u, hl, hr)) 0 0 4 [some (.ref e), some (.int (sumP (u 13) k)), some (.int (nI k))] [] (sh, cm_us hi e u, hl, hr) := by
  have hnb := h.1.2.1
  have hns := h.1.2.2.2
  intro q
  induction q with
  | zero =>
    intro k hk
    have h1 : k = ns := by omega
    subst h1
    refine cm_iload2 (pc := 4) dX7_allPrices_4 ?_
    refine cm_aload0 (pc := 5) dX7_allPrices_5 ?_
    refine mk_fld (pc := 6) flX7_154 dX7_allPrices_6 hE.1 ?_
    rw [h.1.2.2.1]
    refine cm_geN (pc := 9) (tgt := 27) dX7_allPrices_9 (by decide) (by omega) (by omega) (fun c9 => ?_) (fun c9 => ?_)
    · refine cm_iload1 (pc := 27) dX7_allPrices_27 ?_
      exact cm_iret (pc := 28) dX7_allPrices_28 rfl ⟨rfl, rfl⟩
    · exact absurd c9 (by omega)
  | succ q ih =>
    intro k hk
    have hst := ih (k + 1) (by omega)
    refine cm_iload2 (pc := 4) dX7_allPrices_4 ?_
    refine cm_aload0 (pc := 5) dX7_allPrices_5 ?_
    refine mk_fld (pc := 6) flX7_154 dX7_allPrices_6 hE.1 ?_
    rw [h.1.2.2.1]
    refine cm_geN (pc := 9) (tgt := 27) dX7_allPrices_9 (by decide) (by omega) (by omega) (fun c9 => ?_) (fun c9 => ?_)
    · exact absurd c9 (by omega)
    · refine cm_iload1 (pc := 12) dX7_allPrices_12 ?_
      refine cm_aload0 (pc := 13) dX7_allPrices_13 ?_
      refine cm_getR (pc := 14) flX7_46 dX7_allPrices_14 hE.1 hE.r17 ?_
      refine cm_iload2 (pc := 17) dX7_allPrices_17 ?_
      refine mk_get (pc := 18) dX7_allPrices_18 hE.a13 (by omega) (by decide) ?_
      refine cm_iadd (pc := 19) dX7_allPrices_19 ?_
      refine cm_istore1 (pc := 20) dX7_allPrices_20 (by decide) rfl ?_
      refine cm_incN2 (pc := 21) dX7_allPrices_21 (by decide) rfl ?_
      refine cm_goto (pc := 24) (tgt := 4) dX7_allPrices_24 (by decide) ?_
      exact hst
set_option maxRecDepth 20000 in
theorem r_allPrices (hE : cm_mdl sh hr e) (h : uOk u nb ns) : cm_ct D mX7_allPrices d 0 0 [.ref e] (sh, cm_us hi e u, hl, hr) (fun r9 h9 => r9 = some (.int (sumP (u 13) ns)) ∧ h9 = (sh, cm_us hi e u, hl, hr)) := by
  refine cm_ct_of (ls := [some (.ref e), none, none]) 2 (by decide +kernel) rfl rfl ?_
  refine cm_iconst (pc := 0) (v := 0) dX7_allPrices_0 (by decide) ?_
  refine cm_istore1 (pc := 1) dX7_allPrices_1 (by decide) rfl ?_
  refine cm_iconst (pc := 2) (v := 0) dX7_allPrices_2 (by decide) ?_
  refine cm_istore2 (pc := 3) dX7_allPrices_3 (by decide) rfl ?_
  exact l_rallPrices hE h ns 0 (by omega)
set_option maxRecDepth 20000 in
theorem r_asked (hE : cm_mdl sh hr e)  : cm_ct D mX7_asked d 0 0 [.ref e] (sh, cm_us hi e u, hl, hr) (fun r9 h9 => r9 = some (.int (u 0 2)) ∧ h9 = (sh, cm_us hi e u, hl, hr)) := by
  refine cm_ct_of (ls := [some (.ref e)]) 0 (by decide +kernel) rfl rfl ?_
  refine cm_aload0 (pc := 0) dX7_asked_0 ?_
  refine mk_fld (pc := 1) flX7_80 dX7_asked_1 hE.1 ?_
  exact cm_iret (pc := 4) dX7_asked_4 rfl ⟨rfl, rfl⟩
set_option maxRecDepth 20000 in
theorem r_finding (hE : cm_mdl sh hr e)  : cm_ct D mX7_finding d 0 0 [.ref e] (sh, cm_us hi e u, hl, hr) (fun r9 h9 => r9 = some (.int (u 0 0)) ∧ h9 = (sh, cm_us hi e u, hl, hr)) := by
  refine cm_ct_of (ls := [some (.ref e)]) 0 (by decide +kernel) rfl rfl ?_
  refine cm_aload0 (pc := 0) dX7_finding_0 ?_
  refine mk_fld (pc := 1) flX7_76 dX7_finding_1 hE.1 ?_
  exact cm_iret (pc := 4) dX7_finding_4 rfl ⟨rfl, rfl⟩
set_option maxRecDepth 20000 in
theorem r_findings (hE : cm_mdl sh hr e) {f : Int32} : cm_ct D mX7_findings (d + 1) 0 0 [.ref e, .int f] (sh, cm_us hi e u, hl, hr) (fun r9 h9 => r9 = some (.int (if uIn f 1 5 = false then -1 else u 1 f.toNatClampNeg)) ∧ h9 = (sh, cm_us hi e u, hl, hr)) := by
  refine cm_ct_of (ls := [some (.ref e), some (.int f)]) 0 (by decide +kernel) rfl rfl ?_
  refine cm_iload1 (pc := 0) dX7_findings_0 ?_
  refine cm_iconst (pc := 1) (v := 1) dX7_findings_1 (by decide) ?_
  refine cm_iconst (pc := 2) (v := 5) dX7_findings_2 (by decide) ?_
  refine cm_S3 (pc := 3) mX7_in_s mlX7_83 dX7_findings_3 (by omega) (Nat.le_of_ble_eq_true rfl) (Nat.le_refl _) (Nat.le_refl _) (r_in (d := d)) (fun r3 h3 hq3 => ?_)
  obtain ⟨rfl, rfl⟩ := hq3
  refine cm_ifeqB (pc := 6) (tgt := 18) dX7_findings_6 (by decide) (fun c6 => ?_) (fun c6 => ?_)
  · refine cm_iconst (pc := 18) (v := -1) dX7_findings_18 (by decide) ?_
    exact cm_iret (pc := 19) dX7_findings_19 rfl ⟨by rw [if_pos c6], rfl⟩
  · have zf := uIn_zz.mp c6
    have z1 : (1 : Int32).toInt = 1 := by decide
    have z5 : (5 : Int32).toInt = 5 := by decide
    rw [z1, z5] at zf
    have ef : f = nI f.toNatClampNeg := z_of (by omega)
    have wf : f.toNatClampNeg = f.toInt.toNat := rfl
    refine cm_aload0 (pc := 9) dX7_findings_9 ?_
    refine cm_getR (pc := 10) flX7_7 dX7_findings_10 hE.1 hE.r1 ?_
    refine cm_iload1 (pc := 13) dX7_findings_13 ?_
    refine mk_getE (pc := 14) (f.toNatClampNeg) dX7_findings_14 hE.a1 ef (by omega) (by decide) ?_
    refine cm_goto (pc := 15) (tgt := 19) dX7_findings_15 (by decide) ?_
    exact cm_iret (pc := 19) dX7_findings_19 rfl ⟨by rw [if_neg (by rw [c6]; decide)], rfl⟩
set_option maxRecDepth 20000 in
theorem r_bought (hE : cm_mdl sh hr e) {n : Int32} (h : uOk u nb ns) : cm_ct D mX7_bought (d + 6) 0 0 [.ref e, .int n] (sh, cm_us hi e u, hl, hr) (fun r9 h9 => r9 = some (.int (uBought u nb ns n).1) ∧ h9 = (sh, cm_us hi e (uBought u nb ns n).2, hl, hr)) := by
  refine cm_ct_of (ls := [some (.ref e), some (.int n)]) 0 (by decide +kernel) rfl rfl ?_
  refine cm_iload1 (pc := 0) dX7_bought_0 ?_
  refine cm_iconst (pc := 1) (v := 0) dX7_bought_1 (by decide) ?_
  refine cm_bipush (pc := 2) (v := 60) dX7_bought_2 (by decide) ?_
  refine cm_S3 (pc := 4) mX7_in_s mlX7_83 dX7_bought_4 (by omega) (Nat.le_of_ble_eq_true rfl) (Nat.le_refl _) (Nat.le_refl _) (r_in (d := d + 5)) (fun r4 h4 hq4 => ?_)
  obtain ⟨rfl, rfl⟩ := hq4
  refine cm_ifneB (pc := 7) (tgt := 12) dX7_bought_7 (by decide) (fun c7 => ?_) (fun c7 => ?_)
  · have zn := uIn_zz.mp c7
    have z0 : (0 : Int32).toInt = 0 := by decide
    have z60 : (60 : Int32).toInt = 60 := by decide
    rw [z0, z60] at zn
    have en : n = nI n.toNatClampNeg := z_of (by omega)
    have wn : n.toNatClampNeg = n.toInt.toNat := rfl
    generalize hq9 : n.toNatClampNeg = q9 at *
    subst en
    refine cm_aload0 (pc := 12) dX7_bought_12 ?_
    refine cm_iload1 (pc := 13) dX7_bought_13 ?_
    refine cm_V1 (pc := 14) mX7_lookAhead_v mlX7_265 dX7_bought_14 hE.1 (by omega) (Nat.le_of_ble_eq_true rfl) (Nat.le_refl _) (Nat.le_refl _) (r_lookAhead (d := d) hE h (by omega)) (fun r14 h14 hq14 => ?_)
    obtain ⟨rfl, rfl⟩ := hq14
    refine cm_aload0 (pc := 17) dX7_bought_17 ?_
    refine cm_aload0 (pc := 18) dX7_bought_18 ?_
    refine mk_fld (pc := 19) flX7_262 dX7_bought_19 hE.1 ?_
    refine cm_aload0 (pc := 22) dX7_bought_22 ?_
    refine mk_fld (pc := 23) flX7_259 dX7_bought_23 hE.1 ?_
    refine cm_S1 (pc := 26) mX7_sizeOf_s mlX7_192 dX7_bought_26 (by omega) (Nat.le_of_ble_eq_true rfl) (Nat.le_refl _) (Nat.le_refl _) (r_sizeOf (d := d + 5)) (fun r26 h26 hq26 => ?_)
    obtain ⟨rfl, rfl⟩ := hq26
    refine cm_V2 (pc := 29) mX7_ask_v mlX7_109 dX7_bought_29 hE.1 (by omega) (Nat.le_of_ble_eq_true rfl) (Nat.le_refl _) (Nat.le_refl _) (r_ask (d := d + 5) hE) (fun r29 h29 hq29 => ?_)
    obtain ⟨rfl, rfl⟩ := hq29
    exact cm_iret (pc := 32) dX7_bought_32 rfl ⟨by unfold uBought; rw [if_neg (by rw [c7]; decide), hq9], by unfold uBought; rw [if_neg (by rw [c7]; decide), hq9]⟩
  · refine cm_iconst (pc := 10) (v := -1) dX7_bought_10 (by decide) ?_
    exact cm_iret (pc := 11) dX7_bought_11 rfl ⟨by simp [uBought, *], by simp [uBought, *]⟩
set_option maxRecDepth 20000 in
theorem e_when (hE : cm_mdl sh hr e) {i m : Nat} (h : uOk u nb ns) (hm : uFs (uB0 u nb ns i) 60 0 = some m) : cm_g D mX7_when (d + 5) 0 0 (fun r9 h9 => ∃ v, h9 = (sh, cm_us hi e v, hl, hr) ∧ uWhen u nb ns i r9 v) 0 0 18 [some (.ref e), some (.int (nI i)), some (.int (nI m)), some (.int 1)] [] (sh, cm_us hi e (uItW (uPA u) nb ns (fun _ => 0) (nI i) m), hl, hr) := by
  refine cm_iload2 (pc := 18) dX7_when_18 ?_
  refine cm_bipush (pc := 19) (v := 60) dX7_when_19 (by decide) ?_
  refine cm_icmp_ge (pc := 21) (tgt := 49) dX7_when_21 (by decide) (fun c21 => ?_) (fun c21 => ?_)
  · refine cm_aload0 (pc := 49) dX7_when_49 ?_
    refine cm_V0 (pc := 50) mX7_comeBack_v mlX7_256 dX7_when_50 hE.1 (by omega) (Nat.le_of_ble_eq_true rfl) (Nat.le_refl _) (Nat.le_refl _) (r_comeBack (d := d + 3) hE) (fun r50 h50 hq50 => ?_)
    obtain ⟨rfl, rfl⟩ := hq50
    refine cm_iload3 (pc := 53) dX7_when_53 ?_
    refine cm_if_eq (pc := 54) (tgt := 69) dX7_when_54 (by decide) (fun q => absurd q (by decide)) (fun c54 => ?_)
    refine cm_aload0 (pc := 57) dX7_when_57 ?_
    refine cm_aload0 (pc := 58) dX7_when_58 ?_
    refine mk_fld (pc := 59) flX7_231 dX7_when_59 hE.1 ?_
    refine cm_iload2 (pc := 62) dX7_when_62 ?_
    refine cm_V2 (pc := 63) mX7_ask_v mlX7_109 dX7_when_63 hE.1 (by omega) (Nat.le_of_ble_eq_true rfl) (Nat.le_refl _) (Nat.le_refl _) (r_ask (d := d + 4) hE) (fun r63 h63 hq63 => ?_)
    obtain ⟨rfl, rfl⟩ := hq63
    refine cm_goto (pc := 66) (tgt := 71) dX7_when_66 (by decide) ?_
    exact cm_iret (pc := 71) dX7_when_71 rfl ⟨_, rfl, by unfold uWhen; rw [hm]; exact ⟨rfl, _, uIt_back m, by unfold uCB; rw [va_up_self, pk_un (by decide)]⟩⟩
  · refine cm_iload3 (pc := 24) dX7_when_24 ?_
    refine cm_if_ne (pc := 25) (tgt := 49) dX7_when_25 (by decide) (fun c25 => ?_) (fun q => absurd q (by decide))
    refine cm_aload0 (pc := 49) dX7_when_49 ?_
    refine cm_V0 (pc := 50) mX7_comeBack_v mlX7_256 dX7_when_50 hE.1 (by omega) (Nat.le_of_ble_eq_true rfl) (Nat.le_refl _) (Nat.le_refl _) (r_comeBack (d := d + 3) hE) (fun r50 h50 hq50 => ?_)
    obtain ⟨rfl, rfl⟩ := hq50
    refine cm_iload3 (pc := 53) dX7_when_53 ?_
    refine cm_if_eq (pc := 54) (tgt := 69) dX7_when_54 (by decide) (fun q => absurd q (by decide)) (fun c54 => ?_)
    refine cm_aload0 (pc := 57) dX7_when_57 ?_
    refine cm_aload0 (pc := 58) dX7_when_58 ?_
    refine mk_fld (pc := 59) flX7_231 dX7_when_59 hE.1 ?_
    refine cm_iload2 (pc := 62) dX7_when_62 ?_
    refine cm_V2 (pc := 63) mX7_ask_v mlX7_109 dX7_when_63 hE.1 (by omega) (Nat.le_of_ble_eq_true rfl) (Nat.le_refl _) (Nat.le_refl _) (r_ask (d := d + 4) hE) (fun r63 h63 hq63 => ?_)
    obtain ⟨rfl, rfl⟩ := hq63
    refine cm_goto (pc := 66) (tgt := 71) dX7_when_66 (by decide) ?_
    exact cm_iret (pc := 71) dX7_when_71 rfl ⟨_, rfl, by unfold uWhen; rw [hm]; exact ⟨rfl, _, uIt_back m, by unfold uCB; rw [va_up_self, pk_un (by decide)]⟩⟩
set_option maxRecDepth 20000 in
theorem l_when (hE : cm_mdl sh hr e) {i : Nat} (h : uOk u nb ns) : ∀ q k : Nat, k + q = 60 → uFs (uB0 u nb ns i) 60 0 = uFs (uB0 u nb ns i) q k → cm_g D mX7_when (d + 5) 0 0 (fun r9 h9 => ∃ v, h9 = (sh, cm_us hi e v, hl, hr) ∧ uWhen u nb ns i r9 v) 0 0 18 [some (.ref e), some (.int (nI i)), some (.int (nI k)), some (.int 0)] [] (sh, cm_us hi e (uItW (uPA u) nb ns (fun _ => 0) (nI i) k), hl, hr) := by
  intro q
  induction q with
  | zero =>
    intro k hk hf
    have h1 : k = 60 := by omega
    subst h1
    refine cm_iload2 (pc := 18) dX7_when_18 ?_
    refine cm_bipush (pc := 19) (v := 60) dX7_when_19 (by decide) ?_
    refine cm_icmp_ge (pc := 21) (tgt := 49) dX7_when_21 (by decide) (fun c21 => ?_) (fun q => absurd (by decide) q)
    refine cm_aload0 (pc := 49) dX7_when_49 ?_
    refine cm_V0 (pc := 50) mX7_comeBack_v mlX7_256 dX7_when_50 hE.1 (by omega) (Nat.le_of_ble_eq_true rfl) (Nat.le_refl _) (Nat.le_refl _) (r_comeBack (d := d + 3) hE) (fun r50 h50 hq50 => ?_)
    obtain ⟨rfl, rfl⟩ := hq50
    refine cm_iload3 (pc := 53) dX7_when_53 ?_
    refine cm_if_eq (pc := 54) (tgt := 69) dX7_when_54 (by decide) (fun c54 => ?_) (fun q => absurd rfl q)
    refine cm_bipush (pc := 69) (v := -9) dX7_when_69 (by decide) ?_
    exact cm_iret (pc := 71) dX7_when_71 rfl ⟨_, rfl, by unfold uWhen; rw [hf]; exact ⟨rfl, uIt_back 60⟩⟩
  | succ q ih =>
    intro k hk hf
    refine cm_iload2 (pc := 18) dX7_when_18 ?_
    refine cm_bipush (pc := 19) (v := 60) dX7_when_19 (by decide) ?_
    refine cm_icmp_ge (pc := 21) (tgt := 49) dX7_when_21 (by decide) (fun q => absurd q (nI_ge (a := k) (b := 60) (by omega) (by omega))) (fun c21 => ?_)
    refine cm_iload3 (pc := 24) dX7_when_24 ?_
    refine cm_if_ne (pc := 25) (tgt := 49) dX7_when_25 (by decide) (fun q => absurd rfl q) (fun c25 => ?_)
    refine cm_aload0 (pc := 28) dX7_when_28 ?_
    refine cm_iconst (pc := 29) (v := 0) dX7_when_29 (by decide) ?_
    refine cm_iload1 (pc := 30) dX7_when_30 ?_
    refine cm_V2 (pc := 31) mX7_passMinute_v mlX7_241 dX7_when_31 hE.1 (by omega) (Nat.le_of_ble_eq_true rfl) (Nat.le_refl _) (Nat.le_refl _) (r_passMinute (d := d) hE (h.pa.itw k)) (fun r31 h31 hq31 => ?_)
    obtain ⟨rfl, rfl⟩ := hq31
    refine cm_aload0 (pc := 34) dX7_when_34 ?_
    refine mk_fld (pc := 35) flX7_218 dX7_when_35 hE.1 ?_
    refine cm_iload1 (pc := 38) dX7_when_38 ?_
    refine cm_S2 (pc := 39) mX7_has_s mlX7_207 dX7_when_39 (by omega) (Nat.le_of_ble_eq_true rfl) (Nat.le_refl _) (Nat.le_refl _) (r_has (d := d + 4)) (fun r39 h39 hq39 => ?_)
    obtain ⟨rfl, rfl⟩ := hq39
    refine cm_istore3 (pc := 42) dX7_when_42 (by decide) rfl ?_
    refine cm_incN2 (pc := 43) dX7_when_43 (by decide) rfl ?_
    refine cm_goto (pc := 46) (tgt := 18) dX7_when_46 (by decide) ?_
    cases hb : uB0 u nb ns i (k + 1) with
    | false =>
      have hst := ih (k + 1) (by omega) (by rw [hf]; show (if uB0 u nb ns i (k + 1) = true then _ else _) = _; rw [if_neg (by rw [hb]; decide)])
      rw [show uHas (uPass (uItW (uPA u) nb ns (fun _ => 0) (nI i) k) nb ns 0 (nI i) 0 25) (nI i) = false from hb]
      exact hst
    | true =>
      have hm : uFs (uB0 u nb ns i) 60 0 = some (k + 1) := by rw [hf]; show (if uB0 u nb ns i (k + 1) = true then _ else _) = _; rw [if_pos hb]
      rw [show uHas (uPass (uItW (uPA u) nb ns (fun _ => 0) (nI i) k) nb ns 0 (nI i) 0 25) (nI i) = true from hb]
      exact e_when hE h hm
set_option maxRecDepth 20000 in
theorem r_when (hE : cm_mdl sh hr e) {i : Int32} (h : uOk u nb ns) : cm_ct D mX7_when (d + 5) 0 0 [.ref e, .int i] (sh, cm_us hi e u, hl, hr) (fun r9 h9 => ∃ v, h9 = (sh, cm_us hi e v, hl, hr) ∧ (if uIn i 0 (u 0 9 - 1) = false then r9 = some (.int (-1)) ∧ v = u else uWhen u nb ns i.toNatClampNeg r9 v)) := by
  have hnb := h.1.2.1
  have hns := h.1.2.2.2
  refine cm_ct_of (ls := [some (.ref e), some (.int i), none, none]) 2 (by decide +kernel) rfl rfl ?_
  refine cm_aload0 (pc := 0) dX7_when_0 ?_
  refine cm_iload1 (pc := 1) dX7_when_1 ?_
  refine cm_V1 (pc := 2) mX7_isBuyer_v mlX7_166 dX7_when_2 hE.1 (by omega) (Nat.le_of_ble_eq_true rfl) (Nat.le_refl _) (Nat.le_refl _) (r_isBuyer (d := d + 3) hE) (fun r2 h2 hq2 => ?_)
  obtain ⟨rfl, rfl⟩ := hq2
  refine cm_ifneB (pc := 5) (tgt := 10) dX7_when_5 (by decide) (fun c5 => ?_) (fun c5 => ?_)
  · obtain ⟨j, hj, rfl⟩ := uIn_b (m := nb) (by rw [← h.1.1]; exact c5) (by omega)
    have hjc : (nI j).toNatClampNeg = j := nI_clamp (by omega)
    refine cm_aload0 (pc := 10) dX7_when_10 ?_
    refine cm_V0 (pc := 11) mX7_putAside_v mlX7_253 dX7_when_11 hE.1 (by omega) (Nat.le_of_ble_eq_true rfl) (Nat.le_refl _) (Nat.le_refl _) (r_putAside (d := d + 3) hE) (fun r11 h11 hq11 => ?_)
    obtain ⟨rfl, rfl⟩ := hq11
    refine cm_iconst (pc := 14) (v := 0) dX7_when_14 (by decide) ?_
    refine cm_istore2 (pc := 15) dX7_when_15 (by decide) rfl ?_
    refine cm_iconst (pc := 16) (v := 0) dX7_when_16 (by decide) ?_
    refine cm_istore3 (pc := 17) dX7_when_17 (by decide) rfl ?_
    refine cm_g_imp (fun r9 h9 q => ?_) (l_when hE h (i := j) 60 0 (by omega) rfl)
    obtain ⟨v, q1, q2⟩ := q
    refine ⟨v, q1, ?_⟩
    rw [if_neg (by rw [c5]; decide), hjc]
    exact q2
  · refine cm_iconst (pc := 8) (v := -1) dX7_when_8 (by decide) ?_
    exact cm_iret (pc := 9) dX7_when_9 rfl ⟨u, rfl, by rw [if_pos c5]; exact ⟨rfl, rfl⟩⟩
set_option maxRecDepth 20000 in
theorem e_rest (hE : cm_mdl sh hr e) {m : Nat} (h : uOk u nb ns) (h0 : ¬ u 0 9 = 0) (hm : uFs (uRb u nb ns) 200 0 = some m) : cm_g D mX7_rest (d + 5) 0 0 (fun r9 h9 => ∃ v, h9 = (sh, cm_us hi e v, hl, hr) ∧ uRest u nb ns r9 v) 0 0 25 [some (.ref e), some (.int (nI m)), some (.int (uWantN (uRs u nb ns m) nb)), some (.int 1)] [] (sh, cm_us hi e (uRs u nb ns m), hl, hr) := by
  refine cm_iload1 (pc := 25) dX7_rest_25 ?_
  refine cm_sipush (pc := 26) (v := 200) dX7_rest_26 (by decide) ?_
  refine cm_icmp_ge (pc := 29) (tgt := 91) dX7_rest_29 (by decide) (fun c29 => ?_) (fun c29 => ?_)
  · refine cm_aload0 (pc := 91) dX7_rest_91 ?_
    refine cm_V0 (pc := 92) mX7_comeBack_v mlX7_256 dX7_rest_92 hE.1 (by omega) (Nat.le_of_ble_eq_true rfl) (Nat.le_refl _) (Nat.le_refl _) (r_comeBack (d := d + 3) hE) (fun r92 h92 hq92 => ?_)
    obtain ⟨rfl, rfl⟩ := hq92
    refine cm_iload3 (pc := 95) dX7_rest_95 ?_
    refine cm_if_eq (pc := 96) (tgt := 108) dX7_rest_96 (by decide) (fun q => absurd q (by decide)) (fun c96 => ?_)
    refine cm_aload0 (pc := 99) dX7_rest_99 ?_
    refine cm_iload2 (pc := 100) dX7_rest_100 ?_
    refine cm_iload1 (pc := 101) dX7_rest_101 ?_
    refine cm_V2 (pc := 102) mX7_ask_v mlX7_109 dX7_rest_102 hE.1 (by omega) (Nat.le_of_ble_eq_true rfl) (Nat.le_refl _) (Nat.le_refl _) (r_ask (d := d + 4) hE) (fun r102 h102 hq102 => ?_)
    obtain ⟨rfl, rfl⟩ := hq102
    refine cm_goto (pc := 105) (tgt := 110) dX7_rest_105 (by decide) ?_
    exact cm_iret (pc := 110) dX7_rest_110 rfl ⟨_, rfl, by unfold uRest; rw [if_neg h0, hm]; exact ⟨rfl, _, uRs_back m, rfl⟩⟩
  · refine cm_iload3 (pc := 32) dX7_rest_32 ?_
    refine cm_if_ne (pc := 33) (tgt := 91) dX7_rest_33 (by decide) (fun c33 => ?_) (fun q => absurd q (by decide))
    refine cm_aload0 (pc := 91) dX7_rest_91 ?_
    refine cm_V0 (pc := 92) mX7_comeBack_v mlX7_256 dX7_rest_92 hE.1 (by omega) (Nat.le_of_ble_eq_true rfl) (Nat.le_refl _) (Nat.le_refl _) (r_comeBack (d := d + 3) hE) (fun r92 h92 hq92 => ?_)
    obtain ⟨rfl, rfl⟩ := hq92
    refine cm_iload3 (pc := 95) dX7_rest_95 ?_
    refine cm_if_eq (pc := 96) (tgt := 108) dX7_rest_96 (by decide) (fun q => absurd q (by decide)) (fun c96 => ?_)
    refine cm_aload0 (pc := 99) dX7_rest_99 ?_
    refine cm_iload2 (pc := 100) dX7_rest_100 ?_
    refine cm_iload1 (pc := 101) dX7_rest_101 ?_
    refine cm_V2 (pc := 102) mX7_ask_v mlX7_109 dX7_rest_102 hE.1 (by omega) (Nat.le_of_ble_eq_true rfl) (Nat.le_refl _) (Nat.le_refl _) (r_ask (d := d + 4) hE) (fun r102 h102 hq102 => ?_)
    obtain ⟨rfl, rfl⟩ := hq102
    refine cm_goto (pc := 105) (tgt := 110) dX7_rest_105 (by decide) ?_
    exact cm_iret (pc := 110) dX7_rest_110 rfl ⟨_, rfl, by unfold uRest; rw [if_neg h0, hm]; exact ⟨rfl, _, uRs_back m, rfl⟩⟩
set_option maxRecDepth 20000 in
set_option maxHeartbeats 1000000 in
theorem l_rest (hE : cm_mdl sh hr e) (h : uOk u nb ns) (h0 : ¬ u 0 9 = 0) : ∀ q k : Nat, k + q = 200 → uFs (uRb u nb ns) 200 0 = uFs (uRb u nb ns) q k → ∀ x2 : Int32, cm_g D mX7_rest (d + 5) 0 0 (fun r9 h9 => ∃ v, h9 = (sh, cm_us hi e v, hl, hr) ∧ uRest u nb ns r9 v) 0 0 25 [some (.ref e), some (.int (nI k)), some (.int x2), some (.int 0)] [] (sh, cm_us hi e (uRs u nb ns k), hl, hr) := by
  intro q
  induction q with
  | zero =>
    intro k hk hf x2
    have h1 : k = 200 := by omega
    subst h1
    refine cm_iload1 (pc := 25) dX7_rest_25 ?_
    refine cm_sipush (pc := 26) (v := 200) dX7_rest_26 (by decide) ?_
    refine cm_icmp_ge (pc := 29) (tgt := 91) dX7_rest_29 (by decide) (fun c29 => ?_) (fun q => absurd (by decide) q)
    refine cm_aload0 (pc := 91) dX7_rest_91 ?_
    refine cm_V0 (pc := 92) mX7_comeBack_v mlX7_256 dX7_rest_92 hE.1 (by omega) (Nat.le_of_ble_eq_true rfl) (Nat.le_refl _) (Nat.le_refl _) (r_comeBack (d := d + 3) hE) (fun r92 h92 hq92 => ?_)
    obtain ⟨rfl, rfl⟩ := hq92
    refine cm_iload3 (pc := 95) dX7_rest_95 ?_
    refine cm_if_eq (pc := 96) (tgt := 108) dX7_rest_96 (by decide) (fun c96 => ?_) (fun q => absurd rfl q)
    refine cm_bipush (pc := 108) (v := -9) dX7_rest_108 (by decide) ?_
    exact cm_iret (pc := 110) dX7_rest_110 rfl ⟨_, rfl, by unfold uRest; rw [if_neg h0, hf]; exact ⟨rfl, uRs_back 200⟩⟩
  | succ q ih =>
    intro k hk hf x2
    refine cm_iload1 (pc := 25) dX7_rest_25 ?_
    refine cm_sipush (pc := 26) (v := 200) dX7_rest_26 (by decide) ?_
    refine cm_icmp_ge (pc := 29) (tgt := 91) dX7_rest_29 (by decide) (fun q => absurd q (nI_ge (a := k) (b := 200) (by omega) (by omega))) (fun c29 => ?_)
    refine cm_iload3 (pc := 32) dX7_rest_32 ?_
    refine cm_if_ne (pc := 33) (tgt := 91) dX7_rest_33 (by decide) (fun q => absurd rfl q) (fun c33 => ?_)
    refine cm_aload0 (pc := 36) dX7_rest_36 ?_
    refine cm_iconst (pc := 37) (v := 0) dX7_rest_37 (by decide) ?_
    refine cm_bipush (pc := 38) (v := -9) dX7_rest_38 (by decide) ?_
    refine cm_V2 (pc := 40) mX7_passMinute_v mlX7_241 dX7_rest_40 hE.1 (by omega) (Nat.le_of_ble_eq_true rfl) (Nat.le_refl _) (Nat.le_refl _) (r_passMinute (d := d) hE (h.rs k)) (fun r40 h40 hq40 => ?_)
    obtain ⟨rfl, rfl⟩ := hq40
    refine cm_incN1 (pc := 43) dX7_rest_43 (by decide) rfl ?_
    refine cm_iload1 (pc := 46) dX7_rest_46 ?_
    refine cm_bipush (pc := 47) (v := 7) dX7_rest_47 (by decide) ?_
    refine cm_icmp_lt (pc := 49) (tgt := 70) dX7_rest_49 (by decide) (fun c49 => ?_) (fun c49 => ?_)
    · have c49b : ¬ 7 ≤ k + 1 := fun w => Int32.not_le.mpr c49 ((nI_leI (a := 7) (by decide) (by omega)).mpr w)
      refine cm_iconst (pc := 70) (v := 0) dX7_rest_70 (by decide) ?_
      refine cm_istore3 (pc := 71) dX7_rest_71 (by decide) rfl ?_
      refine cm_aload0 (pc := 72) dX7_rest_72 ?_
      refine cm_V0 (pc := 73) mX7_wanting_v mlX7_274 dX7_rest_73 hE.1 (by omega) (Nat.le_of_ble_eq_true rfl) (Nat.le_refl _) (Nat.le_refl _) (r_wanting (d := d + 4) hE (h.rs k).pass) (fun r73 h73 hq73 => ?_)
      obtain ⟨rfl, rfl⟩ := hq73
      refine cm_istore2 (pc := 76) dX7_rest_76 (by decide) rfl ?_
      refine cm_aload0 (pc := 77) dX7_rest_77 ?_
      refine cm_bipush (pc := 78) (v := 12) dX7_rest_78 (by decide) ?_
      refine cm_iload1 (pc := 80) dX7_rest_80 ?_
      refine cm_bipush (pc := 81) (v := 7) dX7_rest_81 (by decide) ?_
      refine cm_irem (pc := 83) dX7_rest_83 (by decide) ?_
      refine cm_imul (pc := 84) dX7_rest_84 ?_
      rw [rem7 (by omega), show (12 : Int32) * nI ((k + 1) % 7) = nI (12 * ((k + 1) % 7)) by rw [show (12 : Int32) = nI 12 from rfl, pk_mul]]
      refine cm_V1 (pc := 85) mX7_setPast_v mlX7_268 dX7_rest_85 hE.1 (by omega) (Nat.le_of_ble_eq_true rfl) (Nat.le_refl _) (Nat.le_refl _) (r_setPast (d := d + 4) (a := 12 * ((k + 1) % 7)) hE (h.rs k).pass (by omega)) (fun r85 h85 hq85 => ?_)
      obtain ⟨rfl, rfl⟩ := hq85
      refine cm_goto (pc := 88) (tgt := 25) dX7_rest_88 (by decide) ?_
      have hwn : uWantN (uPass (uRs u nb ns k) nb ns 0 (-9)) nb = uWantN (uRs u nb ns (k + 1)) nb := by
        unfold uWantN
        show _ = sumP (fun i => if uSP _ _ _ 9 i = 4 then 0 else 1) nb
        rw [uSP_c (by decide)]
      rw [hwn]
      have hb : uRb u nb ns (k + 1) = false := by
        show (decide (7 ≤ k + 1) && uIsP _ _ _) = false
        rw [decide_eq_false (by omega), Bool.false_and]
      have hst := ih (k + 1) (by omega) (by rw [hf]; show (if uRb u nb ns (k + 1) = true then _ else _) = _; rw [if_neg (by rw [hb]; decide)])
      exact hst (uWantN (uRs u nb ns (k + 1)) nb)
    · have c49b : 7 ≤ k + 1 := (nI_leI (a := 7) (by decide) (by omega)).mp (Int32.not_lt.mp c49)
      refine cm_aload0 (pc := 52) dX7_rest_52 ?_
      refine cm_bipush (pc := 53) (v := 12) dX7_rest_53 (by decide) ?_
      refine cm_iload1 (pc := 55) dX7_rest_55 ?_
      refine cm_bipush (pc := 56) (v := 7) dX7_rest_56 (by decide) ?_
      refine cm_irem (pc := 58) dX7_rest_58 (by decide) ?_
      refine cm_imul (pc := 59) dX7_rest_59 ?_
      rw [rem7 (by omega), show (12 : Int32) * nI ((k + 1) % 7) = nI (12 * ((k + 1) % 7)) by rw [show (12 : Int32) = nI 12 from rfl, pk_mul]]
      refine cm_V1 (pc := 60) mX7_isPast_v mlX7_271 dX7_rest_60 hE.1 (by omega) (Nat.le_of_ble_eq_true rfl) (Nat.le_refl _) (Nat.le_refl _) (r_isPast (d := d + 4) (a := 12 * ((k + 1) % 7)) hE (h.rs k).pass (by omega)) (fun r60 h60 hq60 => ?_)
      obtain ⟨rfl, rfl⟩ := hq60
      refine cm_ifeqB (pc := 63) (tgt := 70) dX7_rest_63 (by decide) (fun c63 => ?_) (fun c63 => ?_)
      · refine cm_iconst (pc := 70) (v := 0) dX7_rest_70 (by decide) ?_
        refine cm_istore3 (pc := 71) dX7_rest_71 (by decide) rfl ?_
        refine cm_aload0 (pc := 72) dX7_rest_72 ?_
        refine cm_V0 (pc := 73) mX7_wanting_v mlX7_274 dX7_rest_73 hE.1 (by omega) (Nat.le_of_ble_eq_true rfl) (Nat.le_refl _) (Nat.le_refl _) (r_wanting (d := d + 4) hE (h.rs k).pass) (fun r73 h73 hq73 => ?_)
        obtain ⟨rfl, rfl⟩ := hq73
        refine cm_istore2 (pc := 76) dX7_rest_76 (by decide) rfl ?_
        refine cm_aload0 (pc := 77) dX7_rest_77 ?_
        refine cm_bipush (pc := 78) (v := 12) dX7_rest_78 (by decide) ?_
        refine cm_iload1 (pc := 80) dX7_rest_80 ?_
        refine cm_bipush (pc := 81) (v := 7) dX7_rest_81 (by decide) ?_
        refine cm_irem (pc := 83) dX7_rest_83 (by decide) ?_
        refine cm_imul (pc := 84) dX7_rest_84 ?_
        rw [rem7 (by omega), show (12 : Int32) * nI ((k + 1) % 7) = nI (12 * ((k + 1) % 7)) by rw [show (12 : Int32) = nI 12 from rfl, pk_mul]]
        refine cm_V1 (pc := 85) mX7_setPast_v mlX7_268 dX7_rest_85 hE.1 (by omega) (Nat.le_of_ble_eq_true rfl) (Nat.le_refl _) (Nat.le_refl _) (r_setPast (d := d + 4) (a := 12 * ((k + 1) % 7)) hE (h.rs k).pass (by omega)) (fun r85 h85 hq85 => ?_)
        obtain ⟨rfl, rfl⟩ := hq85
        refine cm_goto (pc := 88) (tgt := 25) dX7_rest_88 (by decide) ?_
        have hwn : uWantN (uPass (uRs u nb ns k) nb ns 0 (-9)) nb = uWantN (uRs u nb ns (k + 1)) nb := by
          unfold uWantN
          show _ = sumP (fun i => if uSP _ _ _ 9 i = 4 then 0 else 1) nb
          rw [uSP_c (by decide)]
        rw [hwn]
        have hb : uRb u nb ns (k + 1) = false := by
          show (decide (7 ≤ k + 1) && uIsP _ _ _) = false
          rw [c63, Bool.and_false]
        have hst := ih (k + 1) (by omega) (by rw [hf]; show (if uRb u nb ns (k + 1) = true then _ else _) = _; rw [if_neg (by rw [hb]; decide)])
        exact hst (uWantN (uRs u nb ns (k + 1)) nb)
      · refine cm_iconst (pc := 66) (v := 1) dX7_rest_66 (by decide) ?_
        refine cm_goto (pc := 67) (tgt := 71) dX7_rest_67 (by decide) ?_
        refine cm_istore3 (pc := 71) dX7_rest_71 (by decide) rfl ?_
        refine cm_aload0 (pc := 72) dX7_rest_72 ?_
        refine cm_V0 (pc := 73) mX7_wanting_v mlX7_274 dX7_rest_73 hE.1 (by omega) (Nat.le_of_ble_eq_true rfl) (Nat.le_refl _) (Nat.le_refl _) (r_wanting (d := d + 4) hE (h.rs k).pass) (fun r73 h73 hq73 => ?_)
        obtain ⟨rfl, rfl⟩ := hq73
        refine cm_istore2 (pc := 76) dX7_rest_76 (by decide) rfl ?_
        refine cm_aload0 (pc := 77) dX7_rest_77 ?_
        refine cm_bipush (pc := 78) (v := 12) dX7_rest_78 (by decide) ?_
        refine cm_iload1 (pc := 80) dX7_rest_80 ?_
        refine cm_bipush (pc := 81) (v := 7) dX7_rest_81 (by decide) ?_
        refine cm_irem (pc := 83) dX7_rest_83 (by decide) ?_
        refine cm_imul (pc := 84) dX7_rest_84 ?_
        rw [rem7 (by omega), show (12 : Int32) * nI ((k + 1) % 7) = nI (12 * ((k + 1) % 7)) by rw [show (12 : Int32) = nI 12 from rfl, pk_mul]]
        refine cm_V1 (pc := 85) mX7_setPast_v mlX7_268 dX7_rest_85 hE.1 (by omega) (Nat.le_of_ble_eq_true rfl) (Nat.le_refl _) (Nat.le_refl _) (r_setPast (d := d + 4) (a := 12 * ((k + 1) % 7)) hE (h.rs k).pass (by omega)) (fun r85 h85 hq85 => ?_)
        obtain ⟨rfl, rfl⟩ := hq85
        refine cm_goto (pc := 88) (tgt := 25) dX7_rest_88 (by decide) ?_
        have hwn : uWantN (uPass (uRs u nb ns k) nb ns 0 (-9)) nb = uWantN (uRs u nb ns (k + 1)) nb := by
          unfold uWantN
          show _ = sumP (fun i => if uSP _ _ _ 9 i = 4 then 0 else 1) nb
          rw [uSP_c (by decide)]
        rw [hwn]
        have hb : uRb u nb ns (k + 1) = true := by
          show (decide (7 ≤ k + 1) && uIsP _ _ _) = true
          rw [c63, decide_eq_true (by omega), Bool.true_and]
        have hm : uFs (uRb u nb ns) 200 0 = some (k + 1) := by rw [hf]; show (if uRb u nb ns (k + 1) = true then _ else _) = _; rw [if_pos hb]
        exact e_rest hE h h0 hm
set_option maxRecDepth 20000 in
theorem r_rest (hE : cm_mdl sh hr e) (h : uOk u nb ns) : cm_ct D mX7_rest (d + 5) 0 0 [.ref e] (sh, cm_us hi e u, hl, hr) (fun r9 h9 => ∃ v, h9 = (sh, cm_us hi e v, hl, hr) ∧ uRest u nb ns r9 v) := by
  refine cm_ct_of (ls := [some (.ref e), none, none, none]) 3 (by decide +kernel) rfl rfl ?_
  refine cm_aload0 (pc := 0) dX7_rest_0 ?_
  refine mk_fld (pc := 1) flX7_151 dX7_rest_1 hE.1 ?_
  refine cm_if_ne (pc := 4) (tgt := 10) dX7_rest_4 (by decide) (fun c4 => ?_) (fun c4 => ?_)
  · refine cm_aload0 (pc := 10) dX7_rest_10 ?_
    refine cm_V0 (pc := 11) mX7_putAside_v mlX7_253 dX7_rest_11 hE.1 (by omega) (Nat.le_of_ble_eq_true rfl) (Nat.le_refl _) (Nat.le_refl _) (r_putAside (d := d + 3) hE) (fun r11 h11 hq11 => ?_)
    obtain ⟨rfl, rfl⟩ := hq11
    refine cm_aload0 (pc := 14) dX7_rest_14 ?_
    refine cm_iconst (pc := 15) (v := 0) dX7_rest_15 (by decide) ?_
    refine cm_V1 (pc := 16) mX7_setPast_v mlX7_268 dX7_rest_16 hE.1 (by omega) (Nat.le_of_ble_eq_true rfl) (Nat.le_refl _) (Nat.le_refl _) (r_setPast (d := d + 4) (a := 0) hE h.pa (by omega)) (fun r16 h16 hq16 => ?_)
    obtain ⟨rfl, rfl⟩ := hq16
    refine cm_iconst (pc := 19) (v := 0) dX7_rest_19 (by decide) ?_
    refine cm_istore1 (pc := 20) dX7_rest_20 (by decide) rfl ?_
    refine cm_iconst (pc := 21) (v := 0) dX7_rest_21 (by decide) ?_
    refine cm_istore2 (pc := 22) dX7_rest_22 (by decide) rfl ?_
    refine cm_iconst (pc := 23) (v := 0) dX7_rest_23 (by decide) ?_
    refine cm_istore3 (pc := 24) dX7_rest_24 (by decide) rfl ?_
    exact l_rest hE h c4 200 0 (by omega) rfl 0
  · refine cm_bipush (pc := 7) (v := -4) dX7_rest_7 (by decide) ?_
    exact cm_iret (pc := 9) dX7_rest_9 rfl ⟨u, rfl, by unfold uRest; rw [if_pos c4]; exact ⟨rfl, rfl⟩⟩
set_option maxRecDepth 20000 in
theorem l_rtrk (hE : cm_mdl sh hr e) {n r : Nat} (h : uOk u nb ns) (hr6 : r < 6) : ∀ q k : Nat, k + q = nb → cm_g D mX7_track (d + 5) 0 0 (fun r9 h9 => ∃ v, h9 = (sh, cm_us hi e v, hl, hr) ∧ (r9 = some (.int 1) ∧ ∃ v', uEq (uPR u r nb (uItW (uPA u) nb ns (fun _ => 0) (-9) n 8)) v' ∧ v = uAsk v' (uSun (uItW (uPA u) nb ns (fun _ => 0) (-9) n)))) 0 0 55 [some (.ref e), some (.int (nI n)), some (.int (nI r)), some (.int (nI k))] [] (sh, cm_us hi e (va_up (va_up (uItW (uPA u) nb ns (fun _ => 0) (-9) n) 2 (upd ((uItW (uPA u) nb ns (fun _ => 0) (-9) n) 2) r (nI nb))) 3 (rowF ((uItW (uPA u) nb ns (fun _ => 0) (-9) n) 3) r k ((uItW (uPA u) nb ns (fun _ => 0) (-9) n) 8))), hl, hr) := by
  have hnb := h.1.2.1
  have hns := h.1.2.2.2
  intro q
  induction q with
  | zero =>
    intro k hk
    have h1 : k = nb := by omega
    subst h1
    refine cm_iload3 (pc := 55) dX7_track_55 ?_
    refine cm_aload0 (pc := 56) dX7_track_56 ?_
    refine mk_fld (pc := 57) flX7_151 dX7_track_57 hE.1 ?_
    rw [show (va_up (va_up (uItW (uPA u) k ns (fun _ => 0) (-9) n) 2 (upd ((uItW (uPA u) k ns (fun _ => 0) (-9) n) 2) r (nI k))) 3 (rowF ((uItW (uPA u) k ns (fun _ => 0) (-9) n) 3) r k ((uItW (uPA u) k ns (fun _ => 0) (-9) n) 8))) 0 9 = nI k by rw [va_up_ne _ _ (by decide), va_up_ne _ _ (by decide)]; exact (h.pa.itw n).1.1]
    refine cm_geN (pc := 60) (tgt := 81) dX7_track_60 (by decide) (by omega) (by omega) (fun c60 => ?_) (fun c60 => ?_)
    · skip
      have bk : uEq (uPR u r k ((uItW (uPA u) k ns (fun _ => 0) (-9) n) 8)) (uCB (uPR (uItW (uPA u) k ns (fun _ => 0) (-9) n) r k ((uItW (uPA u) k ns (fun _ => 0) (-9) n) 8))) := by
        have e := uPA_eq (u := u)
        refine uPR_back (fun j hj => ?_) ?_ (fun y hy => ?_) (fun c hc => ?_) (fun c hc i hi => ?_)
        · rw [uItW_0 (by omega), e.2.1 j (by omega)]
        · rw [uItW_0 (by decide), e.2.2.1]
        · rw [uItW_c (by decide), e.2.2.2 y hy]
        · rw [uItW_c (by omega), e.1 c (by omega) (by omega)]
        · rw [uItW_c (by omega), e.1 c (by omega) (by omega)]
      refine cm_aload0 (pc := 81) dX7_track_81 ?_
      refine cm_V0 (pc := 82) mX7_sunNow_v mlX7_224 dX7_track_82 hE.1 (by omega) (Nat.le_of_ble_eq_true rfl) (Nat.le_refl _) (Nat.le_refl _) (r_sun (d := d + 4) hE) (fun r82 h82 hq82 => ?_)
      obtain ⟨rfl, rfl⟩ := hq82
      refine cm_istore3 (pc := 85) dX7_track_85 (by decide) rfl ?_
      refine cm_aload0 (pc := 86) dX7_track_86 ?_
      refine cm_V0 (pc := 87) mX7_comeBack_v mlX7_256 dX7_track_87 hE.1 (by omega) (Nat.le_of_ble_eq_true rfl) (Nat.le_refl _) (Nat.le_refl _) (r_comeBack (d := d + 3) hE) (fun r87 h87 hq87 => ?_)
      obtain ⟨rfl, rfl⟩ := hq87
      refine cm_aload0 (pc := 90) dX7_track_90 ?_
      refine cm_iload3 (pc := 91) dX7_track_91 ?_
      refine cm_iconst (pc := 92) (v := 1) dX7_track_92 (by decide) ?_
      refine cm_V2 (pc := 93) mX7_ask_v mlX7_109 dX7_track_93 hE.1 (by omega) (Nat.le_of_ble_eq_true rfl) (Nat.le_refl _) (Nat.le_refl _) (r_ask (d := d + 4) hE) (fun r93 h93 hq93 => ?_)
      obtain ⟨rfl, rfl⟩ := hq93
      exact cm_iret (pc := 96) dX7_track_96 rfl ⟨_, rfl, rfl, _, bk, rfl⟩
    · exact absurd c60 (by omega)
  | succ q ih =>
    intro k hk
    have hst := ih (k + 1) (by omega)
    refine cm_iload3 (pc := 55) dX7_track_55 ?_
    refine cm_aload0 (pc := 56) dX7_track_56 ?_
    refine mk_fld (pc := 57) flX7_151 dX7_track_57 hE.1 ?_
    rw [show (va_up (va_up (uItW (uPA u) nb ns (fun _ => 0) (-9) n) 2 (upd ((uItW (uPA u) nb ns (fun _ => 0) (-9) n) 2) r (nI nb))) 3 (rowF ((uItW (uPA u) nb ns (fun _ => 0) (-9) n) 3) r k ((uItW (uPA u) nb ns (fun _ => 0) (-9) n) 8))) 0 9 = nI nb by rw [va_up_ne _ _ (by decide), va_up_ne _ _ (by decide)]; exact (h.pa.itw n).1.1]
    refine cm_geN (pc := 60) (tgt := 81) dX7_track_60 (by decide) (by omega) (by omega) (fun c60 => ?_) (fun c60 => ?_)
    · exact absurd c60 (by omega)
    · refine cm_aload0 (pc := 63) dX7_track_63 ?_
      refine cm_iload2 (pc := 64) dX7_track_64 ?_
      refine cm_iload3 (pc := 65) dX7_track_65 ?_
      refine cm_aload0 (pc := 66) dX7_track_66 ?_
      refine cm_getR (pc := 67) flX7_31 dX7_track_67 hE.1 hE.r12 ?_
      refine cm_iload3 (pc := 70) dX7_track_70 ?_
      refine mk_get (pc := 71) dX7_track_71 hE.a8 (by omega) (by decide) ?_
      rw [show (va_up (va_up (uItW (uPA u) nb ns (fun _ => 0) (-9) n) 2 (upd ((uItW (uPA u) nb ns (fun _ => 0) (-9) n) 2) r (nI nb))) 3 (rowF ((uItW (uPA u) nb ns (fun _ => 0) (-9) n) 3) r k ((uItW (uPA u) nb ns (fun _ => 0) (-9) n) 8))) 8 k = (uItW (uPA u) nb ns (fun _ => 0) (-9) n) 8 k by rw [va_up_ne _ _ (by decide), va_up_ne _ _ (by decide)]]
      refine cm_V3 (pc := 72) mX7_setRow_v mlX7_98 dX7_track_72 hE.1 (by omega) (Nat.le_of_ble_eq_true rfl) (Nat.le_refl _) (Nat.le_refl _) (r_setRow (d := d + 4) hE hr6 (by omega)) (fun r72 h72 hq72 => ?_)
      obtain ⟨rfl, rfl⟩ := hq72
      rw [uPR_put (by omega)]
      refine cm_incN3 (pc := 75) dX7_track_75 (by decide) rfl ?_
      refine cm_goto (pc := 78) (tgt := 55) dX7_track_78 (by decide) ?_
      exact hst
set_option maxRecDepth 20000 in
theorem l_rtrm (hE : cm_mdl sh hr e) {n r : Nat} (h : uOk u nb ns) (hr6 : r < 6) (hn60 : n ≤ 60) : ∀ q k : Nat, k + q = n → cm_g D mX7_track (d + 5) 0 0 (fun r9 h9 => ∃ v, h9 = (sh, cm_us hi e v, hl, hr) ∧ (r9 = some (.int 1) ∧ ∃ v', uEq (uPR u r nb (uItW (uPA u) nb ns (fun _ => 0) (-9) n 8)) v' ∧ v = uAsk v' (uSun (uItW (uPA u) nb ns (fun _ => 0) (-9) n)))) 0 0 25 [some (.ref e), some (.int (nI n)), some (.int (nI r)), some (.int (nI k))] [] (sh, cm_us hi e (uItW (uPA u) nb ns (fun _ => 0) (-9) k), hl, hr) := by
  have hnb := h.1.2.1
  have hns := h.1.2.2.2
  intro q
  induction q with
  | zero =>
    intro k hk
    have h1 : k = n := by omega
    subst h1
    refine cm_iload3 (pc := 25) dX7_track_25 ?_
    refine cm_iload1 (pc := 26) dX7_track_26 ?_
    refine cm_geN (pc := 27) (tgt := 43) dX7_track_27 (by decide) (by omega) (by omega) (fun c27 => ?_) (fun c27 => ?_)
    · refine cm_aload0 (pc := 43) dX7_track_43 ?_
      refine cm_iload2 (pc := 44) dX7_track_44 ?_
      refine cm_aload0 (pc := 45) dX7_track_45 ?_
      refine mk_fld (pc := 46) flX7_151 dX7_track_46 hE.1 ?_
      rw [(h.pa.itw k).1.1]
      refine cm_V2 (pc := 49) mX7_row_v mlX7_277 dX7_track_49 hE.1 (by omega) (Nat.le_of_ble_eq_true rfl) (Nat.le_refl _) (Nat.le_refl _) (r_row (d := d + 2) hE) (fun r49 h49 hq49 => ?_)
      obtain ⟨rfl, rfl⟩ := hq49
      refine cm_pop (pc := 52) dX7_track_52 rfl ?_
      have hspec : uRow (uItW (uPA u) nb ns (fun _ => 0) (-9) k) (nI r) (nI nb) = (nI nb, va_up (va_up (uItW (uPA u) nb ns (fun _ => 0) (-9) k) 2 (upd ((uItW (uPA u) nb ns (fun _ => 0) (-9) k) 2) r (nI nb))) 3 (rowF ((uItW (uPA u) nb ns (fun _ => 0) (-9) k) 3) r 0 ((uItW (uPA u) nb ns (fun _ => 0) (-9) k) 8))) := by
        have hrc : (nI r).toNatClampNeg = r := nI_clamp (by omega)
        have z0 : (0 : Int32).toInt = 0 := by decide
        have z5 : (5 : Int32).toInt = 5 := by decide
        have z40 : (40 : Int32).toInt = 40 := by decide
        unfold uRow
        have hin : uIn (nI r) 0 5 = true := uIn_zz.mpr (by rw [z0, z5, nI_toInt (by omega)]; omega)
        rw [if_neg (fun w => w.elim (fun w => by rw [hin] at w; cases w) (fun w => w (by rw [Int32.le_iff_toInt_le, z40, nI_toInt (by omega)]; omega))), if_pos (by rw [Int32.le_iff_toInt_le, z0, nI_toInt (by omega)]; omega), hrc]
        refine congrArg (fun f => (nI nb, va_up (va_up (uItW (uPA u) nb ns (fun _ => 0) (-9) k) 2 (upd ((uItW (uPA u) nb ns (fun _ => 0) (-9) k) 2) r (nI nb))) 3 f)) (funext fun x => ?_)
        unfold rowF
        by_cases q8 : 40 * r ≤ x ∧ x < 40 * r + 40
        · rw [if_pos q8, if_pos q8, if_neg (by omega)]
        · rw [if_neg q8, if_neg q8]
      rw [hspec]
      refine cm_iconst (pc := 53) (v := 0) dX7_track_53 (by decide) ?_
      refine cm_istore3 (pc := 54) dX7_track_54 (by decide) rfl ?_
      exact l_rtrk hE h hr6 nb 0 (by omega)
    · exact absurd c27 (by omega)
  | succ q ih =>
    intro k hk
    have hst := ih (k + 1) (by omega)
    refine cm_iload3 (pc := 25) dX7_track_25 ?_
    refine cm_iload1 (pc := 26) dX7_track_26 ?_
    refine cm_geN (pc := 27) (tgt := 43) dX7_track_27 (by decide) (by omega) (by omega) (fun c27 => ?_) (fun c27 => ?_)
    · exact absurd c27 (by omega)
    · refine cm_aload0 (pc := 30) dX7_track_30 ?_
      refine cm_iconst (pc := 31) (v := 0) dX7_track_31 (by decide) ?_
      refine cm_bipush (pc := 32) (v := -9) dX7_track_32 (by decide) ?_
      refine cm_V2 (pc := 34) mX7_passMinute_v mlX7_241 dX7_track_34 hE.1 (by omega) (Nat.le_of_ble_eq_true rfl) (Nat.le_refl _) (Nat.le_refl _) (r_passMinute (d := d) hE (h.pa.itw k)) (fun r34 h34 hq34 => ?_)
      obtain ⟨rfl, rfl⟩ := hq34
      refine cm_incN3 (pc := 37) dX7_track_37 (by decide) rfl ?_
      refine cm_goto (pc := 40) (tgt := 25) dX7_track_40 (by decide) ?_
      exact hst
set_option maxRecDepth 20000 in
theorem r_track (hE : cm_mdl sh hr e) {n r : Int32} (h : uOk u nb ns) : cm_ct D mX7_track (d + 6) 0 0 [.ref e, .int n, .int r] (sh, cm_us hi e u, hl, hr) (fun r9 h9 => ∃ v, h9 = (sh, cm_us hi e v, hl, hr) ∧ uTrack u nb ns n r r9 v) := by
  refine cm_ct_of (ls := [some (.ref e), some (.int n), some (.int r), none]) 1 (by decide +kernel) rfl rfl ?_
  refine cm_iload1 (pc := 0) dX7_track_0 ?_
  refine cm_iconst (pc := 1) (v := 0) dX7_track_1 (by decide) ?_
  refine cm_bipush (pc := 2) (v := 60) dX7_track_2 (by decide) ?_
  refine cm_S3 (pc := 4) mX7_in_s mlX7_83 dX7_track_4 (by omega) (Nat.le_of_ble_eq_true rfl) (Nat.le_refl _) (Nat.le_refl _) (r_in (d := d + 5)) (fun r4 h4 hq4 => ?_)
  obtain ⟨rfl, rfl⟩ := hq4
  refine cm_ifeqB (pc := 7) (tgt := 17) dX7_track_7 (by decide) (fun c7 => ?_) (fun c7 => ?_)
  · refine cm_iconst (pc := 17) (v := -1) dX7_track_17 (by decide) ?_
    exact cm_iret (pc := 18) dX7_track_18 rfl ⟨u, rfl, by unfold uTrack; rw [if_pos (Or.inl c7)]; exact ⟨rfl, rfl⟩⟩
  · refine cm_iload2 (pc := 10) dX7_track_10 ?_
    refine cm_S1 (pc := 11) mX7_isRow_s mlX7_87 dX7_track_11 (by omega) (Nat.le_of_ble_eq_true rfl) (Nat.le_refl _) (Nat.le_refl _) (r_isRow (d := d + 4)) (fun r11 h11 hq11 => ?_)
    obtain ⟨rfl, rfl⟩ := hq11
    refine cm_ifneB (pc := 14) (tgt := 19) dX7_track_14 (by decide) (fun c14 => ?_) (fun c14 => ?_)
    · have zn := uIn_zz.mp c7
      have z0 : (0 : Int32).toInt = 0 := by decide
      have znh : (60 : Int32).toInt = 60 := by decide
      rw [z0, znh] at zn
      have en : n = nI n.toNatClampNeg := z_of (by omega)
      have wn : n.toNatClampNeg = n.toInt.toNat := rfl
      generalize hq9 : n.toNatClampNeg = q9 at *
      subst en
      obtain ⟨j9, hj9, rfl⟩ := uIn_ex 5 c14
      have hj9c : (nI j9).toNatClampNeg = j9 := nI_clamp (by omega)
      refine cm_aload0 (pc := 19) dX7_track_19 ?_
      refine cm_V0 (pc := 20) mX7_putAside_v mlX7_253 dX7_track_20 hE.1 (by omega) (Nat.le_of_ble_eq_true rfl) (Nat.le_refl _) (Nat.le_refl _) (r_putAside (d := d + 4) hE) (fun r20 h20 hq20 => ?_)
      obtain ⟨rfl, rfl⟩ := hq20
      refine cm_iconst (pc := 23) (v := 0) dX7_track_23 (by decide) ?_
      refine cm_istore3 (pc := 24) dX7_track_24 (by decide) rfl ?_
      refine cm_g_imp (fun r9 h9 q => ?_) (l_rtrm (d := d + 1) hE h (n := q9) (r := j9) (by omega) (by omega) q9 0 (by omega))
      obtain ⟨v, q1, q2⟩ := q
      refine ⟨v, q1, ?_⟩
      unfold uTrack
      rw [if_neg (fun w => w.elim (fun w => by rw [c7] at w; cases w) (fun w => by rw [c14] at w; cases w)), hj9c, hq9]
      exact q2
    · refine cm_iconst (pc := 17) (v := -1) dX7_track_17 (by decide) ?_
      exact cm_iret (pc := 18) dX7_track_18 rfl ⟨u, rfl, by unfold uTrack; rw [if_pos (Or.inr c14)]; exact ⟨rfl, rfl⟩⟩
set_option maxRecDepth 20000 in
theorem l_rwi (hE : cm_mdl sh hr e) {n : Nat} {seed : Int32} (h : uOk u nb ns) (hn60 : n ≤ 60) : ∀ q k : Nat, k + q = n → cm_g D mX7_winds (d + 5) 0 0 (fun r9 h9 => ∃ v, h9 = (sh, cm_us hi e v, hl, hr) ∧ (r9 = some (.int (uWc (uWv u nb ns seed) n)) ∧ ∃ v', uEq u v' ∧ v = uAsk v' (uWs (uWv u nb ns seed) n))) 0 0 49 [some (.ref e), some (.int (nI n)), some (.int seed), some (.long (uLot seed.toInt64 k)), none, some (.int (uWc (uWv u nb ns seed) k)), some (.int (uWs (uWv u nb ns seed) k)), some (.int (nI k))] [] (sh, cm_us hi e (uItW (uPA u) nb ns (uWind seed.toInt64) (-9) k), hl, hr) := by
  intro q
  induction q with
  | zero =>
    intro k hk
    have h1 : k = n := by omega
    subst h1
    refine cm_iload7 (pc := 49) dX7_winds_49 ?_
    refine cm_iload1 (pc := 51) dX7_winds_51 ?_
    refine cm_geN (pc := 52) (tgt := 106) dX7_winds_52 (by decide) (by omega) (by omega) (fun c52 => ?_) (fun c52 => ?_)
    · refine cm_aload0 (pc := 106) dX7_winds_106 ?_
      refine cm_V0 (pc := 107) mX7_comeBack_v mlX7_256 dX7_winds_107 hE.1 (by omega) (Nat.le_of_ble_eq_true rfl) (Nat.le_refl _) (Nat.le_refl _) (r_comeBack (d := d + 3) hE) (fun r107 h107 hq107 => ?_)
      obtain ⟨rfl, rfl⟩ := hq107
      refine cm_aload0 (pc := 110) dX7_winds_110 ?_
      refine cm_iload6 (pc := 111) dX7_winds_111 ?_
      refine cm_iload5 (pc := 113) dX7_winds_113 ?_
      refine cm_V2 (pc := 115) mX7_ask_v mlX7_109 dX7_winds_115 hE.1 (by omega) (Nat.le_of_ble_eq_true rfl) (Nat.le_refl _) (Nat.le_refl _) (r_ask (d := d + 4) hE) (fun r115 h115 hq115 => ?_)
      obtain ⟨rfl, rfl⟩ := hq115
      exact cm_iret (pc := 118) dX7_winds_118 rfl ⟨_, rfl, rfl, _, uIt_back k, rfl⟩
    · exact absurd c52 (by omega)
  | succ q ih =>
    intro k hk
    have hst := ih (k + 1) (by omega)
    refine cm_iload7 (pc := 49) dX7_winds_49 ?_
    refine cm_iload1 (pc := 51) dX7_winds_51 ?_
    refine cm_geN (pc := 52) (tgt := 106) dX7_winds_52 (by decide) (by omega) (by omega) (fun c52 => ?_) (fun c52 => ?_)
    · exact absurd c52 (by omega)
    · refine cm_ldc2 (pc := 55) dX7_winds_55 ctX7_315 ?_
      refine cm_lload3 (pc := 58) dX7_winds_58 ?_
      refine cm_lmul (pc := 59) dX7_winds_59 ?_
      refine cm_ldc2 (pc := 60) dX7_winds_60 ctX7_317 ?_
      refine cm_lrem (pc := 63) dX7_winds_63 (by decide) ?_
      refine cm_lstore3 (pc := 64) dX7_winds_64 (by decide) rfl ?_
      refine cm_aload0 (pc := 65) dX7_winds_65 ?_
      refine cm_lload3 (pc := 66) dX7_winds_66 ?_
      refine cm_ldc2 (pc := 67) dX7_winds_67 ctX7_319 ?_
      refine cm_lrem (pc := 70) dX7_winds_70 (by decide) ?_
      refine cm_l2i (pc := 71) dX7_winds_71 ?_
      refine cm_iconst (pc := 72) (v := 1) dX7_winds_72 (by decide) ?_
      refine cm_isub (pc := 73) dX7_winds_73 ?_
      refine cm_bipush (pc := 74) (v := -9) dX7_winds_74 (by decide) ?_
      refine cm_V2 (pc := 76) mX7_passMinute_v mlX7_241 dX7_winds_76 hE.1 (by omega) (Nat.le_of_ble_eq_true rfl) (Nat.le_refl _) (Nat.le_refl _) (r_passMinute (d := d) hE (h.pa.itw k)) (fun r76 h76 hq76 => ?_)
      obtain ⟨rfl, rfl⟩ := hq76
      refine cm_iload5 (pc := 79) dX7_winds_79 ?_
      refine cm_aload0 (pc := 81) dX7_winds_81 ?_
      refine mk_fld (pc := 82) flX7_218 dX7_winds_82 hE.1 ?_
      refine cm_S1 (pc := 85) mX7_sizeOf_s mlX7_192 dX7_winds_85 (by omega) (Nat.le_of_ble_eq_true rfl) (Nat.le_refl _) (Nat.le_refl _) (r_sizeOf (d := d + 4)) (fun r85 h85 hq85 => ?_)
      obtain ⟨rfl, rfl⟩ := hq85
      refine cm_iadd (pc := 88) dX7_winds_88 ?_
      refine cm_istore5 (pc := 89) dX7_winds_89 (by decide) rfl ?_
      refine cm_iload6 (pc := 91) dX7_winds_91 ?_
      refine cm_aload0 (pc := 93) dX7_winds_93 ?_
      refine mk_fld (pc := 94) flX7_221 dX7_winds_94 hE.1 ?_
      refine cm_iadd (pc := 97) dX7_winds_97 ?_
      refine cm_istore6 (pc := 98) dX7_winds_98 (by decide) rfl ?_
      refine cm_incN7 (pc := 100) dX7_winds_100 (by decide) rfl ?_
      refine cm_goto (pc := 103) (tgt := 49) dX7_winds_103 (by decide) ?_
      exact hst
set_option maxRecDepth 20000 in
theorem r_winds (hE : cm_mdl sh hr e) {n seed : Int32} (h : uOk u nb ns) : cm_ct D mX7_winds (d + 5) 0 0 [.ref e, .int n, .int seed] (sh, cm_us hi e u, hl, hr) (fun r9 h9 => ∃ v, h9 = (sh, cm_us hi e v, hl, hr) ∧ uWinds u nb ns n seed r9 v) := by
  refine cm_ct_of (ls := [some (.ref e), some (.int n), some (.int seed), none, none, none, none, none]) 5 (by decide +kernel) rfl rfl ?_
  refine cm_iload1 (pc := 0) dX7_winds_0 ?_
  refine cm_iconst (pc := 1) (v := 1) dX7_winds_1 (by decide) ?_
  refine cm_bipush (pc := 2) (v := 60) dX7_winds_2 (by decide) ?_
  refine cm_S3 (pc := 4) mX7_in_s mlX7_83 dX7_winds_4 (by omega) (Nat.le_of_ble_eq_true rfl) (Nat.le_refl _) (Nat.le_refl _) (r_in (d := d + 4)) (fun r4 h4 hq4 => ?_)
  obtain ⟨rfl, rfl⟩ := hq4
  refine cm_ifeqB (pc := 7) (tgt := 21) dX7_winds_7 (by decide) (fun c7 => ?_) (fun c7 => ?_)
  · refine cm_iconst (pc := 21) (v := -1) dX7_winds_21 (by decide) ?_
    exact cm_iret (pc := 22) dX7_winds_22 rfl ⟨u, rfl, by unfold uWinds; rw [if_pos (Or.inl c7)]; exact ⟨rfl, rfl⟩⟩
  · refine cm_iload2 (pc := 10) dX7_winds_10 ?_
    refine cm_iconst (pc := 11) (v := 1) dX7_winds_11 (by decide) ?_
    refine cm_ldcw (pc := 12) dX7_winds_12 ctX7_314 ?_
    refine cm_S3 (pc := 15) mX7_in_s mlX7_83 dX7_winds_15 (by omega) (Nat.le_of_ble_eq_true rfl) (Nat.le_refl _) (Nat.le_refl _) (r_in (d := d + 4)) (fun r15 h15 hq15 => ?_)
    obtain ⟨rfl, rfl⟩ := hq15
    refine cm_ifneB (pc := 18) (tgt := 23) dX7_winds_18 (by decide) (fun c18 => ?_) (fun c18 => ?_)
    · refine cm_aload0 (pc := 23) dX7_winds_23 ?_
      refine mk_fld (pc := 24) flX7_151 dX7_winds_24 hE.1 ?_
      refine cm_if_ne (pc := 27) (tgt := 33) dX7_winds_27 (by decide) (fun c27 => ?_) (fun c27 => ?_)
      · have zn := uIn_zz.mp c7
        have z0 : (1 : Int32).toInt = 1 := by decide
        have znh : (60 : Int32).toInt = 60 := by decide
        rw [z0, znh] at zn
        have en : n = nI n.toNatClampNeg := z_of (by omega)
        have wn : n.toNatClampNeg = n.toInt.toNat := rfl
        generalize hq9 : n.toNatClampNeg = q9 at *
        subst en
        refine cm_aload0 (pc := 33) dX7_winds_33 ?_
        refine cm_V0 (pc := 34) mX7_putAside_v mlX7_253 dX7_winds_34 hE.1 (by omega) (Nat.le_of_ble_eq_true rfl) (Nat.le_refl _) (Nat.le_refl _) (r_putAside (d := d + 3) hE) (fun r34 h34 hq34 => ?_)
        obtain ⟨rfl, rfl⟩ := hq34
        refine cm_iload2 (pc := 37) dX7_winds_37 ?_
        refine cm_i2l (pc := 38) dX7_winds_38 ?_
        refine cm_lstore3 (pc := 39) dX7_winds_39 (by decide) rfl ?_
        refine cm_iconst (pc := 40) (v := 0) dX7_winds_40 (by decide) ?_
        refine cm_istore5 (pc := 41) dX7_winds_41 (by decide) rfl ?_
        refine cm_iconst (pc := 43) (v := 0) dX7_winds_43 (by decide) ?_
        refine cm_istore6 (pc := 44) dX7_winds_44 (by decide) rfl ?_
        refine cm_iconst (pc := 46) (v := 0) dX7_winds_46 (by decide) ?_
        refine cm_istore7 (pc := 47) dX7_winds_47 (by decide) rfl ?_
        refine cm_g_imp (fun r9 h9 q => ?_) (l_rwi hE h (n := q9) (seed := seed) (by omega) q9 0 (by omega))
        obtain ⟨v, q1, q2⟩ := q
        refine ⟨v, q1, ?_⟩
        unfold uWinds
        rw [if_neg (fun w => w.elim (fun w => by rw [c7] at w; cases w) (fun w => by rw [c18] at w; cases w)), if_neg c27, hq9]
        exact q2
      · refine cm_bipush (pc := 30) (v := -4) dX7_winds_30 (by decide) ?_
        exact cm_iret (pc := 32) dX7_winds_32 rfl ⟨u, rfl, by unfold uWinds; rw [if_neg (fun w => w.elim (fun w => by rw [c7] at w; cases w) (fun w => by rw [c18] at w; cases w)), if_pos c27]; exact ⟨rfl, rfl⟩⟩
    · refine cm_iconst (pc := 21) (v := -1) dX7_winds_21 (by decide) ?_
      exact cm_iret (pc := 22) dX7_winds_22 rfl ⟨u, rfl, by unfold uWinds; rw [if_pos (Or.inr c18)]; exact ⟨rfl, rfl⟩⟩
end U5
