/-! PART ucalls8: the reference's calls: best -/
def rmB (L j : Nat) : Nat := L &&& (63 ^^^ 2 ^ j)
theorem rmB_ok : ∀ L, L < 64 → ∀ j, j < 6 → nI L &&& ((1 <<< (nI j &&& 31)) ^^^ -1) = nI (rmB L j) ∧ rmB L j < 64 := by decide +kernel
def uLj (f : Nat → List (List Nat)) (L : Nat) : Nat → Nat → List (List Nat)
  | 0, _ => []
  | n + 1, j => (if L.testBit j then f j else []) ++ uLj f L n (j + 1)
def uLv (nb : Nat) : Nat → List Nat → Nat → List (List Nat)
  | 0, pre, _ => [pre]
  | q + 1, pre, L => uLj (fun j => uLv nb q (pre ++ [j]) (rmB L j)) L nb 0
/-- as u, but for wants -/
def uEqN (u V : cm_g2) (nb : Nat) : Prop := (∀ j, j = 0 ∨ j = 2 ∨ j = 8 ∨ j = 9 ∨ j = 10 ∨ j = 19 ∨ j = 20 → V 0 j = u 0 j) ∧ (∀ c, c = 1 ∨ c = 2 ∨ c = 3 ∨ c = 5 ∨ c = 6 ∨ c = 15 ∨ c = 16 → V c = u c) ∧ (∀ c, 7 ≤ c → c ≤ 14 → c ≠ 9 → ∀ i, i < 6 → V c i = u c i) ∧ ∀ i, nb ≤ i → i < 6 → V 9 i = u 9 i
theorem uEqN.ok {u V : cm_g2} {nb ns : Nat} (h : uOk u nb ns) (e : uEqN u V nb) : uOk V nb ns := by
  have hnb := h.1.2.1
  have hns := h.1.2.2.2
  refine ⟨by rw [e.1 9 (by decide), e.1 10 (by decide)]; exact h.1, fun i hi => by rw [e.2.2.1 8 (by decide) (by decide) (by decide) i (by omega)]; exact h.2.1 i hi, fun k hk => by rw [e.2.2.1 11 (by decide) (by decide) (by decide) k (by omega)]; exact h.2.2 k hk⟩
theorem uEqN.eq {u V W : cm_g2} {nb : Nat} (e : uEqN u V nb) (k : uEq V W) (h : nb ≤ 6) : uEqN u W nb := ⟨fun j hj => (k.1 j hj).trans (e.1 j hj), fun c hc => (k.2.1 c hc).trans (e.2.1 c hc), fun c h1 h2 h9 i hi => (k.2.2 c h1 h2 i hi).trans (e.2.2.1 c h1 h2 h9 i hi), fun i h1 hi => (k.2.2 9 (by decide) (by decide) i hi).trans (e.2.2.2 i h1 hi)⟩
theorem uEqN.refl {u : cm_g2} {nb : Nat} : uEqN u u nb := ⟨fun _ _ => rfl, fun _ _ => rfl, fun _ _ _ _ _ _ => rfl, fun _ _ _ => rfl⟩
/-- another cell, or another place of the object -/
theorem uEqN.g {u V G : cm_g2} {nb x : Nat} (e : uEqN u V nb) (hx : x = 19 ∨ x = 20 ∨ x = 21 ∨ x = 22) (h : ∀ c, c ≠ x → G c = V c) : uEqN u G nb := ⟨fun j hj => by rw [h 0 (by omega)]; exact e.1 j hj, fun c hc => by rw [h c (by omega)]; exact e.2.1 c hc, fun c h1 h2 h9 i hi => by rw [h c (by omega)]; exact e.2.2.1 c h1 h2 h9 i hi, fun i h1 hi => by rw [h 9 (by omega)]; exact e.2.2.2 i h1 hi⟩
theorem uEqN.g0 {u V G : cm_g2} {nb x : Nat} {v : Int32} (e : uEqN u V nb) (hx : 31 ≤ x) (h : ∀ c, c ≠ 0 → G c = V c) (h0 : G 0 = upd (V 0) x v) : uEqN u G nb := ⟨fun j hj => by rw [h0, pk_un (by omega)]; exact e.1 j hj, fun c hc => by rw [h c (by omega)]; exact e.2.1 c hc, fun c h1 h2 h9 i hi => by rw [h c (by omega)]; exact e.2.2.1 c h1 h2 h9 i hi, fun i h1 hi => by rw [h 9 (by omega)]; exact e.2.2.2 i h1 hi⟩
theorem uEqN.w9 {u V G : cm_g2} {nb i : Nat} {v : Int32} (e : uEqN u V nb) (hi : i < nb) (h : ∀ c, c ≠ 9 → G c = V c) (h0 : G 9 = upd (V 9) i v) : uEqN u G nb := ⟨fun j hj => by rw [h 0 (by decide)]; exact e.1 j hj, fun c hc => by rw [h c (by omega)]; exact e.2.1 c hc, fun c h1 h2 h9 i hi => by rw [h c h9]; exact e.2.2.1 c h1 h2 h9 i hi, fun x h1 hx => by rw [h0, pk_un (by omega)]; exact e.2.2.2 x h1 hx⟩
def uLeaf (u W : cm_g2) (nb : Nat) (o : List Nat) : Prop := uEqN u W nb ∧ ∀ i, i < nb → W 9 i = u 9 (oG o i)
def uOv (u : cm_g2) (nb ns n : Nat) (o : List Nat) (v : Int32) : Prop := (∀ i, i < nb → oG o i < nb) ∧ ∃ W, uLeaf u W nb o ∧ v = uSz (uCB (uLA W nb ns n) 0 32) 10
/-- what stands while orders are tried -/
def uOI (u V : cm_g2) (nb n : Nat) (m : Int32) (b pre : List Nat) : Prop := uEqN u V nb ∧ (∀ j, j < nb → V 21 j = u 9 j) ∧ V 0 35 = nI n ∧ V 0 36 = m ∧ (m = -1 ∨ ∀ j, j < nb → V 20 j = nI (oG b j)) ∧ ∀ x, x < pre.length → V 19 x = nI (oG pre x)
theorem boFold_app {V : List Nat → Int32 → Prop} : ∀ (L1 L2 : List (List Nat)) (m : Int32) (b : List Nat) (m1 : Int32) (b1 : List Nat) (m2 : Int32) (b2 : List Nat), boFold V L1 m b m1 b1 → boFold V L2 m1 b1 m2 b2 → boFold V (L1 ++ L2) m b m2 b2
  | [], L2, m, b, m1, b1, m2, b2, h1, h2 => by
    obtain ⟨rfl, rfl⟩ := h1
    exact h2
  | o :: L1, L2, m, b, m1, b1, m2, b2, h1, h2 => by
    obtain ⟨v, hv, h1⟩ := h1
    refine ⟨v, hv, ?_⟩
    split at h1
    · next hc => rw [if_pos hc]; exact boFold_app L1 L2 v o m1 b1 m2 b2 h1 h2
    · next hc => rw [if_neg hc]; exact boFold_app L1 L2 m b m1 b1 m2 b2 h1 h2
theorem oG_app {pre : List Nat} {j x : Nat} : oG (pre ++ [j]) x = if x = pre.length then j else oG pre x := by
  unfold oG
  rw [List.getD_eq_getElem?_getD, List.getD_eq_getElem?_getD]
  by_cases q : x = pre.length
  · subst q
    rw [if_pos rfl, List.getElem?_append_right (Nat.le_refl _)]
    simp
  · rw [if_neg q]
    by_cases q2 : x < pre.length
    · rw [List.getElem?_append_left q2]
    · rw [List.getElem?_append_right (by omega), List.getElem?_eq_none (by simp; omega), List.getElem?_eq_none (by omega)]
theorem uSz_ge (s : Int32) : True := trivial
section U8
variable {D : cm_D} {d : Nat} {sh : List cm_Sh} {hi u : cm_g2} {hl : Nat → Nat → Int64} {hr : Nat → Nat → Option Nat} {e nb ns : Nat}
set_option maxRecDepth 20000 in
theorem l_ocp (hE : cm_mdl sh hr e) {n : Nat} (h : uOk u nb ns) (hn20 : n ≤ 20) {m v : Int32} {b pre : List Nat} (hpl : pre.length = nb) (hpb : ∀ i, i < nb → oG pre i < nb) {x2 : Int32} (hv : uOv u nb ns n pre v) (hmv : m < v) : ∀ q k : Nat, k + q = nb → ∀ X, (uEqN u X nb ∧ (∀ j, j < nb → X 21 j = u 9 j) ∧ X 0 35 = nI n ∧ X 0 36 = v ∧ (∀ x, x < pre.length → X 19 x = nI (oG pre x)) ∧ (∀ j, j < k → X 20 j = nI (oG pre j))) → cm_g D mX7_orderOn (d + 6) 0 0 (fun r9 h9 => r9 = none ∧ ∃ V9 m9 b9, h9 = (sh, cm_us hi e V9, hl, hr) ∧ uOI u V9 nb n m9 b9 pre ∧ boFold (uOv u nb ns n) [pre] m b m9 b9) 0 0 73 [some (.ref e), some (.int (nI nb)), some (.int x2), some (.int v), some (.int (nI k))] [] (sh, cm_us hi e (X), hl, hr) := by
  have hnb := h.1.2.1
  have hns := h.1.2.2.2
  intro q
  induction q with
  | zero =>
    intro k hk X hX
    have h1 : k = nb := by omega
    subst h1
    refine cm_iload4 (pc := 73) dX7_orderOn_73 ?_
    refine cm_aload0 (pc := 75) dX7_orderOn_75 ?_
    refine mk_fld (pc := 76) flX7_151 dX7_orderOn_76 hE.1 ?_
    rw [show X 0 9 = nI k by rw [hX.1.1 9 (by decide)]; exact h.1.1]
    refine cm_geN (pc := 79) (tgt := 102) dX7_orderOn_79 (by decide) (by omega) (by omega) (fun c79 => ?_) (fun c79 => ?_)
    · exact cm_vret (pc := 102) dX7_orderOn_102 rfl ⟨rfl, X, v, pre, rfl, ⟨hX.1, hX.2.1, hX.2.2.1, hX.2.2.2.1, Or.inr hX.2.2.2.2.2, hX.2.2.2.2.1⟩, v, hv, by rw [if_pos hmv]; exact ⟨rfl, rfl⟩⟩
    · exact absurd c79 (by omega)
  | succ q ih =>
    intro k hk X hX
    have hst := ih (k + 1) (by omega)
    refine cm_iload4 (pc := 73) dX7_orderOn_73 ?_
    refine cm_aload0 (pc := 75) dX7_orderOn_75 ?_
    refine mk_fld (pc := 76) flX7_151 dX7_orderOn_76 hE.1 ?_
    rw [show X 0 9 = nI nb by rw [hX.1.1 9 (by decide)]; exact h.1.1]
    refine cm_geN (pc := 79) (tgt := 102) dX7_orderOn_79 (by decide) (by omega) (by omega) (fun c79 => ?_) (fun c79 => ?_)
    · exact absurd c79 (by omega)
    · refine cm_aload0 (pc := 82) dX7_orderOn_82 ?_
      refine cm_getR (pc := 83) flX7_67 dX7_orderOn_83 hE.1 hE.r38 ?_
      refine cm_iload4 (pc := 86) dX7_orderOn_86 ?_
      refine cm_aload0 (pc := 88) dX7_orderOn_88 ?_
      refine cm_getR (pc := 89) flX7_64 dX7_orderOn_89 hE.1 hE.r37 ?_
      refine cm_iload4 (pc := 92) dX7_orderOn_92 ?_
      refine mk_get (pc := 94) dX7_orderOn_94 hE.a19 (by omega) (by decide) ?_
      rw [hX.2.2.2.2.1 k (by omega)]
      refine mk_put (pc := 95) dX7_orderOn_95 hE.a20 (by omega) (by decide) ?_
      refine cm_mkG (fun G95 e95 f95 => ?_)
      refine cm_incN4 (pc := 96) dX7_orderOn_96 (by decide) rfl ?_
      refine cm_goto (pc := 99) (tgt := 73) dX7_orderOn_99 (by decide) ?_
      refine hst G95 ⟨hX.1.g (by decide) e95, fun j hj => by rw [e95 21 (by decide)]; exact hX.2.1 j hj, by rw [e95 0 (by decide)]; exact hX.2.2.1, by rw [e95 0 (by decide)]; exact hX.2.2.2.1, fun x hx => by rw [e95 19 (by decide)]; exact hX.2.2.2.2.1 x hx, fun j hj => ?_⟩
      rw [f95]
      unfold upd
      by_cases q9 : j = k
      · rw [if_pos q9, q9]
      · rw [if_neg q9]; exact hX.2.2.2.2.2 j (by omega)
set_option maxRecDepth 20000 in
set_option maxHeartbeats 1000000 in
theorem l_olf (hE : cm_mdl sh hr e) {n : Nat} (h : uOk u nb ns) (hn20 : n ≤ 20) {m : Int32} {b pre : List Nat} (hpl : pre.length = nb) (hpb : ∀ i, i < nb → oG pre i < nb) {x2 : Int32} {x4 : Option Value} : ∀ q k : Nat, k + q = nb → ∀ X, (uOI u X nb n m b pre ∧ (∀ j, j < k → X 9 j = u 9 (oG pre j))) → cm_g D mX7_orderOn (d + 6) 0 0 (fun r9 h9 => r9 = none ∧ ∃ V9 m9 b9, h9 = (sh, cm_us hi e V9, hl, hr) ∧ uOI u V9 nb n m9 b9 pre ∧ boFold (uOv u nb ns n) [pre] m b m9 b9) 0 0 10 [some (.ref e), some (.int (nI nb)), some (.int x2), some (.int (nI k)), x4] [] (sh, cm_us hi e (X), hl, hr) := by
  have hnb := h.1.2.1
  have hns := h.1.2.2.2
  intro q
  induction q with
  | zero =>
    intro k hk X hX
    have h1 : k = nb := by omega
    subst h1
    have yq := uLA_back (u := X) (nb := k) (ns := ns) n
    have yc : ∀ c, c = 19 ∨ c = 20 ∨ c = 21 → uCB (uLA X k ns n) c = X c := fun c hc => by
      unfold uCB
      rw [va_up_ne _ _ (by omega), uRd_c (by omega), uLA_c (by omega), (uPA_eq (u := X)).1 c (by omega) (by omega)]
    have y0 : ∀ j, j = 35 ∨ j = 36 → uCB (uLA X k ns n) 0 j = X 0 j := fun j hj => by
      unfold uCB
      rw [va_up_self, pk_un (by omega), uLA_0 (by omega), (uPA_eq (u := X)).2.1 j (by omega)]
    have y21 : ∀ j, j < k → uCB (uLA X k ns n) 21 j = u 9 j := fun j hj => by rw [yc 21 (by decide)]; exact hX.1.2.1 j hj
    have y35 : uCB (uLA X k ns n) 0 35 = nI n := by rw [y0 35 (by decide)]; exact hX.1.2.2.1
    have y36 : uCB (uLA X k ns n) 0 36 = m := by rw [y0 36 (by decide)]; exact hX.1.2.2.2.1
    have y20 : m = -1 ∨ ∀ j, j < k → uCB (uLA X k ns n) 20 j = nI (oG b j) := by rw [yc 20 (by decide)]; exact hX.1.2.2.2.2.1
    have y19 : ∀ x, x < pre.length → uCB (uLA X k ns n) 19 x = nI (oG pre x) := by rw [yc 19 (by decide)]; exact hX.1.2.2.2.2.2
    have hov : uOv u k ns n pre (uSz (uCB (uLA X k ns n) 0 32) 10) := ⟨hpb, X, ⟨hX.1.1, hX.2⟩, rfl⟩
    refine cm_iload3 (pc := 10) dX7_orderOn_10 ?_
    refine cm_aload0 (pc := 11) dX7_orderOn_11 ?_
    refine mk_fld (pc := 12) flX7_151 dX7_orderOn_12 hE.1 ?_
    rw [show X 0 9 = nI k by rw [hX.1.1.1 9 (by decide)]; exact h.1.1]
    refine cm_geN (pc := 15) (tgt := 41) dX7_orderOn_15 (by decide) (by omega) (by omega) (fun c15 => ?_) (fun c15 => ?_)
    · skip
      refine cm_aload0 (pc := 41) dX7_orderOn_41 ?_
      refine cm_aload0 (pc := 42) dX7_orderOn_42 ?_
      refine mk_fld (pc := 43) flX7_280 dX7_orderOn_43 hE.1 ?_
      rw [hX.1.2.2.1]
      refine cm_V1 (pc := 46) mX7_lookAhead_v mlX7_265 dX7_orderOn_46 hE.1 (by omega) (Nat.le_of_ble_eq_true rfl) (Nat.le_refl _) (Nat.le_refl _) (r_lookAhead (d := d) hE (hX.1.1.ok h) (by omega)) (fun r46 h46 hq46 => ?_)
      obtain ⟨rfl, rfl⟩ := hq46
      refine cm_aload0 (pc := 49) dX7_orderOn_49 ?_
      refine mk_fld (pc := 50) flX7_259 dX7_orderOn_50 hE.1 ?_
      refine cm_S1 (pc := 53) mX7_sizeOf_s mlX7_192 dX7_orderOn_53 (by omega) (Nat.le_of_ble_eq_true rfl) (Nat.le_refl _) (Nat.le_refl _) (r_sizeOf (d := d + 5)) (fun r53 h53 hq53 => ?_)
      obtain ⟨rfl, rfl⟩ := hq53
      refine cm_istore3 (pc := 56) dX7_orderOn_56 (by decide) rfl ?_
      refine cm_iload3 (pc := 57) dX7_orderOn_57 ?_
      refine cm_aload0 (pc := 58) dX7_orderOn_58 ?_
      refine mk_fld (pc := 59) flX7_283 dX7_orderOn_59 hE.1 ?_
      rw [y36]
      refine cm_icmp_le (pc := 62) (tgt := 102) dX7_orderOn_62 (by decide) (fun c62 => ?_) (fun c62 => ?_)
      · have hb := c62
        exact cm_vret (pc := 102) dX7_orderOn_102 rfl ⟨rfl, uCB (uLA X k ns n), m, b, rfl, ⟨hX.1.1.eq yq h.1.2.1, y21, y35, y36, y20, y19⟩, _, hov, by rw [if_neg (Int32.not_lt.mpr c62)]; exact ⟨rfl, rfl⟩⟩
      · refine cm_aload0 (pc := 65) dX7_orderOn_65 ?_
        refine cm_iload3 (pc := 66) dX7_orderOn_66 ?_
        refine mk_set (pc := 67) fpX7_283 dX7_orderOn_67 hE.1 ?_
        refine cm_mkG (fun G67 e67 f67 => ?_)
        refine cm_iconst (pc := 70) (v := 0) dX7_orderOn_70 (by decide) ?_
        refine cm_istore4 (pc := 71) dX7_orderOn_71 (by decide) rfl ?_
        refine l_ocp hE h hn20 hpl hpb hov (Int32.not_le.mp c62) k 0 (by omega) G67 ⟨(hX.1.1.eq yq h.1.2.1).g0 (by decide) e67 f67, fun j hj => by rw [e67 21 (by decide)]; exact (y21 j hj), by rw [f67, pk_un (by decide)]; exact y35, by rw [f67, pk_us], fun x hx => by rw [e67 19 (by decide)]; exact y19 x hx, fun j hj => absurd hj (by omega)⟩
    · exact absurd c15 (by omega)
  | succ q ih =>
    intro k hk X hX
    have hst := ih (k + 1) (by omega)
    refine cm_iload3 (pc := 10) dX7_orderOn_10 ?_
    refine cm_aload0 (pc := 11) dX7_orderOn_11 ?_
    refine mk_fld (pc := 12) flX7_151 dX7_orderOn_12 hE.1 ?_
    rw [show X 0 9 = nI nb by rw [hX.1.1.1 9 (by decide)]; exact h.1.1]
    refine cm_geN (pc := 15) (tgt := 41) dX7_orderOn_15 (by decide) (by omega) (by omega) (fun c15 => ?_) (fun c15 => ?_)
    · exact absurd c15 (by omega)
    · refine cm_aload0 (pc := 18) dX7_orderOn_18 ?_
      refine cm_getR (pc := 19) flX7_34 dX7_orderOn_19 hE.1 hE.r13 ?_
      refine cm_iload3 (pc := 22) dX7_orderOn_22 ?_
      refine cm_aload0 (pc := 23) dX7_orderOn_23 ?_
      refine cm_getR (pc := 24) flX7_70 dX7_orderOn_24 hE.1 hE.r39 ?_
      refine cm_aload0 (pc := 27) dX7_orderOn_27 ?_
      refine cm_getR (pc := 28) flX7_64 dX7_orderOn_28 hE.1 hE.r37 ?_
      refine cm_iload3 (pc := 31) dX7_orderOn_31 ?_
      refine mk_get (pc := 32) dX7_orderOn_32 hE.a19 (by omega) (by decide) ?_
      rw [hX.1.2.2.2.2.2 k (by omega)]
      refine mk_get (pc := 33) dX7_orderOn_33 hE.a21 (by have := hpb k (by omega); omega) (by decide) ?_
      rw [hX.1.2.1 _ (hpb k (by omega))]
      refine mk_put (pc := 34) dX7_orderOn_34 hE.a9 (by omega) (by decide) ?_
      refine cm_mkG (fun G34 e34 f34 => ?_)
      refine cm_incN3 (pc := 35) dX7_orderOn_35 (by decide) rfl ?_
      refine cm_goto (pc := 38) (tgt := 10) dX7_orderOn_38 (by decide) ?_
      refine hst G34 ⟨⟨hX.1.1.w9 (by omega) e34 f34, fun j hj => by rw [e34 21 (by decide)]; exact hX.1.2.1 j hj, by rw [e34 0 (by decide)]; exact hX.1.2.2.1, by rw [e34 0 (by decide)]; exact hX.1.2.2.2.1, by rw [e34 20 (by decide)]; exact hX.1.2.2.2.2.1, by rw [e34 19 (by decide)]; exact hX.1.2.2.2.2.2⟩, fun j hj => ?_⟩
      rw [f34]
      unfold upd
      by_cases q9 : j = k
      · rw [if_pos q9, q9]
      · rw [if_neg q9]; exact hX.2 j (by omega)
set_option maxRecDepth 20000 in
set_option maxHeartbeats 2000000 in
theorem r_orderOn (hE : cm_mdl sh hr e) {n : Nat} (h : uOk u nb ns) (hn20 : n ≤ 20) : ∀ (q : Nat) (pre : List Nat) (L : Nat) (X : cm_g2) (m : Int32) (b : List Nat), pre.length + q = nb → L < 64 → (∀ i, i < pre.length → oG pre i < nb) → uOI u X nb n m b pre → cm_ct D mX7_orderOn (d + 6 + q) 0 0 [.ref e, .int (nI pre.length), .int (nI L)] (sh, cm_us hi e (X), hl, hr) (fun r9 h9 => r9 = none ∧ ∃ V9 m9 b9, h9 = (sh, cm_us hi e V9, hl, hr) ∧ uOI u V9 nb n m9 b9 pre ∧ boFold (uOv u nb ns n) (uLv nb (q) pre L) m b m9 b9) := by
  have hnb := h.1.2.1
  have hns := h.1.2.2.2
  intro q
  induction q with
  | zero =>
      intro pre L X m b hpl hL hpb hX
      have hpl : pre.length = nb := by omega
      rw [hpl] at hpb
      rw [hpl]
      refine cm_ct_of (ls := [some (.ref e), some (.int (nI nb)), some (.int (nI L)), none, none]) 2 (by decide +kernel) rfl rfl ?_
      refine cm_iload1 (pc := 0) dX7_orderOn_0 ?_
      refine cm_aload0 (pc := 1) dX7_orderOn_1 ?_
      refine mk_fld (pc := 2) flX7_151 dX7_orderOn_2 hE.1 ?_
      rw [show X 0 9 = nI nb by rw [hX.1.1 9 (by decide)]; exact h.1.1]
      refine cm_icmp_ne (pc := 5) (tgt := 103) dX7_orderOn_5 (by decide) (fun q => absurd rfl q) (fun c5 => ?_)
      refine cm_iconst (pc := 8) (v := 0) dX7_orderOn_8 (by decide) ?_
      refine cm_istore3 (pc := 9) dX7_orderOn_9 (by decide) rfl ?_
      exact l_olf hE h hn20 hpl hpb nb 0 (by omega) X ⟨hX, fun j hj => absurd hj (by omega)⟩
  | succ q ihq =>
      intro pre L X m b hpl hL hpb hX
      have hj : ∀ n9 k : Nat, k + n9 = nb → ∀ x4 : Option Value, ∀ (Y : cm_g2) (m1 : Int32) (b1 : List Nat), uOI u Y nb n m1 b1 pre → (∀ m2 b2, boFold (uOv u nb ns n) (uLj (fun j => uLv nb q (pre ++ [j]) (rmB L j)) L n9 k) m1 b1 m2 b2 → boFold (uOv u nb ns n) (uLj (fun j => uLv nb q (pre ++ [j]) (rmB L j)) L nb 0) m b m2 b2) → cm_g D mX7_orderOn (d + 6 + (q + 1)) 0 0 (fun r9 h9 => r9 = none ∧ ∃ V9 m9 b9, h9 = (sh, cm_us hi e V9, hl, hr) ∧ uOI u V9 nb n m9 b9 pre ∧ boFold (uOv u nb ns n) (uLj (fun j => uLv nb q (pre ++ [j]) (rmB L j)) L nb 0) m b m9 b9) 0 0 105 [some (.ref e), some (.int (nI pre.length)), some (.int (nI L)), some (.int (nI k)), x4] [] (sh, cm_us hi e (Y), hl, hr) := by
        intro n9
        induction n9 with
        | zero =>
          intro k hk k0 Y m1 b1 hY hf
          have h1 : k = nb := by omega
          refine cm_iload3 (pc := 105) dX7_orderOn_105 ?_
          refine cm_aload0 (pc := 106) dX7_orderOn_106 ?_
          refine mk_fld (pc := 107) flX7_151 dX7_orderOn_107 hE.1 ?_
          rw [show Y 0 9 = nI nb by rw [hY.1.1 9 (by decide)]; exact h.1.1]
          refine cm_geN (pc := 110) (tgt := 148) dX7_orderOn_110 (by decide) (by omega) (by omega) (fun c110 => ?_) (fun c110 => ?_)
          · exact cm_vret (pc := 148) dX7_orderOn_148 rfl ⟨rfl, Y, m1, b1, rfl, hY, hf m1 b1 ⟨rfl, rfl⟩⟩
          · exact absurd c110 (by omega)
        | succ n9 ihj =>
          intro k hk k0 Y m1 b1 hY hf
          have hst := ihj (k + 1) (by omega)
          refine cm_iload3 (pc := 105) dX7_orderOn_105 ?_
          refine cm_aload0 (pc := 106) dX7_orderOn_106 ?_
          refine mk_fld (pc := 107) flX7_151 dX7_orderOn_107 hE.1 ?_
          rw [show Y 0 9 = nI nb by rw [hY.1.1 9 (by decide)]; exact h.1.1]
          refine cm_geN (pc := 110) (tgt := 148) dX7_orderOn_110 (by decide) (by omega) (by omega) (fun c110 => ?_) (fun c110 => ?_)
          · exact absurd c110 (by omega)
          · refine cm_iload2 (pc := 113) dX7_orderOn_113 ?_
            refine cm_iload3 (pc := 114) dX7_orderOn_114 ?_
            refine cm_S2 (pc := 115) mX7_has_s mlX7_207 dX7_orderOn_115 (by omega) (Nat.le_of_ble_eq_true rfl) (Nat.le_refl _) (Nat.le_refl _) (r_has (d := d + 6 + q)) (fun r115 h115 hq115 => ?_)
            obtain ⟨rfl, rfl⟩ := hq115
            refine cm_ifeqB (pc := 118) (tgt := 142) dX7_orderOn_118 (by decide) (fun c118 => ?_) (fun c118 => ?_)
            · have hbit : L.testBit k = false := by rw [← uHas_bit L hL k (by omega)]; exact c118
              refine cm_incN3 (pc := 142) dX7_orderOn_142 (by decide) rfl ?_
              refine cm_goto (pc := 145) (tgt := 105) dX7_orderOn_145 (by decide) ?_
              refine hst k0 Y m1 b1 hY (fun m2 b2 w => hf m2 b2 ?_)
              rw [show uLj (fun j => uLv nb q (pre ++ [j]) (rmB L j)) L (n9 + 1) k = ([] : List (List Nat)) ++ uLj (fun j => uLv nb q (pre ++ [j]) (rmB L j)) L n9 (k + 1) by show (if L.testBit k then _ else _) ++ _ = _; rw [if_neg (by rw [hbit]; decide)]]
              exact w
            · have hbit : L.testBit k = true := by rw [← uHas_bit L hL k (by omega)]; exact c118
              refine cm_aload0 (pc := 121) dX7_orderOn_121 ?_
              refine cm_getR (pc := 122) flX7_64 dX7_orderOn_122 hE.1 hE.r37 ?_
              refine cm_iload1 (pc := 125) dX7_orderOn_125 ?_
              refine cm_iload3 (pc := 126) dX7_orderOn_126 ?_
              refine mk_putE (pc := 127) (pre.length) dX7_orderOn_127 hE.a19 rfl (by omega) (by decide) ?_
              refine cm_mkG (fun G127 e127 f127 => ?_)
              have hpk : ∀ i, i < (pre ++ [k]).length → oG (pre ++ [k]) i < nb := fun i hi => by
                rw [List.length_append] at hi
                rw [oG_app]
                split
                · omega
                · exact hpb i (by have : i < pre.length + 1 := hi; omega)
              have hGk : uOI u G127 nb n m1 b1 (pre ++ [k]) := ⟨hY.1.g (by decide) e127, fun j hj => by rw [e127 21 (by decide)]; exact hY.2.1 j hj, by rw [e127 0 (by decide)]; exact hY.2.2.1, by rw [e127 0 (by decide)]; exact hY.2.2.2.1, by rw [e127 20 (by decide)]; exact hY.2.2.2.2.1, fun x hx => by
                rw [List.length_append] at hx
                rw [f127, oG_app]
                unfold upd
                by_cases q9 : x = pre.length
                · rw [if_pos q9, if_pos q9]
                · rw [if_neg q9, if_neg q9]; exact hY.2.2.2.2.2 x (by have : x < pre.length + 1 := hx; omega)⟩
              refine cm_aload0 (pc := 128) dX7_orderOn_128 ?_
              refine cm_iload1 (pc := 129) dX7_orderOn_129 ?_
              refine cm_iconst (pc := 130) (v := 1) dX7_orderOn_130 (by decide) ?_
              refine cm_iadd (pc := 131) dX7_orderOn_131 ?_
              rw [show nI pre.length + 1 = nI (pre ++ [k]).length by rw [nI_1, List.length_append]; rfl]
              refine cm_iload2 (pc := 132) dX7_orderOn_132 ?_
              refine cm_iconst (pc := 133) (v := 1) dX7_orderOn_133 (by decide) ?_
              refine cm_iload3 (pc := 134) dX7_orderOn_134 ?_
              refine cm_ishl (pc := 135) dX7_orderOn_135 ?_
              refine cm_iconst (pc := 136) (v := -1) dX7_orderOn_136 (by decide) ?_
              refine cm_ixor (pc := 137) dX7_orderOn_137 ?_
              refine cm_iand (pc := 138) dX7_orderOn_138 ?_
              rw [(rmB_ok L hL k (by omega)).1]
              refine cm_V2 (pc := 139) mX7_orderOn_v mlX7_286 dX7_orderOn_139 hE.1 (by omega) (Nat.le_of_ble_eq_true rfl) (Nat.le_refl _) (Nat.le_refl _) (ihq (pre ++ [k]) (rmB L k) G127 m1 b1 (by rw [List.length_append]; show pre.length + 1 + q = nb; omega) (rmB_ok L hL k (by omega)).2 hpk hGk) (fun r139 h139 hq139 => ?_)
              obtain ⟨rfl, V9, m9, b9, rfl, hV9, hbf⟩ := hq139
              refine cm_incN3 (pc := 142) dX7_orderOn_142 (by decide) rfl ?_
              refine cm_goto (pc := 145) (tgt := 105) dX7_orderOn_145 (by decide) ?_
              refine hst k0 V9 m9 b9 ⟨hV9.1, hV9.2.1, hV9.2.2.1, hV9.2.2.2.1, hV9.2.2.2.2.1, fun x hx => by rw [hV9.2.2.2.2.2 x (by rw [List.length_append]; show x < pre.length + 1; omega), oG_app, if_neg (by omega)]⟩ (fun m2 b2 w => hf m2 b2 ?_)
              rw [show uLj (fun j => uLv nb q (pre ++ [j]) (rmB L j)) L (n9 + 1) k = uLv nb q (pre ++ [k]) (rmB L k) ++ uLj (fun j => uLv nb q (pre ++ [j]) (rmB L j)) L n9 (k + 1) by show (if L.testBit k then _ else _) ++ _ = _; rw [if_pos hbit]]
              exact boFold_app _ _ _ _ _ _ _ _ hbf w
      refine cm_ct_of (ls := [some (.ref e), some (.int (nI pre.length)), some (.int (nI L)), none, none]) 2 (by decide +kernel) rfl rfl ?_
      refine cm_iload1 (pc := 0) dX7_orderOn_0 ?_
      refine cm_aload0 (pc := 1) dX7_orderOn_1 ?_
      refine mk_fld (pc := 2) flX7_151 dX7_orderOn_2 hE.1 ?_
      rw [show X 0 9 = nI nb by rw [hX.1.1 9 (by decide)]; exact h.1.1]
      refine cm_icmp_ne (pc := 5) (tgt := 103) dX7_orderOn_5 (by decide) (fun c5 => ?_) (fun q => absurd q (fun w => by have := (nI_eq (a := pre.length) (b := nb) (by omega) (by omega)).mp w; omega))
      refine cm_iconst (pc := 103) (v := 0) dX7_orderOn_103 (by decide) ?_
      refine cm_istore3 (pc := 104) dX7_orderOn_104 (by decide) rfl ?_
      exact hj nb 0 (by omega) none X m b hX (fun m2 b2 w => w)
end U8
