/-! PART ucalls9: the reference's calls: best -/
theorem bit_z (s : Int32) (k : Nat) : 0 ≤ ((s >>> (nI k &&& 31)) &&& 1).toInt ∧ ((s >>> (nI k &&& 31)) &&& 1).toInt ≤ 1 := by
  generalize s >>> (nI k &&& 31) = y
  have e : (y &&& 1).toInt = ((y.toBitVec &&& 1#32)).toInt := rfl
  rw [e, BitVec.toInt_eq_toNat_cond, BitVec.toNat_and]
  have h1 : y.toBitVec.toNat &&& (1#32).toNat ≤ 1 := by
    have := Nat.and_le_right (n := y.toBitVec.toNat) (m := 1)
    exact this
  rw [if_pos (by omega)]
  omega
theorem uSz_z (s : Int32) : ∀ k, k ≤ 1000 → 0 ≤ (uSz s k).toInt ∧ (uSz s k).toInt ≤ k
  | 0, _ => by
    show 0 ≤ (0 : Int32).toInt ∧ (0 : Int32).toInt ≤ (0 : Int)
    decide
  | k + 1, hk => by
    have h1 := uSz_z s k (by omega)
    have h2 := bit_z s k
    show 0 ≤ (uSz s k + ((s >>> (nI k &&& 31)) &&& 1)).toInt ∧ _
    have e : (uSz s (k + 1)) = uSz s k + ((s >>> (nI k &&& 31)) &&& 1) := rfl
    rw [e, zadd (by omega)]
    omega
theorem boFold_ge {V : List Nat → Int32 → Prop} : ∀ (L : List (List Nat)) (m : Int32) (b : List Nat) (m' : Int32) (b' : List Nat), boFold V L m b m' b' → m ≤ m'
  | [], m, b, m', b', h => by
    obtain ⟨rfl, rfl⟩ := h
    exact Int32.le_refl _
  | o :: L, m, b, m', b', h => by
    obtain ⟨v, hv, h⟩ := h
    split at h
    · next hc => exact Int32.le_trans (Int32.le_of_lt hc) (boFold_ge L v o m' b' h)
    · exact boFold_ge L m b m' b' h
theorem uLv_ne : ∀ nb, nb ≤ 6 → uLv nb nb [] (2 ^ nb - 1) ≠ [] := by decide +kernel
theorem uOv_pos {u : cm_g2} {nb ns n : Nat} {o : List Nat} {v : Int32} (h : uOv u nb ns n o v) : (-1 : Int32) < v := by
  obtain ⟨-, W, -, rfl⟩ := h
  have := uSz_z (uCB (uLA W nb ns n) 0 32) 10 (by decide)
  have z : (-1 : Int32).toInt = -1 := by decide
  rw [Int32.lt_iff_toInt_lt, z]
  omega
theorem boFold_pos {u : cm_g2} {nb ns n : Nat} {L : List (List Nat)} {b : List Nat} {m' : Int32} {b' : List Nat} (hL : L ≠ []) (h : boFold (uOv u nb ns n) L (-1) b m' b') : ¬ m' = -1 := by
  cases L with
  | nil => exact absurd rfl hL
  | cons o L =>
    obtain ⟨v, hv, h⟩ := h
    have h1 := uOv_pos hv
    rw [if_pos h1] at h
    have h2 := boFold_ge _ _ _ _ _ h
    intro w
    rw [w] at h2
    exact absurd h1 (Int32.not_lt.mpr h2)
theorem rowF_cg {f : Nat → Int32} {r nb : Nat} {g g' : Nat → Int32} (h : ∀ x, x < nb → g x = g' x) : rowF f r nb g = rowF f r nb g' := by
  funext x
  unfold rowF
  by_cases q : 40 * r ≤ x ∧ x < 40 * r + 40
  · rw [if_pos q, if_pos q]
    by_cases q2 : x < 40 * r + nb
    · rw [if_pos q2, if_pos q2, h _ (by omega)]
    · rw [if_neg q2, if_neg q2]
  · rw [if_neg q, if_neg q]
theorem uRow_in {V : cm_g2} {r nb : Nat} {g : Nat → Int32} (hr6 : r < 6) (hnb : nb ≤ 6) : uRow V (nI r) (nI nb) = (nI nb, va_up (va_up V 2 (upd (V 2) r (nI nb))) 3 (rowF (V 3) r 0 g)) := by
  have hrc : (nI r).toNatClampNeg = r := nI_clamp (by omega)
  have z0 : (0 : Int32).toInt = 0 := by decide
  have z5 : (5 : Int32).toInt = 5 := by decide
  have z40 : (40 : Int32).toInt = 40 := by decide
  unfold uRow
  have hin : uIn (nI r) 0 5 = true := uIn_zz.mpr (by rw [z0, z5, nI_toInt (by omega)]; omega)
  rw [if_neg (fun w => w.elim (fun w => by rw [hin] at w; cases w) (fun w => w (by rw [Int32.le_iff_toInt_le, z40, nI_toInt (by omega)]; omega))), if_pos (by rw [Int32.le_iff_toInt_le, z0, nI_toInt (by omega)]; omega), hrc]
  refine congrArg (fun f => (nI nb, va_up (va_up V 2 (upd (V 2) r (nI nb))) 3 f)) (funext fun x => ?_)
  unfold rowF
  by_cases q8 : 40 * r ≤ x ∧ x < 40 * r + 40
  · rw [if_pos q8, if_pos q8, if_neg (by omega)]
  · rw [if_neg q8, if_neg q8]
theorem rowF_put {f : Nat → Int32} {r k : Nat} {g : Nat → Int32} (hk : k < 40) : upd (rowF f r k g) (40 * r + k) (g k) = rowF f r (k + 1) g := by
  funext x
  unfold upd rowF
  by_cases q9 : x = 40 * r + k
  · subst q9
    rw [if_pos rfl, if_pos (by omega), if_pos (by omega), show 40 * r + k - 40 * r = k by omega]
  · rw [if_neg q9]
    by_cases q8 : 40 * r ≤ x ∧ x < 40 * r + 40
    · rw [if_pos q8, if_pos q8]
      by_cases q7 : x < 40 * r + k
      · rw [if_pos q7, if_pos (by omega)]
      · rw [if_neg q7, if_neg (by omega)]
    · rw [if_neg q8, if_neg q8]
def uBest (u : cm_g2) (nb ns : Nat) (n r : Int32) (r9 : Option Value) (v : cm_g2) : Prop := if uIn n 0 20 = false ∨ uIn r 0 5 = false then r9 = some (.int (-1)) ∧ v = u else if u 0 9 = 0 then r9 = some (.int (-4)) ∧ v = u else ∃ m9 b9, boFold (uOv u nb ns n.toNatClampNeg) (uLv nb nb [] (2 ^ nb - 1)) (-1) [] m9 b9 ∧ r9 = some (.int m9) ∧ uEq (uPR u r.toNatClampNeg nb (fun x => nI (oG b9 x))) v
/-- behind the orders: wants back, the ROW laid -/
def uBk9 (A X : cm_g2) (r k : Nat) : Prop := (∀ c, c ≠ 9 → c ≠ 3 → X c = A c) ∧ (∀ x, X 9 x = if x < k then A 21 x else A 9 x) ∧ X 3 = rowF (A 3) r k (A 20)
section U9
variable {D : cm_D} {d : Nat} {sh : List cm_Sh} {hi u : cm_g2} {hl : Nat → Nat → Int64} {hr : Nat → Nat → Option Nat} {e nb ns : Nat}
set_option maxRecDepth 20000 in
theorem l_bbk (hE : cm_mdl sh hr e) {V : cm_g2} {n : Int32} {r : Nat} (hV9 : V 0 9 = nI nb) (hnb : nb ≤ 6) (hr6 : r < 6) : ∀ q k : Nat, k + q = nb → ∀ X, uBk9 (va_up V 2 (upd (V 2) r (nI nb))) X r k → cm_g D mX7_best (d + 6) 0 0 (fun r9 h9 => ∃ v, h9 = (sh, cm_us hi e v, hl, hr) ∧ (r9 = some (.int (V 0 36)) ∧ uBk9 (va_up V 2 (upd (V 2) r (nI nb))) v r nb)) 0 0 89 [some (.ref e), some (.int n), some (.int (nI r)), some (.int (nI k))] [] (sh, cm_us hi e (X), hl, hr) := by
  intro q
  induction q with
  | zero =>
    intro k hk X hX
    have h1 : k = nb := by omega
    subst h1
    refine cm_iload3 (pc := 89) dX7_best_89 ?_
    refine cm_aload0 (pc := 90) dX7_best_90 ?_
    refine mk_fld (pc := 91) flX7_151 dX7_best_91 hE.1 ?_
    rw [show X 0 9 = nI k by rw [hX.1 0 (by decide) (by decide), va_up_ne _ _ (by decide)]; exact hV9]
    refine cm_geN (pc := 94) (tgt := 127) dX7_best_94 (by decide) (by omega) (by omega) (fun c94 => ?_) (fun c94 => ?_)
    · refine cm_aload0 (pc := 127) dX7_best_127 ?_
      refine mk_fld (pc := 128) flX7_283 dX7_best_128 hE.1 ?_
      exact cm_iret (pc := 131) dX7_best_131 rfl ⟨X, rfl, by rw [hX.1 0 (by decide) (by decide), va_up_ne _ _ (by decide)], hX⟩
    · exact absurd c94 (by omega)
  | succ q ih =>
    intro k hk X hX
    have hst := ih (k + 1) (by omega)
    refine cm_iload3 (pc := 89) dX7_best_89 ?_
    refine cm_aload0 (pc := 90) dX7_best_90 ?_
    refine mk_fld (pc := 91) flX7_151 dX7_best_91 hE.1 ?_
    rw [show X 0 9 = nI nb by rw [hX.1 0 (by decide) (by decide), va_up_ne _ _ (by decide)]; exact hV9]
    refine cm_geN (pc := 94) (tgt := 127) dX7_best_94 (by decide) (by omega) (by omega) (fun c94 => ?_) (fun c94 => ?_)
    · exact absurd c94 (by omega)
    · refine cm_aload0 (pc := 97) dX7_best_97 ?_
      refine cm_getR (pc := 98) flX7_34 dX7_best_98 hE.1 hE.r13 ?_
      refine cm_iload3 (pc := 101) dX7_best_101 ?_
      refine cm_aload0 (pc := 102) dX7_best_102 ?_
      refine cm_getR (pc := 103) flX7_70 dX7_best_103 hE.1 hE.r39 ?_
      refine cm_iload3 (pc := 106) dX7_best_106 ?_
      refine mk_get (pc := 107) dX7_best_107 hE.a21 (by omega) (by decide) ?_
      refine mk_put (pc := 108) dX7_best_108 hE.a9 (by omega) (by decide) ?_
      refine cm_mkG (fun G108 e108 f108 => ?_)
      refine cm_aload0 (pc := 109) dX7_best_109 ?_
      refine cm_iload2 (pc := 110) dX7_best_110 ?_
      refine cm_iload3 (pc := 111) dX7_best_111 ?_
      refine cm_aload0 (pc := 112) dX7_best_112 ?_
      refine cm_getR (pc := 113) flX7_67 dX7_best_113 hE.1 hE.r38 ?_
      refine cm_iload3 (pc := 116) dX7_best_116 ?_
      refine mk_get (pc := 117) dX7_best_117 hE.a20 (by omega) (by decide) ?_
      refine cm_V3 (pc := 118) mX7_setRow_v mlX7_98 dX7_best_118 hE.1 (by omega) (Nat.le_of_ble_eq_true rfl) (Nat.le_refl _) (Nat.le_refl _) (r_setRow (d := d + 5) hE hr6 (by omega)) (fun r118 h118 hq118 => ?_)
      obtain ⟨rfl, rfl⟩ := hq118
      refine cm_mkG (fun G118 e118 f118 => ?_)
      refine cm_incN3 (pc := 121) dX7_best_121 (by decide) rfl ?_
      refine cm_goto (pc := 124) (tgt := 89) dX7_best_124 (by decide) ?_
      have a21 : X 21 = va_up V 2 (upd (V 2) r (nI nb)) 21 := hX.1 21 (by decide) (by decide)
      have a20 : G108 20 = va_up V 2 (upd (V 2) r (nI nb)) 20 := by rw [e108 20 (by decide)]; exact hX.1 20 (by decide) (by decide)
      refine hst G118 ⟨fun c h9 h3 => by rw [e118 c h3, e108 c h9]; exact hX.1 c h9 h3, fun x => ?_, ?_⟩
      · rw [e118 9 (by decide), f108, a21]
        unfold upd
        by_cases q9 : x = k
        · rw [if_pos q9, if_pos (by omega), q9]
        · rw [if_neg q9, hX.2.1 x]
          by_cases q8 : x < k
          · rw [if_pos q8, if_pos (by omega)]; rfl
          · rw [if_neg q8, if_neg (by omega)]; rfl
      · rw [f118, e108 3 (by decide), hX.2.2, a20]
        exact rowF_put (by omega)
set_option maxRecDepth 20000 in
theorem l_bwn (hE : cm_mdl sh hr e) {n r : Int32} {Q : Option Value → cm_H → Prop} (h : uOk u nb ns) : ∀ q k : Nat, k + q = nb → (kk : cm_g D mX7_best (d + 13) 0 0 (Q) 0 0 54 [some (.ref e), some (.int n), some (.int r), some (.int (nI nb))] [] (sh, cm_us hi e (va_up u 21 (fun x => if x < nb then u 9 x else u 21 x)), hl, hr)) → cm_g D mX7_best (d + 13) 0 0 (Q) 0 0 28 [some (.ref e), some (.int n), some (.int r), some (.int (nI k))] [] (sh, cm_us hi e (va_up u 21 (fun x => if x < k then u 9 x else u 21 x)), hl, hr) := by
  have hnb := h.1.2.1
  have hns := h.1.2.2.2
  intro q
  induction q with
  | zero =>
    intro k hk kk
    have h1 : k = nb := by omega
    subst h1
    refine cm_iload3 (pc := 28) dX7_best_28 ?_
    refine cm_aload0 (pc := 29) dX7_best_29 ?_
    refine mk_fld (pc := 30) flX7_151 dX7_best_30 hE.1 ?_
    rw [va_up_ne _ _ (by decide), h.1.1]
    refine cm_geN (pc := 33) (tgt := 54) dX7_best_33 (by decide) (by omega) (by omega) (fun c33 => ?_) (fun c33 => ?_)
    · exact kk
    · exact absurd c33 (by omega)
  | succ q ih =>
    intro k hk kk
    have hst := ih (k + 1) (by omega)
    refine cm_iload3 (pc := 28) dX7_best_28 ?_
    refine cm_aload0 (pc := 29) dX7_best_29 ?_
    refine mk_fld (pc := 30) flX7_151 dX7_best_30 hE.1 ?_
    rw [va_up_ne _ _ (by decide), h.1.1]
    refine cm_geN (pc := 33) (tgt := 54) dX7_best_33 (by decide) (by omega) (by omega) (fun c33 => ?_) (fun c33 => ?_)
    · exact absurd c33 (by omega)
    · refine cm_aload0 (pc := 36) dX7_best_36 ?_
      refine cm_getR (pc := 37) flX7_70 dX7_best_37 hE.1 hE.r39 ?_
      refine cm_iload3 (pc := 40) dX7_best_40 ?_
      refine cm_aload0 (pc := 41) dX7_best_41 ?_
      refine cm_getR (pc := 42) flX7_34 dX7_best_42 hE.1 hE.r13 ?_
      refine cm_iload3 (pc := 45) dX7_best_45 ?_
      refine mk_get (pc := 46) dX7_best_46 hE.a9 (by omega) (by decide) ?_
      rw [va_up_ne _ _ (by decide)]
      refine mk_put (pc := 47) dX7_best_47 hE.a21 (by omega) (by decide) ?_
      rw [show va_up (va_up u 21 (fun x => if x < k then u 9 x else u 21 x)) 21 (upd (va_up u 21 (fun x => if x < k then u 9 x else u 21 x) 21) k (u 9 k)) = va_up u 21 (fun x => if x < k + 1 then u 9 x else u 21 x) by
        rw [va_up_self, bx_uu]
        congr 1
        funext x
        unfold upd
        by_cases q9 : x = k
        · rw [if_pos q9, if_pos (by omega), q9]
        · rw [if_neg q9]
          show (if x < k then u 9 x else u 21 x) = _
          by_cases q8 : x < k
          · rw [if_pos q8, if_pos (by omega)]
          · rw [if_neg q8, if_neg (by omega)]]
      refine cm_incN3 (pc := 48) dX7_best_48 (by decide) rfl ?_
      refine cm_goto (pc := 51) (tgt := 28) dX7_best_51 (by decide) ?_
      exact hst kk
set_option maxRecDepth 20000 in
theorem r_best (hE : cm_mdl sh hr e) {n r : Int32} (h : uOk u nb ns) : cm_ct D mX7_best (d + 13) 0 0 [.ref e, .int n, .int r] (sh, cm_us hi e u, hl, hr) (fun r9 h9 => ∃ v, h9 = (sh, cm_us hi e v, hl, hr) ∧ uBest u nb ns n r r9 v) := by
  have hnb := h.1.2.1
  have hns := h.1.2.2.2
  refine cm_ct_of (ls := [some (.ref e), some (.int n), some (.int r), none]) 1 (by decide +kernel) rfl rfl ?_
  refine cm_iload1 (pc := 0) dX7_best_0 ?_
  refine cm_S1 (pc := 1) mX7_isSpan_s mlX7_289 dX7_best_1 (by omega) (Nat.le_of_ble_eq_true rfl) (Nat.le_refl _) (Nat.le_refl _) (r_isSpan (d := d + 11)) (fun r1 h1 hq1 => ?_)
  obtain ⟨rfl, rfl⟩ := hq1
  refine cm_ifeqB (pc := 4) (tgt := 14) dX7_best_4 (by decide) (fun c4 => ?_) (fun c4 => ?_)
  · refine cm_iconst (pc := 14) (v := -1) dX7_best_14 (by decide) ?_
    exact cm_iret (pc := 15) dX7_best_15 rfl ⟨u, rfl, by unfold uBest; rw [if_pos (Or.inl c4)]; exact ⟨rfl, rfl⟩⟩
  · refine cm_iload2 (pc := 7) dX7_best_7 ?_
    refine cm_S1 (pc := 8) mX7_isRow_s mlX7_87 dX7_best_8 (by omega) (Nat.le_of_ble_eq_true rfl) (Nat.le_refl _) (Nat.le_refl _) (r_isRow (d := d + 11)) (fun r8 h8 hq8 => ?_)
    obtain ⟨rfl, rfl⟩ := hq8
    refine cm_ifneB (pc := 11) (tgt := 16) dX7_best_11 (by decide) (fun c11 => ?_) (fun c11 => ?_)
    · refine cm_aload0 (pc := 16) dX7_best_16 ?_
      refine mk_fld (pc := 17) flX7_151 dX7_best_17 hE.1 ?_
      refine cm_if_ne (pc := 20) (tgt := 26) dX7_best_20 (by decide) (fun c20 => ?_) (fun c20 => ?_)
      · have zn := uIn_zz.mp c4
        have z0n : (0 : Int32).toInt = 0 := by decide
        have znh : (20 : Int32).toInt = 20 := by decide
        rw [z0n, znh] at zn
        have en : n = nI n.toNatClampNeg := z_of (by omega)
        have wn : n.toNatClampNeg = n.toInt.toNat := rfl
        generalize hq9 : n.toNatClampNeg = q9 at *
        subst en
        obtain ⟨j9, hj9, rfl⟩ := uIn_ex 5 c11
        have hj9c : (nI j9).toNatClampNeg = j9 := nI_clamp (by omega)
        refine cm_iconst (pc := 26) (v := 0) dX7_best_26 (by decide) ?_
        refine cm_istore3 (pc := 27) dX7_best_27 (by decide) rfl ?_
        refine cm_h_eq (show (sh, cm_us hi e u, hl, hr) = (sh, cm_us hi e (va_up u 21 (fun x => if x < 0 then u 9 x else u 21 x)), hl, hr) by rw [show (fun x => if x < 0 then u 9 x else u 21 x) = u 21 from funext (fun x => if_neg (Nat.not_lt_zero x)), va_up_own]) ?_
        refine l_bwn hE h nb 0 (by omega) ?_
        refine cm_aload0 (pc := 54) dX7_best_54 ?_
        refine cm_iload1 (pc := 55) dX7_best_55 ?_
        refine mk_set (pc := 56) fpX7_280 dX7_best_56 hE.1 ?_
        refine cm_mkG (fun G56 e56 f56 => ?_)
        refine cm_aload0 (pc := 59) dX7_best_59 ?_
        refine cm_iconst (pc := 60) (v := -1) dX7_best_60 (by decide) ?_
        refine mk_set (pc := 61) fpX7_283 dX7_best_61 hE.1 ?_
        refine cm_mkG (fun G61 e61 f61 => ?_)
        refine cm_aload0 (pc := 64) dX7_best_64 ?_
        refine cm_iconst (pc := 65) (v := 0) dX7_best_65 (by decide) ?_
        refine cm_iconst (pc := 66) (v := 1) dX7_best_66 (by decide) ?_
        refine cm_aload0 (pc := 67) dX7_best_67 ?_
        refine mk_fld (pc := 68) flX7_151 dX7_best_68 hE.1 ?_
        rw [show G61 0 9 = nI nb by rw [f61, pk_un (by decide), f56, pk_un (by decide), va_up_ne _ _ (by decide)]; exact h.1.1]
        refine cm_ishl (pc := 71) dX7_best_71 ?_
        refine cm_iconst (pc := 72) (v := 1) dX7_best_72 (by decide) ?_
        refine cm_isub (pc := 73) dX7_best_73 ?_
        rw [all_nI nb hnb]
        have hoi : uOI u G61 nb q9 (-1) [] [] := by
          refine ⟨⟨fun j hj => ?_, fun c hc => ?_, fun c h1 h2 h9 i hi => ?_, fun i h1 hi => ?_⟩, fun j hj => ?_, ?_, ?_, Or.inl rfl, fun x hx => absurd hx (by simp)⟩
          · rw [f61, pk_un (by omega), f56, pk_un (by omega), va_up_ne _ _ (by decide)]
          · rw [e61 c (by omega), e56 c (by omega), va_up_ne _ _ (by omega)]
          · rw [e61 c (by omega), e56 c (by omega), va_up_ne _ _ (by omega)]
          · rw [e61 9 (by decide), e56 9 (by decide), va_up_ne _ _ (by decide)]
          · rw [e61 21 (by decide), e56 21 (by decide), va_up_self]
            exact if_pos hj
          · rw [f61, pk_un (by decide), f56, pk_us]
          · rw [f61, pk_us]
        have hoo := r_orderOn (D := D) (d := d + (6 - nb)) (sh := sh) (hi := hi) (hl := hl) hE h (n := q9) (by omega) nb [] (2 ^ nb - 1) G61 (-1) [] (by simp) (by have := p2_64 hnb; omega) (fun i hi => absurd hi (by simp)) hoi
        rw [show d + (6 - nb) + 6 + nb = d + 12 by omega] at hoo
        refine cm_V2 (pc := 74) mX7_orderOn_v mlX7_286 dX7_best_74 hE.1 (by omega) (Nat.le_of_ble_eq_true rfl) (Nat.le_refl _) (Nat.le_refl _) ((hoo)) (fun r74 h74 hq74 => ?_)
        obtain ⟨rfl, V, m9, b9, rfl, hV, hbf⟩ := hq74
        refine cm_aload0 (pc := 77) dX7_best_77 ?_
        refine cm_iload2 (pc := 78) dX7_best_78 ?_
        refine cm_aload0 (pc := 79) dX7_best_79 ?_
        refine mk_fld (pc := 80) flX7_151 dX7_best_80 hE.1 ?_
        rw [show V 0 9 = nI nb by rw [hV.1.1 9 (by decide)]; exact h.1.1]
        refine cm_V2 (pc := 83) mX7_row_v mlX7_277 dX7_best_83 hE.1 (by omega) (Nat.le_of_ble_eq_true rfl) (Nat.le_refl _) (Nat.le_refl _) (r_row (d := d + 10) hE) (fun r83 h83 hq83 => ?_)
        obtain ⟨rfl, rfl⟩ := hq83
        rw [uRow_in (g := V 20) (by omega) hnb]
        refine cm_pop (pc := 86) dX7_best_86 rfl ?_
        refine cm_iconst (pc := 87) (v := 0) dX7_best_87 (by decide) ?_
        refine cm_istore3 (pc := 88) dX7_best_88 (by decide) rfl ?_
        refine cm_g_imp (fun r9 h9 q => ?_) (l_bbk (d := d + 7) hE (V := V) (n := nI q9) (r := j9) (nb := nb) (by rw [hV.1.1 9 (by decide)]; exact h.1.1) hnb (by omega) nb 0 (by omega) _ ⟨fun c h9 h3 => by dsimp only; rw [va_up_ne _ _ h3], fun x => by rw [if_neg (by omega)]; dsimp only; rw [va_up_ne _ _ (by decide)], by dsimp only; rw [va_up_self, va_up_ne _ _ (by decide), va_up_ne _ _ (by decide)]⟩)
        obtain ⟨v, q1, q2, q3⟩ := q
        have hm1 := boFold_pos (uLv_ne nb hnb) hbf
        have h20 : ∀ j, j < nb → V 20 j = nI (oG b9 j) := hV.2.2.2.2.1.resolve_left hm1
        refine ⟨v, q1, ?_⟩
        unfold uBest
        rw [if_neg (fun w => by rcases w with w | w <;> first | (rw [c4] at w; cases w) | (rw [c11] at w; cases w)), if_neg c20, hj9c, hq9]
        refine ⟨m9, b9, hbf, by rw [q2, hV.2.2.2.1], fun j hj => ?_, fun c hc => ?_, fun c h1 h2 i hi => ?_⟩
        · rw [q3.1 0 (by decide) (by decide), va_up_ne _ _ (by decide), uPR_c (by decide)]; exact hV.1.1 j hj
        · by_cases w3 : c = 3
          · subst w3
            rw [q3.2.2, uPR_3, va_up_ne _ _ (by decide), va_up_ne _ _ (by decide), hV.1.2.1 3 (by decide)]
            exact rowF_cg h20
          · rw [q3.1 c (by omega) w3]
            by_cases w2 : c = 2
            · subst w2
              rw [va_up_self, uPR_2, hV.1.2.1 2 (by decide)]
            · rw [va_up_ne _ _ w2, uPR_c ⟨w2, w3⟩]; exact hV.1.2.1 c hc
        · rw [uPR_c (by omega)]
          by_cases w9 : c = 9
          · subst w9
            rw [q3.2.1 i, va_up_ne _ _ (by decide), va_up_ne _ _ (by decide)]
            by_cases wn : i < nb
            · rw [if_pos wn]; exact hV.2.1 i wn
            · rw [if_neg wn]; exact hV.1.2.2.2 i (by omega) hi
          · rw [q3.1 c w9 (by omega), va_up_ne _ _ (by omega)]; exact hV.1.2.2.1 c h1 h2 w9 i hi
      · refine cm_bipush (pc := 23) (v := -4) dX7_best_23 (by decide) ?_
        exact cm_iret (pc := 25) dX7_best_25 rfl ⟨u, rfl, by unfold uBest; rw [if_neg (fun w => by rcases w with w | w <;> first | (rw [c4] at w; cases w) | (rw [c11] at w; cases w)), if_pos c20]; exact ⟨rfl, rfl⟩⟩
    · refine cm_iconst (pc := 14) (v := -1) dX7_best_14 (by decide) ?_
      exact cm_iret (pc := 15) dX7_best_15 rfl ⟨u, rfl, by unfold uBest; rw [if_pos (Or.inr c11)]; exact ⟨rfl, rfl⟩⟩
end U9
