/-! PART uread: the reference: copy, the language -/
theorem l64le {x y m : Nat} (hx : x < 2 ^ 31) (hy : y < 2 ^ 31) (hm : m < 2 ^ 31) : lg_cmp ((nI x).toInt64 + (nI y).toInt64) (nI m).toInt64 ≤ 0 ↔ x + y ≤ m := by
  rw [lg_cmp_le, Int64.le_iff_toInt_le, Int64.toInt_add, Int32.toInt_toInt64, Int32.toInt_toInt64, Int32.toInt_toInt64, nI_toInt hx, nI_toInt hy, nI_toInt hm, Int.bmod_eq_of_le (by omega) (by omega)]
  omega
def pD (f : Nat → Int32) (n i : Nat) : Int32 := if i < n then f i else -9
theorem pD_bt {f : Nat → Int32} {n i : Nat} {a b : Int32} (ha : -9 < a.toInt) : uIn (pD f n i) a b = pBt (pC f n) i a b := by
  unfold uIn pBt pD pC
  by_cases h : i < n
  · rw [if_pos h, if_pos h]
  · rw [if_neg h, if_neg h]
    have h1 : (-9 : Int32) < a := by
      rw [Int32.lt_iff_toInt_lt]
      have : (-9 : Int32).toInt = -9 := by decide
      omega
    have h2 : (-1000 : Int32) < a := by
      rw [Int32.lt_iff_toInt_lt]
      have : (-1000 : Int32).toInt = -1000 := by decide
      omega
    simp [h1, h2]
theorem pD_in {f : Nat → Int32} {n i : Nat} (h : i < n) : pD f n i = pC f n i := by
  unfold pD pC
  rw [if_pos h, if_pos h]
theorem pD_eq {f : Nat → Int32} {n i : Nat} {a : Int32} (h9 : ¬ a = -9) (h1 : ¬ a = -1000) : pD f n i = a ↔ pC f n i = a := by
  unfold pD pC
  by_cases h : i < n
  · rw [if_pos h, if_pos h]
  · rw [if_neg h, if_neg h]
    exact ⟨fun w => absurd w.symm h9, fun w => absurd w.symm h1⟩
def uRep (A : pA) (u : cm_g2) : Prop := (u 0 22 = A.1 ∧ u 0 23 = nI A.2.2.1 ∧ u 0 24 = nI A.2.1.1 ∧ A.2.1.1 ≤ 6 ∧ A.2.2.1 ≤ 6) ∧ (∀ k, k < A.2.1.1 → u 11 (6 + k) = (A.2.1.2 k).1 ∧ u 12 (6 + k) = (A.2.1.2 k).2.1 ∧ u 13 (6 + k) = (A.2.1.2 k).2.2) ∧ (∀ i, i < A.2.2.1 → u 7 (6 + i) = (A.2.2.2 i).1 ∧ u 8 (6 + i) = (A.2.2.2 i).2.1 ∧ u 9 (6 + i) = (A.2.2.2 i).2.2)
def uFr (u u' : cm_g2) : Prop := (∀ c, c ≠ 0 → c ≠ 7 → c ≠ 8 → c ≠ 9 → c ≠ 11 → c ≠ 12 → c ≠ 13 → u' c = u c) ∧ (∀ j, j ≠ 21 → j ≠ 22 → j ≠ 23 → j ≠ 24 → u' 0 j = u 0 j) ∧ (∀ c, c = 7 ∨ c = 8 ∨ c = 9 ∨ c = 11 ∨ c = 12 ∨ c = 13 → ∀ i, i < 6 → u' c i = u c i)
theorem uFr.refl {u : cm_g2} : uFr u u := ⟨fun _ _ _ _ _ _ _ _ => rfl, fun _ _ _ _ _ => rfl, fun _ _ _ _ => rfl⟩
theorem uFr.trans {u v w : cm_g2} (h : uFr u v) (k : uFr v w) : uFr u w := ⟨fun c a0 a1 a2 a3 a4 a5 a6 => (k.1 c a0 a1 a2 a3 a4 a5 a6).trans (h.1 c a0 a1 a2 a3 a4 a5 a6), fun j a b c d => (k.2.1 j a b c d).trans (h.2.1 j a b c d), fun c hc i hi => (k.2.2 c hc i hi).trans (h.2.2 c hc i hi)⟩
theorem uFr.f0 {u G : cm_g2} {j : Nat} {v : Int32} (hj : j = 21 ∨ j = 22 ∨ j = 23 ∨ j = 24) (e : ∀ c, c ≠ 0 → G c = u c) (f : G 0 = upd (u 0) j v) : uFr u G := ⟨fun c h0 _ _ _ _ _ _ => e c h0, fun x a b c d => by rw [f]; exact pk_un (by omega), fun c hc i _ => by rw [e c (by omega)]⟩
theorem uFr.fc {u G : cm_g2} {c0 i0 : Nat} {v : Int32} (hc : c0 = 7 ∨ c0 = 8 ∨ c0 = 9 ∨ c0 = 11 ∨ c0 = 12 ∨ c0 = 13) (hi : 6 ≤ i0) (e : ∀ c, c ≠ c0 → G c = u c) (f : G c0 = upd (u c0) i0 v) : uFr u G := ⟨fun c h0 h7 h8 h9 h11 h12 h13 => e c (by omega), fun x _ _ _ _ => by rw [e 0 (by omega)], fun c _ i hi6 => by
  by_cases q : c = c0
  · subst q; rw [f]; exact pk_un (by omega)
  · rw [e c q]⟩
def uOut (n : Nat) (u' : cm_g2) (r9 : Option Value) : Except Nat (Nat × pA) → Prop
  | .error p => r9 = some (.int (cm_bi false)) ∧ u' 0 21 = nI p ∧ p ≤ n
  | .ok x => r9 = some (.int (cm_bi true)) ∧ u' 0 21 = nI x.1 ∧ x.1 ≤ n ∧ uRep x.2 u'
section UC
variable {D : cm_D} {d : Nat} {sh : List cm_Sh} {hi u : cm_g2} {hl : Nat → Nat → Int64} {hr : Nat → Nat → Option Nat} {e nb ns t n pos : Nat} {f : Nat → Int32} {A : pA}
set_option maxRecDepth 20000 in
theorem l_cp2 (hE : cm_mdl sh hr e) {V : cm_g2} {Q : Option Value → cm_H → Prop} {q1 q2 x1 x2 y : Nat} (hq1 : q1 < 6) (hq2 : q2 < 6) (h1 : x1 + y ≤ 40) (h2 : x2 + y ≤ 40) (kk : cm_g D mX7_copy (d + 3) 0 0 (Q) 0 0 166 [some (.ref e), some (.int (nI q1)), some (.int (nI x1)), some (.int (nI q2)), some (.int (nI x2)), some (.int (nI y)), some (.int (nI y))] [] (sh, cm_us hi e (va_up (V) 3 (fun x => if 40 * q2 + x2 ≤ x ∧ x < 40 * q2 + x2 + y then V 4 (x - (40 * q2 + x2)) else V 3 x)), hl, hr)) : ∀ q k : Nat, k + q = y → cm_g D mX7_copy (d + 3) 0 0 (Q) 0 0 136 [some (.ref e), some (.int (nI q1)), some (.int (nI x1)), some (.int (nI q2)), some (.int (nI x2)), some (.int (nI y)), some (.int (nI k))] [] (sh, cm_us hi e (va_up (V) 3 (fun x => if 40 * q2 + x2 ≤ x ∧ x < 40 * q2 + x2 + k then V 4 (x - (40 * q2 + x2)) else V 3 x)), hl, hr) := by
  intro q
  induction q with
  | zero =>
    intro k hk
    have h1 : k = y := by omega
    subst h1
    refine cm_iload6 (pc := 136) dX7_copy_136 ?_
    refine cm_iload5 (pc := 138) dX7_copy_138 ?_
    refine cm_geN (pc := 140) (tgt := 166) dX7_copy_140 (by decide) (by omega) (by omega) (fun c140 => ?_) (fun c140 => ?_)
    · exact kk
    · exact absurd c140 (by omega)
  | succ q ih =>
    intro k hk
    have hst := ih (k + 1) (by omega)
    refine cm_iload6 (pc := 136) dX7_copy_136 ?_
    refine cm_iload5 (pc := 138) dX7_copy_138 ?_
    refine cm_geN (pc := 140) (tgt := 166) dX7_copy_140 (by decide) (by omega) (by omega) (fun c140 => ?_) (fun c140 => ?_)
    · exact absurd c140 (by omega)
    · refine cm_aload0 (pc := 143) dX7_copy_143 ?_
      refine cm_iload3 (pc := 144) dX7_copy_144 ?_
      refine cm_iload4 (pc := 145) dX7_copy_145 ?_
      refine cm_iload6 (pc := 147) dX7_copy_147 ?_
      refine cm_iadd (pc := 149) dX7_copy_149 ?_
      rw [nI_add]
      refine cm_aload0 (pc := 150) dX7_copy_150 ?_
      refine cm_getR (pc := 151) flX7_19 dX7_copy_151 hE.1 hE.r5 ?_
      refine cm_iload6 (pc := 154) dX7_copy_154 ?_
      refine mk_get (pc := 156) dX7_copy_156 hE.a4 (by omega) (by decide) ?_
      refine cm_V3 (pc := 157) mX7_setRow_v mlX7_98 dX7_copy_157 hE.1 (by omega) (Nat.le_of_ble_eq_true rfl) (Nat.le_refl _) (Nat.le_refl _) (r_setRow (d := d + 2) hE hq2 (by omega)) (fun r157 h157 hq157 => ?_)
      obtain ⟨rfl, rfl⟩ := hq157
      rw [show va_up (va_up (V) 3 (fun x => if 40 * q2 + x2 ≤ x ∧ x < 40 * q2 + x2 + k then V 4 (x - (40 * q2 + x2)) else V 3 x)) 3 (upd ((va_up (V) 3 (fun x => if 40 * q2 + x2 ≤ x ∧ x < 40 * q2 + x2 + k then V 4 (x - (40 * q2 + x2)) else V 3 x)) 3) (40 * q2 + (x2 + k)) ((va_up (V) 3 (fun x => if 40 * q2 + x2 ≤ x ∧ x < 40 * q2 + x2 + k then V 4 (x - (40 * q2 + x2)) else V 3 x)) 4 k)) = va_up (V) 3 (fun x => if 40 * q2 + x2 ≤ x ∧ x < 40 * q2 + x2 + (k + 1) then V 4 (x - (40 * q2 + x2)) else V 3 x) by
        rw [va_up_self, va_up_ne _ _ (by decide), bx_uu]
        congr 1
        funext x
        unfold upd
        by_cases q9 : x = 40 * q2 + (x2 + k)
        · rw [if_pos q9, if_pos (by omega), show x - (40 * q2 + x2) = k by omega]
        · rw [if_neg q9]
          show (if 40 * q2 + x2 ≤ x ∧ x < 40 * q2 + x2 + k then V 4 (x - (40 * q2 + x2)) else V 3 x) = _
          by_cases q8 : 40 * q2 + x2 ≤ x ∧ x < 40 * q2 + x2 + k
          · rw [if_pos q8, if_pos (by omega)]
          · rw [if_neg q8, if_neg (by omega)]]
      refine cm_incN6 (pc := 160) dX7_copy_160 (by decide) rfl ?_
      refine cm_goto (pc := 163) (tgt := 136) dX7_copy_163 (by decide) ?_
      exact hst
set_option maxRecDepth 20000 in
theorem l_cp1 (hE : cm_mdl sh hr e) {Q : Option Value → cm_H → Prop} {q1 q2 x1 x2 y : Nat} (hq1 : q1 < 6) (hq2 : q2 < 6) (h1 : x1 + y ≤ 40) (h2 : x2 + y ≤ 40) (kk : ∀ z : Int32, cm_g D mX7_copy (d + 3) 0 0 (Q) 0 0 133 [some (.ref e), some (.int (nI q1)), some (.int (nI x1)), some (.int (nI q2)), some (.int (nI x2)), some (.int (nI y)), some (.int z)] [] (sh, cm_us hi e (va_up u 4 (fun x => if x < y then u 3 (40 * q1 + (x1 + x)) else u 4 x)), hl, hr)) : ∀ q k : Nat, k + q = y → cm_g D mX7_copy (d + 3) 0 0 (Q) 0 0 104 [some (.ref e), some (.int (nI q1)), some (.int (nI x1)), some (.int (nI q2)), some (.int (nI x2)), some (.int (nI y)), some (.int (nI k))] [] (sh, cm_us hi e (va_up u 4 (fun x => if x < k then u 3 (40 * q1 + (x1 + x)) else u 4 x)), hl, hr) := by
  intro q
  induction q with
  | zero =>
    intro k hk
    have h1 : k = y := by omega
    subst h1
    refine cm_iload6 (pc := 104) dX7_copy_104 ?_
    refine cm_iload5 (pc := 106) dX7_copy_106 ?_
    refine cm_geN (pc := 108) (tgt := 133) dX7_copy_108 (by decide) (by omega) (by omega) (fun c108 => ?_) (fun c108 => ?_)
    · exact kk _
    · exact absurd c108 (by omega)
  | succ q ih =>
    intro k hk
    have hst := ih (k + 1) (by omega)
    refine cm_iload6 (pc := 104) dX7_copy_104 ?_
    refine cm_iload5 (pc := 106) dX7_copy_106 ?_
    refine cm_geN (pc := 108) (tgt := 133) dX7_copy_108 (by decide) (by omega) (by omega) (fun c108 => ?_) (fun c108 => ?_)
    · exact absurd c108 (by omega)
    · refine cm_aload0 (pc := 111) dX7_copy_111 ?_
      refine cm_getR (pc := 112) flX7_19 dX7_copy_112 hE.1 hE.r5 ?_
      refine cm_iload6 (pc := 115) dX7_copy_115 ?_
      refine cm_aload0 (pc := 117) dX7_copy_117 ?_
      refine cm_iload1 (pc := 118) dX7_copy_118 ?_
      refine cm_iload2 (pc := 119) dX7_copy_119 ?_
      refine cm_iload6 (pc := 120) dX7_copy_120 ?_
      refine cm_iadd (pc := 122) dX7_copy_122 ?_
      rw [nI_add]
      refine cm_V2 (pc := 123) mX7_rowAt_v mlX7_105 dX7_copy_123 hE.1 (by omega) (Nat.le_of_ble_eq_true rfl) (Nat.le_refl _) (Nat.le_refl _) (r_rowAt (d := d + 2) hE hq1 (by omega)) (fun r123 h123 hq123 => ?_)
      obtain ⟨rfl, rfl⟩ := hq123
      rw [va_up_ne _ _ (by decide)]
      refine mk_put (pc := 126) dX7_copy_126 hE.a4 (by omega) (by decide) ?_
      rw [show va_up (va_up u 4 (fun x => if x < k then u 3 (40 * q1 + (x1 + x)) else u 4 x)) 4 (upd ((va_up u 4 (fun x => if x < k then u 3 (40 * q1 + (x1 + x)) else u 4 x)) 4) k (u 3 (40 * q1 + (x1 + k)))) = va_up u 4 (fun x => if x < (k + 1) then u 3 (40 * q1 + (x1 + x)) else u 4 x) by
        rw [va_up_self, bx_uu]
        congr 1
        funext x
        unfold upd
        by_cases q9 : x = k
        · subst q9; rw [if_pos rfl, if_pos (by omega)]
        · rw [if_neg q9]
          show (if x < k then u 3 (40 * q1 + (x1 + x)) else u 4 x) = _
          by_cases q8 : x < k
          · rw [if_pos q8, if_pos (by omega)]
          · rw [if_neg q8, if_neg (by omega)]]
      refine cm_incN6 (pc := 127) dX7_copy_127 (by decide) rfl ?_
      refine cm_goto (pc := 130) (tgt := 104) dX7_copy_130 (by decide) ?_
      exact hst
set_option maxRecDepth 20000 in
theorem r_copy (hE : cm_mdl sh hr e) {r i to j n : Int32} (hI : uInv u) : cm_ct D mX7_copy (d + 3) 0 0 [.ref e, .int r, .int i, .int to, .int j, .int n] (sh, cm_us hi e u, hl, hr) (fun r9 h9 => ∃ o, r9 = some (.int o.1) ∧ h9 = (sh, cm_us hi e o.2, hl, hr) ∧ uCopy u r i to j n o) := by
  refine cm_ct_of (ls := [some (.ref e), some (.int r), some (.int i), some (.int to), some (.int j), some (.int n), none]) 1 (by decide +kernel) rfl rfl ?_
  refine cm_iload1 (pc := 0) dX7_copy_0 ?_
  refine cm_S1 (pc := 1) mX7_isRow_s mlX7_87 dX7_copy_1 (by omega) (Nat.le_of_ble_eq_true rfl) (Nat.le_refl _) (Nat.le_refl _) (r_isRow (d := d + 1) ) (fun r1 h1 hq1 => ?_)
  obtain ⟨rfl, rfl⟩ := hq1
  refine cm_ifeqB (pc := 4) (tgt := 14) dX7_copy_4 (by decide) (fun c4 => ?_) (fun c4 => ?_)
  · refine cm_iconst (pc := 14) (v := -1) dX7_copy_14 (by decide) ?_
    exact cm_iret (pc := 15) dX7_copy_15 rfl ⟨_, rfl, rfl, by unfold uCopy; rw [if_pos (by simp [*])]⟩
  · obtain ⟨q1, hq1, rfl⟩ := uIn_ex 5 c4
    have hq1c : (nI q1).toNatClampNeg = q1 := nI_clamp (by omega)
    refine cm_iload3 (pc := 7) dX7_copy_7 ?_
    refine cm_S1 (pc := 8) mX7_isRow_s mlX7_87 dX7_copy_8 (by omega) (Nat.le_of_ble_eq_true rfl) (Nat.le_refl _) (Nat.le_refl _) (r_isRow (d := d + 1) ) (fun r8 h8 hq8 => ?_)
    obtain ⟨rfl, rfl⟩ := hq8
    refine cm_ifneB (pc := 11) (tgt := 16) dX7_copy_11 (by decide) (fun c11 => ?_) (fun c11 => ?_)
    · obtain ⟨q2, hq2, rfl⟩ := uIn_ex 5 c11
      have hq2c : (nI q2).toNatClampNeg = q2 := nI_clamp (by omega)
      refine cm_iload5 (pc := 16) dX7_copy_16 ?_
      refine cm_if_ge (pc := 18) (tgt := 27) dX7_copy_18 (by decide) (fun c18 => ?_) (fun c18 => ?_)
      · refine cm_aload0 (pc := 27) dX7_copy_27 ?_
        refine cm_getR (pc := 28) flX7_13 dX7_copy_28 hE.1 hE.r3 ?_
        refine cm_iload1 (pc := 31) dX7_copy_31 ?_
        refine mk_get (pc := 32) dX7_copy_32 hE.a2 (by omega) (by decide) ?_
        refine cm_if_lt (pc := 33) (tgt := 45) dX7_copy_33 (by decide) (fun c33 => ?_) (fun c33 => ?_)
        · refine cm_aload0 (pc := 45) dX7_copy_45 ?_
          refine cm_iconst (pc := 46) (v := 1) dX7_copy_46 (by decide) ?_
          refine cm_V1 (pc := 47) mX7_meet_v mlX7_91 dX7_copy_47 hE.1 (by omega) (Nat.le_of_ble_eq_true rfl) (Nat.le_refl _) (Nat.le_refl _) (r_meet (d := d + 2) hE (f := 1) (by decide)) (fun r47 h47 hq47 => ?_)
          obtain ⟨rfl, rfl⟩ := hq47
          exact cm_iret (pc := 50) dX7_copy_50 rfl ⟨_, rfl, rfl, by unfold uCopy; rw [if_neg (by rw [c4, c11]; decide), if_pos c18, hq1c, hq2c, if_neg (fun w => absurd c33 (Int32.not_lt.mpr w.1))]⟩
        · refine cm_aload0 (pc := 36) dX7_copy_36 ?_
          refine cm_getR (pc := 37) flX7_13 dX7_copy_37 hE.1 hE.r3 ?_
          refine cm_iload3 (pc := 40) dX7_copy_40 ?_
          refine mk_get (pc := 41) dX7_copy_41 hE.a2 (by omega) (by decide) ?_
          refine cm_if_ge (pc := 42) (tgt := 51) dX7_copy_42 (by decide) (fun c42 => ?_) (fun c42 => ?_)
          · refine cm_iload2 (pc := 51) dX7_copy_51 ?_
            refine cm_if_lt (pc := 52) (tgt := 95) dX7_copy_52 (by decide) (fun c52 => ?_) (fun c52 => ?_)
            · refine cm_aload0 (pc := 95) dX7_copy_95 ?_
              refine cm_iconst (pc := 96) (v := 2) dX7_copy_96 (by decide) ?_
              refine cm_V1 (pc := 97) mX7_meet_v mlX7_91 dX7_copy_97 hE.1 (by omega) (Nat.le_of_ble_eq_true rfl) (Nat.le_refl _) (Nat.le_refl _) (r_meet (d := d + 2) hE (f := 2) (by decide)) (fun r97 h97 hq97 => ?_)
              obtain ⟨rfl, rfl⟩ := hq97
              exact cm_iret (pc := 100) dX7_copy_100 rfl ⟨_, rfl, rfl, by unfold uCopy; rw [if_neg (by rw [c4, c11]; decide), if_pos c18, hq1c, hq2c, if_pos ⟨Int32.not_lt.mp c33, c42⟩, if_neg (fun w => absurd c52 (Int32.not_lt.mpr w.1))]⟩
            · refine cm_iload4 (pc := 55) dX7_copy_55 ?_
              refine cm_if_lt (pc := 57) (tgt := 95) dX7_copy_57 (by decide) (fun c57 => ?_) (fun c57 => ?_)
              · refine cm_aload0 (pc := 95) dX7_copy_95 ?_
                refine cm_iconst (pc := 96) (v := 2) dX7_copy_96 (by decide) ?_
                refine cm_V1 (pc := 97) mX7_meet_v mlX7_91 dX7_copy_97 hE.1 (by omega) (Nat.le_of_ble_eq_true rfl) (Nat.le_refl _) (Nat.le_refl _) (r_meet (d := d + 2) hE (f := 2) (by decide)) (fun r97 h97 hq97 => ?_)
                obtain ⟨rfl, rfl⟩ := hq97
                exact cm_iret (pc := 100) dX7_copy_100 rfl ⟨_, rfl, rfl, by unfold uCopy; rw [if_neg (by rw [c4, c11]; decide), if_pos c18, hq1c, hq2c, if_pos ⟨Int32.not_lt.mp c33, c42⟩, if_neg (fun w => absurd c57 (Int32.not_lt.mpr w.2.1))]⟩
              · refine cm_iload2 (pc := 60) dX7_copy_60 ?_
                refine cm_i2l (pc := 61) dX7_copy_61 ?_
                refine cm_iload5 (pc := 62) dX7_copy_62 ?_
                refine cm_i2l (pc := 64) dX7_copy_64 ?_
                refine cm_ladd (pc := 65) dX7_copy_65 ?_
                refine cm_aload0 (pc := 66) dX7_copy_66 ?_
                refine cm_getR (pc := 67) flX7_13 dX7_copy_67 hE.1 hE.r3 ?_
                refine cm_iload1 (pc := 70) dX7_copy_70 ?_
                refine mk_get (pc := 71) dX7_copy_71 hE.a2 (by omega) (by decide) ?_
                refine cm_i2l (pc := 72) dX7_copy_72 ?_
                refine cm_lcmp (pc := 73) dX7_copy_73 ?_
                refine cm_if_gt (pc := 74) (tgt := 95) dX7_copy_74 (by decide) (fun c74 => ?_) (fun c74 => ?_)
                · refine cm_aload0 (pc := 95) dX7_copy_95 ?_
                  refine cm_iconst (pc := 96) (v := 2) dX7_copy_96 (by decide) ?_
                  refine cm_V1 (pc := 97) mX7_meet_v mlX7_91 dX7_copy_97 hE.1 (by omega) (Nat.le_of_ble_eq_true rfl) (Nat.le_refl _) (Nat.le_refl _) (r_meet (d := d + 2) hE (f := 2) (by decide)) (fun r97 h97 hq97 => ?_)
                  obtain ⟨rfl, rfl⟩ := hq97
                  exact cm_iret (pc := 100) dX7_copy_100 rfl ⟨_, rfl, rfl, by unfold uCopy; rw [if_neg (by rw [c4, c11]; decide), if_pos c18, hq1c, hq2c, if_pos ⟨Int32.not_lt.mp c33, c42⟩, if_neg (fun w => absurd c74 (Int32.not_lt.mpr w.2.2.1))]⟩
                · refine cm_iload4 (pc := 77) dX7_copy_77 ?_
                  refine cm_i2l (pc := 79) dX7_copy_79 ?_
                  refine cm_iload5 (pc := 80) dX7_copy_80 ?_
                  refine cm_i2l (pc := 82) dX7_copy_82 ?_
                  refine cm_ladd (pc := 83) dX7_copy_83 ?_
                  refine cm_aload0 (pc := 84) dX7_copy_84 ?_
                  refine cm_getR (pc := 85) flX7_13 dX7_copy_85 hE.1 hE.r3 ?_
                  refine cm_iload3 (pc := 88) dX7_copy_88 ?_
                  refine mk_get (pc := 89) dX7_copy_89 hE.a2 (by omega) (by decide) ?_
                  refine cm_i2l (pc := 90) dX7_copy_90 ?_
                  refine cm_lcmp (pc := 91) dX7_copy_91 ?_
                  refine cm_if_le (pc := 92) (tgt := 101) dX7_copy_92 (by decide) (fun c92 => ?_) (fun c92 => ?_)
                  · obtain ⟨y, hy, rfl⟩ := nI_of (Int32.not_lt.mpr c18)
                    obtain ⟨x1, hx1, rfl⟩ := nI_of c52
                    obtain ⟨x2, hx2, rfl⟩ := nI_of c57
                    have hyc : (nI y).toNatClampNeg = y := nI_clamp hy
                    have hx1c : (nI x1).toNatClampNeg = x1 := nI_clamp hx1
                    have hx2c : (nI x2).toNatClampNeg = x2 := nI_clamp hx2
                    obtain ⟨m1, hm1, hs1⟩ := (hI.1 q1 (by omega)).ge (Int32.not_lt.mp c33)
                    obtain ⟨m2, hm2, hs2⟩ := (hI.1 q2 (by omega)).ge c42
                    have c74b := Int32.not_lt.mp c74
                    have w1 := (l64le (m := m1) hx1 hy (by omega)).mp (by rw [← hs1]; exact c74b)
                    have w2 := (l64le (m := m2) hx2 hy (by omega)).mp (by rw [← hs2]; exact c92)
                    refine cm_iconst (pc := 101) (v := 0) dX7_copy_101 (by decide) ?_
                    refine cm_istore6 (pc := 102) dX7_copy_102 (by decide) rfl ?_
                    refine cm_h_eq (show _ = (sh, cm_us hi e (va_up u 4 (fun x => if x < 0 then u 3 (40 * q1 + (x1 + x)) else u 4 x)), hl, hr) by
                      rw [show (fun x => if x < 0 then u 3 (40 * q1 + (x1 + x)) else u 4 x) = u 4 from funext (fun x => if_neg (Nat.not_lt_zero x))]
                      congr 3
                      funext c
                      by_cases q9 : c = 4
                      · subst q9; rw [va_up_self]
                      · rw [va_up_ne _ _ q9]) ?_
                    refine l_cp1 hE (q2 := q2) (x2 := x2) (by omega) (by omega) (by omega) (by omega) (fun z => ?_) y 0 (by omega)
                    generalize hfm : (fun x => if x < y then u 3 (40 * q1 + (x1 + x)) else u 4 x) = fm at *
                    refine cm_iconst (pc := 133) (v := 0) dX7_copy_133 (by decide) ?_
                    refine cm_istore6 (pc := 134) dX7_copy_134 (by decide) rfl ?_
                    refine cm_h_eq (show _ = (sh, cm_us hi e (va_up (va_up u 4 fm) 3 (fun x => if 40 * q2 + x2 ≤ x ∧ x < 40 * q2 + x2 + 0 then va_up u 4 fm 4 (x - (40 * q2 + x2)) else va_up u 4 fm 3 x)), hl, hr) by
                      rw [show (fun x => if 40 * q2 + x2 ≤ x ∧ x < 40 * q2 + x2 + 0 then va_up u 4 fm 4 (x - (40 * q2 + x2)) else va_up u 4 fm 3 x) = va_up u 4 fm 3 from funext (fun x => if_neg (by omega))]
                      congr 3
                      funext c
                      by_cases q9 : c = 3
                      · subst q9; rw [va_up_self]
                      · rw [va_up_ne _ _ q9]) ?_
                    refine l_cp2 hE (q1 := q1) (x1 := x1) (V := va_up u 4 fm) (by omega) (by omega) (by omega) (by omega) ?_ y 0 (by omega)
                    refine cm_iconst (pc := 166) (v := 1) dX7_copy_166 (by decide) ?_
                    refine cm_iret (pc := 167) dX7_copy_167 rfl ⟨((1 : Int32), _), rfl, rfl, ?_⟩
                    unfold uCopy
                    rw [if_neg (by rw [c4, c11]; decide), if_pos c18, hq1c, hq2c, if_pos ⟨Int32.not_lt.mp c33, c42⟩, if_pos ⟨Int32.not_lt.mp c52, Int32.not_lt.mp c57, c74b, c92⟩]
                    refine ⟨fm, ?_⟩
                    rw [hx1c, hx2c, hyc]
                    refine congrArg (fun F => ((1 : Int32), va_up (va_up u 4 fm) 3 F)) (funext fun x => ?_)
                    by_cases q8 : 40 * q2 + x2 ≤ x ∧ x < 40 * q2 + x2 + y
                    · rw [if_pos q8, if_pos q8, va_up_self, ← hfm]
                      simp only
                      rw [if_pos (by omega), show 40 * q1 + (x1 + (x - (40 * q2 + x2))) = 40 * q1 + x1 + (x - (40 * q2 + x2)) by omega]
                    · rw [if_neg q8, if_neg q8, va_up_ne _ _ (by decide)]
                  · refine cm_aload0 (pc := 95) dX7_copy_95 ?_
                    refine cm_iconst (pc := 96) (v := 2) dX7_copy_96 (by decide) ?_
                    refine cm_V1 (pc := 97) mX7_meet_v mlX7_91 dX7_copy_97 hE.1 (by omega) (Nat.le_of_ble_eq_true rfl) (Nat.le_refl _) (Nat.le_refl _) (r_meet (d := d + 2) hE (f := 2) (by decide)) (fun r97 h97 hq97 => ?_)
                    obtain ⟨rfl, rfl⟩ := hq97
                    exact cm_iret (pc := 100) dX7_copy_100 rfl ⟨_, rfl, rfl, by unfold uCopy; rw [if_neg (by rw [c4, c11]; decide), if_pos c18, hq1c, hq2c, if_pos ⟨Int32.not_lt.mp c33, c42⟩, if_neg (fun w => c92 w.2.2.2)]⟩
          · refine cm_aload0 (pc := 45) dX7_copy_45 ?_
            refine cm_iconst (pc := 46) (v := 1) dX7_copy_46 (by decide) ?_
            refine cm_V1 (pc := 47) mX7_meet_v mlX7_91 dX7_copy_47 hE.1 (by omega) (Nat.le_of_ble_eq_true rfl) (Nat.le_refl _) (Nat.le_refl _) (r_meet (d := d + 2) hE (f := 1) (by decide)) (fun r47 h47 hq47 => ?_)
            obtain ⟨rfl, rfl⟩ := hq47
            exact cm_iret (pc := 50) dX7_copy_50 rfl ⟨_, rfl, rfl, by unfold uCopy; rw [if_neg (by rw [c4, c11]; decide), if_pos c18, hq1c, hq2c, if_neg (fun w => c42 w.2)]⟩
      · refine cm_aload0 (pc := 21) dX7_copy_21 ?_
        refine cm_iconst (pc := 22) (v := 5) dX7_copy_22 (by decide) ?_
        refine cm_V1 (pc := 23) mX7_meet_v mlX7_91 dX7_copy_23 hE.1 (by omega) (Nat.le_of_ble_eq_true rfl) (Nat.le_refl _) (Nat.le_refl _) (r_meet (d := d + 2) hE (f := 5) (by decide)) (fun r23 h23 hq23 => ?_)
        obtain ⟨rfl, rfl⟩ := hq23
        exact cm_iret (pc := 26) dX7_copy_26 rfl ⟨_, rfl, rfl, by unfold uCopy; rw [if_neg (by rw [c4, c11]; decide), if_neg c18]⟩
    · refine cm_iconst (pc := 14) (v := -1) dX7_copy_14 (by decide) ?_
      exact cm_iret (pc := 15) dX7_copy_15 rfl ⟨_, rfl, rfl, by unfold uCopy; rw [if_pos (by simp [*])]⟩
set_option maxRecDepth 20000 in
theorem r_here (hE : cm_mdl sh hr e) (ht : t < 4) (hz : u 5 t = nI n) (hn : n ≤ 80) (hf : ∀ i, i < n → u 6 (80 * t + i) = f i) (hp : u 0 21 = nI pos) (hpn : pos ≤ n) : cm_ct D mX7_here d 0 0 [.ref e, .int (nI t)] (sh, cm_us hi e u, hl, hr) (fun r9 h9 => r9 = some (.int (pD f n pos)) ∧ h9 = (sh, cm_us hi e u, hl, hr)) := by
  refine cm_ct_of (ls := [some (.ref e), some (.int (nI t))]) 0 (by decide +kernel) rfl rfl ?_
  refine cm_aload0 (pc := 0) dX7_here_0 ?_
  refine mk_fld (pc := 1) flX7_118 dX7_here_1 hE.1 ?_
  rw [hp]
  refine cm_aload0 (pc := 4) dX7_here_4 ?_
  refine cm_getR (pc := 5) flX7_22 dX7_here_5 hE.1 hE.r6 ?_
  refine cm_iload1 (pc := 8) dX7_here_8 ?_
  refine mk_get (pc := 9) dX7_here_9 hE.a5 (by omega) (by decide) ?_
  rw [hz]
  refine cm_geN (pc := 10) (tgt := 30) dX7_here_10 (by decide) (by omega) (by omega) (fun c10 => ?_) (fun c10 => ?_)
  · have hd : pD f n pos = -9 := if_neg (by omega)
    refine cm_bipush (pc := 30) (v := -9) dX7_here_30 (by decide) ?_
    exact cm_iret (pc := 32) dX7_here_32 rfl ⟨by rw [hd], rfl⟩
  · have hd : pD f n pos = u 6 (80 * t + pos) := by rw [hf pos c10]; exact if_pos c10
    refine cm_aload0 (pc := 13) dX7_here_13 ?_
    refine cm_getR (pc := 14) flX7_25 dX7_here_14 hE.1 hE.r7 ?_
    refine cm_bipush (pc := 17) (v := 80) dX7_here_17 (by decide) ?_
    refine cm_iload1 (pc := 19) dX7_here_19 ?_
    refine cm_imul (pc := 20) dX7_here_20 ?_
    refine cm_aload0 (pc := 21) dX7_here_21 ?_
    refine mk_fld (pc := 22) flX7_118 dX7_here_22 hE.1 ?_
    rw [hp]
    refine cm_iadd (pc := 25) dX7_here_25 ?_
    refine mk_getE (pc := 26) (80 * t + pos) dX7_here_26 hE.a6 (uix 80 t pos) (by omega) (by decide) ?_
    refine cm_goto (pc := 27) (tgt := 32) dX7_here_27 (by decide) ?_
    exact cm_iret (pc := 32) dX7_here_32 rfl ⟨by rw [hd], rfl⟩
set_option maxRecDepth 20000 in
theorem r_isHere (hE : cm_mdl sh hr e) {a b : Int32} (ht : t < 4) (hz : u 5 t = nI n) (hn : n ≤ 80) (hf : ∀ i, i < n → u 6 (80 * t + i) = f i) (hp : u 0 21 = nI pos) (hpn : pos ≤ n) : cm_ct D mX7_isHere (d + 1) 0 0 [.ref e, .int (nI t), .int a, .int b] (sh, cm_us hi e u, hl, hr) (fun r9 h9 => r9 = some (.int (cm_bi (uIn (pD f n pos) a b))) ∧ h9 = (sh, cm_us hi e u, hl, hr)) := by
  refine cm_ct_of (ls := [some (.ref e), some (.int (nI t)), some (.int a), some (.int b)]) 0 (by decide +kernel) rfl rfl ?_
  refine cm_aload0 (pc := 0) dX7_isHere_0 ?_
  refine cm_iload1 (pc := 1) dX7_isHere_1 ?_
  refine cm_V1 (pc := 2) mX7_here_v mlX7_121 dX7_isHere_2 hE.1 (by omega) (Nat.le_of_ble_eq_true rfl) (Nat.le_refl _) (Nat.le_refl _) (r_here (d := d) hE ht hz hn hf hp hpn) (fun r2 h2 hq2 => ?_)
  obtain ⟨rfl, rfl⟩ := hq2
  refine cm_iload2 (pc := 5) dX7_isHere_5 ?_
  refine cm_iload3 (pc := 6) dX7_isHere_6 ?_
  refine cm_S3 (pc := 7) mX7_in_s mlX7_83 dX7_isHere_7 (by omega) (Nat.le_of_ble_eq_true rfl) (Nat.le_refl _) (Nat.le_refl _) (r_in (d := d)) (fun r7 h7 hq7 => ?_)
  obtain ⟨rfl, rfl⟩ := hq7
  exact cm_zret (pc := 10) dX7_isHere_10 rfl (cm_nb _) ⟨rfl, rfl⟩
def uTx (u : cm_g2) (t n : Nat) (f : Nat → Int32) : Prop := u 5 t = nI n ∧ ∀ i, i < n → u 6 (80 * t + i) = f i
theorem uTx.fr {u u' : cm_g2} {t n : Nat} {f : Nat → Int32} (h : uTx u t n f) (k : uFr u u') : uTx u' t n f := by
  refine ⟨?_, fun i hi => ?_⟩
  · rw [k.1 5 (by decide) (by decide) (by decide) (by decide) (by decide) (by decide) (by decide)]; exact h.1
  · rw [k.1 6 (by decide) (by decide) (by decide) (by decide) (by decide) (by decide) (by decide)]; exact h.2 i hi
theorem pBt_103 {c : Nat → Int32} {i : Nat} (h : pBt c i 103 103 = true) : c i = 103 := by
  unfold pBt at h
  simp only [Bool.and_eq_true, Bool.not_eq_true', decide_eq_false_iff_not, Int32.lt_iff_toInt_lt] at h
  exact Int32.toInt_inj.mp (by omega)
theorem i48 (x : Int32) : x - 48 = 1 + (x - 49) := by
  rw [Int32.sub_eq_add_neg, Int32.sub_eq_add_neg, Int32.add_comm 1, Int32.add_assoc]
  rfl
set_option maxRecDepth 20000 in
theorem r_readsHead (hE : cm_mdl sh hr e) (ht : t < 4) (hx : uTx u t n f) (hn : n ≤ 80) (hp : u 0 21 = nI pos) (hlt : pos < n) (hA : uRep A u) : cm_ct D mX7_readsHead (d + 2) 0 0 [.ref e, .int (nI t)] (sh, cm_us hi e u, hl, hr) (fun r9 h9 => ∃ v, h9 = (sh, cm_us hi e v, hl, hr) ∧ uFr u v ∧ uOut n v r9 (pHead (pC f n) pos A)) := by
  refine cm_ct_of (ls := [some (.ref e), some (.int (nI t))]) 0 (by decide +kernel) rfl rfl ?_
  refine cm_aload0 (pc := 0) dX7_readsHead_0 ?_
  refine cm_iload1 (pc := 1) dX7_readsHead_1 ?_
  refine cm_V1 (pc := 2) mX7_here_v mlX7_121 dX7_readsHead_2 hE.1 (by omega) (Nat.le_of_ble_eq_true rfl) (Nat.le_refl _) (Nat.le_refl _) (r_here (d := d + 1) hE ht hx.1 hn hx.2 hp (by omega)) (fun r2 h2 hq2 => ?_)
  obtain ⟨rfl, rfl⟩ := hq2
  rw [pD_in hlt]
  refine cm_bipush (pc := 5) (v := 103) dX7_readsHead_5 (by decide) ?_
  refine cm_icmp_eq (pc := 7) (tgt := 12) dX7_readsHead_7 (by decide) (fun c7 => ?_) (fun c7 => ?_)
  · have hb : pBt (pC f n) pos 103 103 = true := pBt_eq c7
    refine cm_aload0 (pc := 12) dX7_readsHead_12 ?_
    refine cm_dup (pc := 13) dX7_readsHead_13 rfl ?_
    refine mk_fld (pc := 14) flX7_118 dX7_readsHead_14 hE.1 ?_
    rw [hp]
    refine cm_iconst (pc := 17) (v := 1) dX7_readsHead_17 (by decide) ?_
    refine cm_iadd (pc := 18) dX7_readsHead_18 ?_
    rw [nI_1]
    refine mk_set (pc := 19) fpX7_118 dX7_readsHead_19 hE.1 ?_
    refine cm_mkG (fun G19 e19 f19 => ?_)
    have F19 : uFr u G19 := uFr.f0 (Or.inl rfl) e19 f19
    have x19 := hx.fr F19
    have p19 : G19 0 21 = nI (pos + 1) := by rw [f19]; exact pk_us
    refine cm_aload0 (pc := 22) dX7_readsHead_22 ?_
    refine cm_iload1 (pc := 23) dX7_readsHead_23 ?_
    refine cm_bipush (pc := 24) (v := 49) dX7_readsHead_24 (by decide) ?_
    refine cm_bipush (pc := 26) (v := 52) dX7_readsHead_26 (by decide) ?_
    refine cm_V3 (pc := 28) mX7_isHere_v mlX7_124 dX7_readsHead_28 hE.1 (by omega) (Nat.le_of_ble_eq_true rfl) (Nat.le_refl _) (Nat.le_refl _) (r_isHere (d := d) hE ht x19.1 hn x19.2 p19 (by omega)) (fun r28 h28 hq28 => ?_)
    obtain ⟨rfl, rfl⟩ := hq28
    rw [pD_bt (by decide)]
    refine cm_ifneB (pc := 31) (tgt := 36) dX7_readsHead_31 (by decide) (fun c31 => ?_) (fun c31 => ?_)
    · refine cm_aload0 (pc := 36) dX7_readsHead_36 ?_
      refine cm_aload0 (pc := 37) dX7_readsHead_37 ?_
      refine cm_iload1 (pc := 38) dX7_readsHead_38 ?_
      have hlt2 := pC_in c31 (by decide)
      refine cm_V1 (pc := 39) mX7_here_v mlX7_121 dX7_readsHead_39 hE.1 (by omega) (Nat.le_of_ble_eq_true rfl) (Nat.le_refl _) (Nat.le_refl _) (r_here (d := d + 1) hE ht x19.1 hn x19.2 p19 (by omega)) (fun r39 h39 hq39 => ?_)
      obtain ⟨rfl, rfl⟩ := hq39
      rw [pD_in hlt2]
      refine cm_bipush (pc := 42) (v := 48) dX7_readsHead_42 (by decide) ?_
      refine cm_isub (pc := 44) dX7_readsHead_44 ?_
      refine mk_set (pc := 45) fpX7_127 dX7_readsHead_45 hE.1 ?_
      refine cm_mkG (fun G45 e45 f45 => ?_)
      refine cm_aload0 (pc := 48) dX7_readsHead_48 ?_
      refine cm_dup (pc := 49) dX7_readsHead_49 rfl ?_
      refine mk_fld (pc := 50) flX7_118 dX7_readsHead_50 hE.1 ?_
      rw [show G45 0 21 = nI (pos + 1) by rw [f45]; simp only [upd]; rw [if_neg (by decide)]; exact p19]
      refine cm_iconst (pc := 53) (v := 1) dX7_readsHead_53 (by decide) ?_
      refine cm_iadd (pc := 54) dX7_readsHead_54 ?_
      rw [nI_1]
      refine mk_set (pc := 55) fpX7_118 dX7_readsHead_55 hE.1 ?_
      refine cm_mkG (fun G55 e55 f55 => ?_)
      refine cm_iconst (pc := 58) (v := 1) dX7_readsHead_58 (by decide) ?_
      exact cm_zret (pc := 59) dX7_readsHead_59 rfl rfl ⟨G55, rfl, (F19.trans (uFr.f0 (Or.inr (Or.inl rfl)) e45 f45)).trans (uFr.f0 (Or.inl rfl) e55 f55), by
        unfold pHead
        rw [if_neg (by rw [hb]; decide), if_neg (by rw [c31]; decide)]
        refine ⟨rfl, by rw [f55]; exact pk_us, by show pos + 2 ≤ n; omega, ⟨⟨?_, ?_, ?_, hA.1.2.2.2.1, hA.1.2.2.2.2⟩, fun k hk => ?_, fun i hi => ?_⟩⟩
        · rw [f55, pk_un (by decide), f45, pk_us]
          exact i48 _
        · rw [f55, pk_un (by decide), f45, pk_un (by decide), f19, pk_un (by decide)]; exact hA.1.2.1
        · rw [f55, pk_un (by decide), f45, pk_un (by decide), f19, pk_un (by decide)]; exact hA.1.2.2.1
        · rw [e55 _ (by decide), e55 _ (by decide), e55 _ (by decide), e45 _ (by decide), e45 _ (by decide), e45 _ (by decide), e19 _ (by decide), e19 _ (by decide), e19 _ (by decide)]; exact hA.2.1 k hk
        · rw [e55 _ (by decide), e55 _ (by decide), e55 _ (by decide), e45 _ (by decide), e45 _ (by decide), e45 _ (by decide), e19 _ (by decide), e19 _ (by decide), e19 _ (by decide)]; exact hA.2.2 i hi⟩
    · refine cm_iconst (pc := 34) (v := 0) dX7_readsHead_34 (by decide) ?_
      exact cm_zret (pc := 35) dX7_readsHead_35 rfl rfl ⟨G19, rfl, F19, by unfold pHead; rw [if_neg (by rw [hb]; decide), if_pos c31]; exact ⟨rfl, p19, by omega⟩⟩
  · have hb : pBt (pC f n) pos 103 103 = false := by
      cases hq : pBt (pC f n) pos 103 103 with
      | false => rfl
      | true => exact absurd (pBt_103 hq) c7
    refine cm_iconst (pc := 10) (v := 0) dX7_readsHead_10 (by decide) ?_
    exact cm_zret (pc := 11) dX7_readsHead_11 rfl rfl ⟨u, rfl, uFr.refl, by unfold pHead; rw [if_pos hb]; exact ⟨rfl, hp, by omega⟩⟩
end UC
