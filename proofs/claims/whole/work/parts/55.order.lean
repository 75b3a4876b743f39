/-! PART order: Forecast: the best order -/
def boFold (V : List Nat → Int32 → Prop) : List (List Nat) → Int32 → List Nat → Int32 → List Nat → Prop
  | [], m, b, m', b' => m' = m ∧ b' = b
  | o :: L, m, b, m', b' => ∃ v, V o v ∧ (if m < v then boFold V L v o m' b' else boFold V L m b m' b')
def cIter (nb : Nat) : Nat → List Nat → List (List Nat)
  | 0, _ => []
  | q + 1, o => o :: (match oNext o nb with
      | none => []
      | some o1 => cIter nb q o1)
def boOk (g P : cm_g2) (o : List Nat) (nb : Nat) : Prop := (∀ j, j < 4 → g 0 j = P 0 j) ∧ (∀ c, 1 ≤ c → c ≤ 9 → c ≠ 7 → ∀ i, i < 6 → g c i = P c i) ∧ (∀ i, i < nb → g 7 i = P 7 (oG o i)) ∧ (∀ i, i < 200 → g 10 i = P 10 i)
def boVal (P : cm_g2) (nb ns n : Nat) (o : List Nat) (v : Int32) : Prop := (∀ i, i < nb → oG o i < nb) ∧ ∃ g, boOk g P o nb ∧ v = nI (mIt g nb ns n).2
def boInv (hi W : cm_g2) (s nb : Nat) (b : List Nat) : Prop := (∀ c, c < 33 → W c = hi c) ∧ (∀ c, 45 < c → c ≠ s → c ≠ s + 1 → W c = hi c) ∧ mSt (cm_sf W 34) (cm_sf hi 5) ∧ W s 1 = nI nb ∧ ∀ x, x < nb → W (s + 1) x = nI (oG b x)
theorem mOk.bo {g P : cm_g2} {nb ns : Nat} {o : List Nat} (h : mOk P nb ns) (b : boOk g P o nb) (ho : ∀ i, i < nb → oG o i < nb) : mOk g nb ns := by
  have hnb := h.1.2.1
  refine ⟨⟨by rw [b.1 3 (by decide)]; exact h.1.1, h.1.2.1, by rw [b.1 2 (by decide)]; exact h.1.2.2.1, h.1.2.2.2⟩, fun i hi => by rw [b.2.1 6 (by decide) (by decide) (by decide) i (by omega)]; exact h.2.1 i hi, fun i hi => by rw [b.2.2.1 i hi]; exact h.2.2.1 _ (ho i hi), fun i hi => by rw [b.2.1 6 (by decide) (by decide) (by decide) i (by omega), b.2.1 6 (by decide) (by decide) (by decide) (i + 1) (by omega)]; exact h.2.2.2.1 i hi, fun x hx => by rw [b.2.2.2 x hx]; exact h.2.2.2.2 x hx⟩
theorem mSt.bo {g P : cm_g2} {nb : Nat} {o : List Nat} (b : boOk g P o nb) : mSt g P := ⟨⟨b.1 0 (by decide), b.1 2 (by decide), b.1 3 (by decide)⟩, fun c hc => b.2.1 c (by omega) (by omega) (by omega), b.2.2.2⟩
section BO
variable {D : cm_D} {d : Nat} {sh : List cm_Sh} {hi g H5 : cm_g2} {hl : Nat → Nat → Int64} {hr : Nat → Nat → Option Nat} {nb ns : Nat} {o : List Nat}
set_option maxRecDepth 20000 in
theorem t_bo (hX : cm_cls sh hr) {Q : Option Value → cm_H → Prop} {s n w : Nat} {m : Int32} {b : List Nat} {W : cm_g2} {x7 x5 : Option Value} (hs9 : 60 < s) (hb5 : hi 5 3 = nI nb) (h0 : 0 < nb) (hnb : nb ≤ 6) (hI : boInv hi W s nb b) (ho : oOk W o nb) (hst : ∀ (mo : Bool) (o1 : List Nat) (W1 : cm_g2), boInv hi W1 s nb b → (mo = true → oOk W1 o1 nb ∧ oNext o nb = some o1) → (mo = false → oNext o nb = none) → ∀ x7 : Option Value, cm_g D mX0_bestOrder (d + 7) 0 0 (Q) 0 0 53 [some (.ref 33), some (.ref 5), some (.int (nI n)), some (.ref s), some (.int (m)), some (.int (cm_bi (mo))), some (.int (nI (w + 1))), x7] [] (sh, W1, hl, hr)) : cm_g D mX0_bestOrder (d + 7) 0 0 (Q) 0 0 102 [some (.ref 33), some (.ref 5), some (.int (nI n)), some (.ref s), some (.int (m)), x5, some (.int (nI (w))), x7] [] (sh, W, hl, hr) := by
  refine cm_aload0 (pc := 102) dX0_bestOrder_102 ?_
  refine cm_aload1 (pc := 103) dX0_bestOrder_103 ?_
  refine cm_getI (pc := 104) flX0_68 dX0_bestOrder_104 hX.mp.1 ?_
  refine cm_top_eq (show W 5 3 = nI nb by rw [hI.1 5 (by decide)]; exact hb5) ?_
  refine cm_V1 (pc := 107) mX0_nextOrder_v mlX0_93 dX0_bestOrder_107 hX.of (by omega) (Nat.le_of_ble_eq_true rfl) (Nat.le_refl _) (Nat.le_refl _) (k_nextOrder hX (d := d + 4) ho h0 hnb) (fun r107 h107 hq107 => ?_)
  cases hn : oNext o nb with
  | none =>
    rw [hn] at hq107
    obtain ⟨rfl, rfl⟩ := hq107
    refine cm_istore5 (pc := 110) dX0_bestOrder_110 (by decide) rfl ?_
    refine cm_incN6 (pc := 112) dX0_bestOrder_112 (by decide) rfl ?_
    refine cm_goto (tgt := 53) (pc := 115) dX0_bestOrder_115 (by decide) ?_
    exact hst false [] W hI (fun q => by cases q) (fun _ => hn) _
  | some o1 =>
    rw [hn] at hq107
    obtain ⟨rfl, H107, rfl, t107, u107⟩ := hq107
    refine cm_istore5 (pc := 110) dX0_bestOrder_110 (by decide) rfl ?_
    refine cm_incN6 (pc := 112) dX0_bestOrder_112 (by decide) rfl ?_
    refine cm_goto (tgt := 53) (pc := 115) dX0_bestOrder_115 (by decide) ?_
    exact hst true o1 H107 ⟨fun c hc => by rw [t107 c (by omega), hI.1 c hc], fun c hc h1 h2 => by rw [t107 c (by omega), hI.2.1 c hc h1 h2], ⟨by rw [show cm_sf H107 34 0 = cm_sf W 34 0 from t107 34 (by decide)]; exact hI.2.2.1.1, fun c hc i hi6 => by rw [show cm_sf H107 34 c = cm_sf W 34 c from t107 (34 + c) (by omega)]; exact hI.2.2.1.2.1 c hc i hi6, fun i hi2 => by rw [show cm_sf H107 34 10 = cm_sf W 34 10 from t107 44 (by decide)]; exact hI.2.2.1.2.2 i hi2⟩, by rw [t107 s (by omega)]; exact hI.2.2.2.1, fun x hx => by rw [t107 (s + 1) (by omega)]; exact hI.2.2.2.2 x hx⟩ (fun _ => ⟨u107, hn⟩) (fun q => by cases q) _
set_option maxRecDepth 20000 in
set_option maxHeartbeats 1000000 in
theorem l_bo (hX : cm_cls sh hr) {s n : Nat} (h : mOk (cm_sf hi 5) nb ns) (h0 : 0 < nb) (hn : n < 2147483648) (hS : cm_str sh hr s 40) (hs9 : 60 < s) : ∀ q k : Nat, k + q = 720 → ∀ (mo : Bool) (o b : List Nat) (m : Int32) (W : cm_g2), boInv hi W s nb b → (mo = true → oOk W o nb) → (∀ m9 b9, boFold (boVal (cm_sf hi 5) nb ns n) (if mo then cIter nb q o else []) m b m9 b9 → boFold (boVal (cm_sf hi 5) nb ns n) (cIter nb 720 (List.range nb)) (-1) (List.replicate nb 0) m9 b9) → ∀ x7 : Option Value, cm_g D mX0_bestOrder (d + 7) 0 0 (fun r9 h9 => ∃ H m9 b9, h9 = (sh, H, hl, hr) ∧ (∀ c, c < 33 ∨ 45 < c → c ≠ s → c ≠ s + 1 → H c = hi c) ∧ boFold (boVal (cm_sf hi 5) nb ns n) (cIter nb 720 (List.range nb)) (-1) (List.replicate nb 0) m9 b9 ∧ r9 = some (.int m9) ∧ H s 1 = nI nb ∧ ∀ x, x < nb → H (s + 1) x = nI (oG b9 x)) 0 0 53 [some (.ref 33), some (.ref 5), some (.int (nI n)), some (.ref s), some (.int (m)), some (.int (cm_bi (mo))), some (.int (nI (k))), x7] [] (sh, W, hl, hr) := by
  have hnb := h.1.2.1
  intro q
  induction q with
  | zero =>
    intro k hk mo o b m W hI hmo hz x7
    have h1 : k = 720 := by omega
    subst h1
    refine cm_iload6 (pc := 53) dX0_bestOrder_53 ?_
    refine cm_sipush (pc := 55) (v := 720) dX0_bestOrder_55 (by decide) ?_
    refine cm_icmp_ge (pc := 58) (tgt := 118) dX0_bestOrder_58 (by decide) (fun c58 => ?_) (fun q => absurd (by decide) q)
    refine cm_iload4 (pc := 118) dX0_bestOrder_118 ?_
    refine cm_iret (pc := 120) dX0_bestOrder_120 rfl ⟨W, m, b, rfl, fun c hc h1 h2 => ?_, hz m b ?_, rfl, hI.2.2.2.1, hI.2.2.2.2⟩
    · rcases hc with hc | hc
      · exact hI.1 c hc
      · exact hI.2.1 c hc h1 h2
    · cases mo <;> exact ⟨rfl, rfl⟩
  | succ q ih =>
    intro k hk mo o b m W hI hmo hz x7
    have hst := ih (k + 1) (by omega)
    refine cm_iload6 (pc := 53) dX0_bestOrder_53 ?_
    refine cm_sipush (pc := 55) (v := 720) dX0_bestOrder_55 (by decide) ?_
    refine cm_icmp_ge (pc := 58) (tgt := 118) dX0_bestOrder_58 (by decide) (fun q => absurd q (nI_ge (a := k) (b := 720) (by omega) (by omega))) (fun c58 => ?_)
    refine cm_iload5 (pc := 61) dX0_bestOrder_61 ?_
    refine cm_ifeqB (pc := 63) (tgt := 118) dX0_bestOrder_63 (by decide) (fun c63 => ?_) (fun c63 => ?_)
    · refine cm_iload4 (pc := 118) dX0_bestOrder_118 ?_
      refine cm_iret (pc := 120) dX0_bestOrder_120 rfl ⟨W, m, b, rfl, fun c hc h1 h2 => ?_, hz m b ?_, rfl, hI.2.2.2.1, hI.2.2.2.2⟩
      · rcases hc with hc | hc
        · exact hI.1 c hc
        · exact hI.2.1 c hc h1 h2
      · rw [c63]; exact ⟨rfl, rfl⟩
    · have ho := hmo c63
      subst c63
      refine cm_aload0 (pc := 66) dX0_bestOrder_66 ?_
      refine cm_getR (pc := 67) flX0_12 dX0_bestOrder_67 hX.of hX.rf0 ?_
      refine cm_aload1 (pc := 70) dX0_bestOrder_70 ?_
      refine cm_V1 (pc := 71) mX2_takeWhatMoves_v mlX0_83 dX0_bestOrder_71 hX.mf.1 (by omega) (Nat.le_of_ble_eq_true rfl) (Nat.le_refl _) (Nat.le_refl _) (k_takeWhatMoves (d := d + 5) hX.mf hX.mp (by omega)) (fun r71 h71 hq71 => ?_)
      obtain ⟨rfl, H71, rfl, t71⟩ := hq71
      have e71 : ∀ c, c ≠ 34 → c ≠ 38 → c ≠ 40 → c ≠ 41 → c ≠ 42 → H71 c = W c := t71.1
      have hM5 : ∀ c, c ≤ 10 → cm_sf W 5 c = cm_sf hi 5 c := fun c hc => hI.1 (5 + c) (by omega)
      have q1 := t71.eq (by
        refine ⟨?_, fun c hc i hi6 => ?_, fun i hi2 => ?_⟩
        · rw [hM5 0 (by decide)]; exact hI.2.2.1.1
        · rw [hM5 c (by omega)]; exact hI.2.2.1.2.1 c hc i hi6
        · rw [hM5 10 (by decide)]; exact hI.2.2.1.2.2 i hi2)
      have ho71 : oOk H71 o nb := ⟨ho.1, fun i hi => by rw [e71 45 (by decide) (by decide) (by decide) (by decide) (by decide)]; exact ho.2 i hi⟩
      refine cm_aload0 (pc := 74) dX0_bestOrder_74 ?_
      refine cm_aload1 (pc := 75) dX0_bestOrder_75 ?_
      refine cm_V1 (pc := 76) mX0_shareWants_v mlX0_86 dX0_bestOrder_76 hX.of (by omega) (Nat.le_of_ble_eq_true rfl) (Nat.le_refl _) (Nat.le_refl _) (k_shareWants (d := d + 6) hX ho71 (show H71 5 3 = nI nb by rw [e71 5 (by decide) (by decide) (by decide) (by decide) (by decide), hI.1 5 (by decide)]; exact h.1.1) hnb) (fun r76 h76 hq76 => ?_)
      obtain ⟨rfl, H76, rfl, e76, u76⟩ := hq76
      have hbo : boOk (cm_sf H76 34) (cm_sf hi 5) o nb := by
        refine ⟨fun j hj => ?_, fun c h1 h9 h7 i hi6 => ?_, fun i hi => ?_, fun i hi2 => ?_⟩
        · rw [show cm_sf H76 34 0 = cm_sf H71 34 0 from e76 34 (by decide), q1.1 j hj, hM5 0 (by decide)]
        · rw [show cm_sf H76 34 c = cm_sf H71 34 c from e76 (34 + c) (by omega), q1.2.1 c h1 h9 i hi6, hM5 c (by omega)]
        · show H76 41 i = _
          rw [u76 i, if_pos hi, e71 12 (by decide) (by decide) (by decide) (by decide) (by decide), hI.1 12 (by decide)]
          rfl
        · rw [show cm_sf H76 34 10 = cm_sf H71 34 10 from e76 44 (by decide), q1.2.2 i hi2, hM5 10 (by decide)]
      have hok := h.bo hbo (fun i hi => (ho.2 i hi).1)
      refine cm_aload0 (pc := 79) dX0_bestOrder_79 ?_
      refine cm_iload2 (pc := 80) dX0_bestOrder_80 ?_
      refine cm_V1 (pc := 81) mX0_pass_v mlX0_48 dX0_bestOrder_81 hX.of (by omega) (Nat.le_of_ble_eq_true rfl) (Nat.le_refl _) (Nat.le_refl _) (cm_ct_us 34 (k_pass (d := d + 2) hX hok hn)) (fun r81 h81 hq81 => ?_)
      obtain ⟨rfl, rfl⟩ := hq81
      refine cm_usG (fun G81 e81 f81 => ?_)
      have hval : boVal (cm_sf hi 5) nb ns n o (nI (mIt (cm_sf H76 34) nb ns n).2) := ⟨fun i hi => (ho.2 i hi).1, _, hbo, rfl⟩
      have k81 : ∀ c, 44 < c → G81 c = W c := fun c hc => by
        have := f81 (c - 34)
        rw [show 34 + (c - 34) = c by omega, mItW_c (by omega)] at this
        rw [this]
        show H76 (34 + (c - 34)) = _
        rw [show 34 + (c - 34) = c by omega, e76 c (by omega), e71 c (by omega) (by omega) (by omega) (by omega) (by omega)]
      have hI81 : boInv hi G81 s nb b := by
        refine ⟨fun c hc => by rw [e81 c (by omega), e76 c (by omega), e71 c (by omega) (by omega) (by omega) (by omega) (by omega), hI.1 c hc], fun c hc h1 h2 => by rw [k81 c (by omega), hI.2.1 c hc h1 h2], ?_, by rw [k81 s (by omega)]; exact hI.2.2.2.1, fun x hx => by rw [k81 (s + 1) (by omega)]; exact hI.2.2.2.2 x hx⟩
        rw [show cm_sf G81 34 = (mIt (cm_sf H76 34) nb ns n).1 from funext f81]
        exact (mItW_st n).trans (mSt.bo hbo)
      have ho81 : oOk G81 o nb := ⟨ho.1, fun i hi => by rw [k81 45 (by decide)]; exact ho.2 i hi⟩
      generalize hv : nI (mIt (cm_sf H76 34) nb ns n).2 = v at *
      refine cm_istore7 (pc := 84) dX0_bestOrder_84 (by decide) rfl ?_
      refine cm_iload7 (pc := 86) dX0_bestOrder_86 ?_
      refine cm_iload4 (pc := 88) dX0_bestOrder_88 ?_
      refine cm_icmp_le (pc := 90) (tgt := 102) dX0_bestOrder_90 (by decide) (fun c90 => ?_) (fun c90 => ?_)
      · refine t_bo hX hs9 h.1.1 h0 hnb hI81 ho81 (fun mo o1 W1 hI1 hm1 hm2 x7 => ?_)
        refine hst mo o1 b m W1 hI1 (fun q => (hm1 q).1) (fun m9 b9 hf => hz m9 b9 ?_) x7
        show boFold (boVal (cm_sf hi 5) nb ns n) (cIter nb (q + 1) o) m b m9 b9
        refine ⟨v, hval, ?_⟩
        rw [if_neg (Int32.not_lt.mpr c90)]
        cases mo with
        | true => rw [(hm1 rfl).2]; exact hf
        | false => rw [hm2 rfl]; exact hf
      · have c90 := Int32.not_le.mp c90
        refine cm_iload7 (pc := 93) dX0_bestOrder_93 ?_
        refine cm_istore4 (pc := 95) dX0_bestOrder_95 (by decide) rfl ?_
        refine cm_aload0 (pc := 97) dX0_bestOrder_97 ?_
        refine cm_aload3 (pc := 98) dX0_bestOrder_98 ?_
        refine cm_V1 (pc := 99) mX0_layOrder_v mlX0_89 dX0_bestOrder_99 hX.of (by omega) (Nat.le_of_ble_eq_true rfl) (Nat.le_refl _) (Nat.le_refl _) (k_layOrder (d := d + 2) hX ho81 hnb hS hs9 hI81.2.2.2.1) (fun r99 h99 hq99 => ?_)
        obtain ⟨rfl, H99, rfl, e99, z99, u99⟩ := hq99
        have hI99 : boInv hi H99 s nb o := by
          refine ⟨fun c hc => by rw [e99 c (by omega) (by omega), hI81.1 c hc], fun c hc h1 h2 => by rw [e99 c h1 h2, hI81.2.1 c hc h1 h2], ⟨by rw [show cm_sf H99 34 0 = cm_sf G81 34 0 from e99 34 (by omega) (by omega)]; exact hI81.2.2.1.1, fun c hc i hi6 => by rw [show cm_sf H99 34 c = cm_sf G81 34 c from e99 (34 + c) (by omega) (by omega)]; exact hI81.2.2.1.2.1 c hc i hi6, fun i hi2 => by rw [show cm_sf H99 34 10 = cm_sf G81 34 10 from e99 44 (by omega) (by omega)]; exact hI81.2.2.1.2.2 i hi2⟩, z99, u99⟩
        have ho99 : oOk H99 o nb := ⟨ho81.1, fun i hi => by rw [e99 45 (by omega) (by omega)]; exact ho81.2 i hi⟩
        refine t_bo hX hs9 h.1.1 h0 hnb hI99 ho99 (fun mo o1 W1 hI1 hm1 hm2 x7 => ?_)
        refine hst mo o1 o v W1 hI1 (fun q => (hm1 q).1) (fun m9 b9 hf => hz m9 b9 ?_) x7
        show boFold (boVal (cm_sf hi 5) nb ns n) (cIter nb (q + 1) o) m b m9 b9
        refine ⟨v, hval, ?_⟩
        rw [if_pos c90]
        cases mo with
        | true => rw [(hm1 rfl).2]; exact hf
        | false => rw [hm2 rfl]; exact hf
set_option maxRecDepth 20000 in
theorem l_fill (hX : cm_cls sh hr) {s n : Nat} (h : mOk (cm_sf hi 5) nb ns) (h0 : 0 < nb) (hn : n < 2147483648) (hS : cm_str sh hr s 40) (hs9 : 60 < s) {M : cm_g2} (hI : boInv hi M s nb (List.replicate nb 0)) : ∀ q k : Nat, k + q = nb → ∀ W : cm_g2, ((∀ c, c ≠ 45 → W c = M c) ∧ ∀ x, x < k → W 45 x = nI x) → ∀ x5 x6 x7 : Option Value, cm_g D mX0_bestOrder (d + 7) 0 0 (fun r9 h9 => ∃ H m9 b9, h9 = (sh, H, hl, hr) ∧ (∀ c, c < 33 ∨ 45 < c → c ≠ s → c ≠ s + 1 → H c = hi c) ∧ boFold (boVal (cm_sf hi 5) nb ns n) (cIter nb 720 (List.range nb)) (-1) (List.replicate nb 0) m9 b9 ∧ r9 = some (.int m9) ∧ H s 1 = nI nb ∧ ∀ x, x < nb → H (s + 1) x = nI (oG b9 x)) 0 0 20 [some (.ref 33), some (.ref 5), some (.int (nI n)), some (.ref s), some (.int (nI k)), x5, x6, x7] [] (sh, W, hl, hr) := by
  have hnb := h.1.2.1
  intro q
  induction q with
  | zero =>
    intro k hk W hW x5 x6 x7
    have h1 : k = nb := by omega
    subst h1
    refine cm_iload4 (pc := 20) dX0_bestOrder_20 ?_
    refine cm_aload1 (pc := 22) dX0_bestOrder_22 ?_
    refine cm_getI (pc := 23) flX0_68 dX0_bestOrder_23 hX.mp.1 ?_
    refine cm_top_eq (show W 5 3 = nI k by rw [hW.1 5 (by decide), hI.1 5 (by decide)]; exact h.1.1) ?_
    refine cm_geN (pc := 26) (tgt := 44) dX0_bestOrder_26 (by decide) (by omega) (by omega) (fun c26 => ?_) (fun c26 => ?_)
    · refine cm_iconst (pc := 44) (v := -1) dX0_bestOrder_44 (by decide) ?_
      refine cm_istore4 (pc := 45) dX0_bestOrder_45 (by decide) rfl ?_
      refine cm_iconst (pc := 47) (v := 1) dX0_bestOrder_47 (by decide) ?_
      refine cm_istore5 (pc := 48) dX0_bestOrder_48 (by decide) rfl ?_
      refine cm_iconst (pc := 50) (v := 0) dX0_bestOrder_50 (by decide) ?_
      refine cm_istore6 (pc := 51) dX0_bestOrder_51 (by decide) rfl ?_
      refine l_bo hX h h0 hn hS hs9 720 0 (by omega) true (List.range k) (List.replicate k 0) (-1) W ⟨fun c hc => by rw [hW.1 c (by omega), hI.1 c hc], fun c hc h1 h2 => by rw [hW.1 c (by omega), hI.2.1 c hc h1 h2], ⟨by rw [show cm_sf W 34 0 = cm_sf M 34 0 from hW.1 34 (by decide)]; exact hI.2.2.1.1, fun c hc i hi6 => by rw [show cm_sf W 34 c = cm_sf M 34 c from hW.1 (34 + c) (by omega)]; exact hI.2.2.1.2.1 c hc i hi6, fun i hi2 => by rw [show cm_sf W 34 10 = cm_sf M 34 10 from hW.1 44 (by decide)]; exact hI.2.2.1.2.2 i hi2⟩, by rw [hW.1 s (by omega)]; exact hI.2.2.2.1, fun x hx => by rw [hW.1 (s + 1) (by omega)]; exact hI.2.2.2.2 x hx⟩ (fun _ => ⟨List.length_range, fun i hi => ?_⟩) (fun m9 b9 hf => hf) _
      have e : oG (List.range k) i = i := by
        unfold oG
        rw [List.getD_eq_getElem?_getD, List.getElem?_range hi]
        rfl
      rw [e]
      exact ⟨hi, hW.2 i hi⟩
    · exact absurd c26 (by omega)
  | succ q ih =>
    intro k hk W hW x5 x6 x7
    have hst := ih (k + 1) (by omega)
    refine cm_iload4 (pc := 20) dX0_bestOrder_20 ?_
    refine cm_aload1 (pc := 22) dX0_bestOrder_22 ?_
    refine cm_getI (pc := 23) flX0_68 dX0_bestOrder_23 hX.mp.1 ?_
    refine cm_top_eq (show W 5 3 = nI nb by rw [hW.1 5 (by decide), hI.1 5 (by decide)]; exact h.1.1) ?_
    refine cm_geN (pc := 26) (tgt := 44) dX0_bestOrder_26 (by decide) (by omega) (by omega) (fun c26 => ?_) (fun c26 => ?_)
    · exact absurd c26 (by omega)
    · refine cm_aload0 (pc := 29) dX0_bestOrder_29 ?_
      refine cm_getR (pc := 30) flX0_18 dX0_bestOrder_30 hX.of hX.rf1 ?_
      refine cm_iload4 (pc := 33) dX0_bestOrder_33 ?_
      refine cm_iload4 (pc := 35) dX0_bestOrder_35 ?_
      refine cm_iasN (pc := 37) dX0_bestOrder_37 hX.a45 (by omega) (by decide) ?_
      refine cm_memG (fun G37 e37 f37 => ?_)
      refine cm_incN4 (pc := 38) dX0_bestOrder_38 (by decide) rfl ?_
      refine cm_goto (pc := 41) (tgt := 20) dX0_bestOrder_41 (by decide) ?_
      refine hst G37 ⟨fun c hc => by rw [e37 c hc, hW.1 c hc], fun x hx => ?_⟩ _ _ _
      rw [f37]
      unfold upd
      by_cases e : x = k
      · subst e; rw [if_pos rfl]
      · rw [if_neg e]; exact hW.2 x (by omega)
set_option maxRecDepth 20000 in
theorem k_bestOrder (hX : cm_cls sh hr) {s n : Nat} (h : mOk (cm_sf hi 5) nb ns) (h0 : 0 < nb) (hn : n < 2147483648) (hS : cm_str sh hr s 40) (hs9 : 60 < s) : cm_ct D mX0_bestOrder (d + 7) 0 0 [.ref 33, .ref 5, .int (nI n), .ref s] (sh, hi, hl, hr) (fun r9 h9 => ∃ H m9 b9, h9 = (sh, H, hl, hr) ∧ (∀ c, c < 33 ∨ 45 < c → c ≠ s → c ≠ s + 1 → H c = hi c) ∧ boFold (boVal (cm_sf hi 5) nb ns n) (cIter nb 720 (List.range nb)) (-1) (List.replicate nb 0) m9 b9 ∧ r9 = some (.int m9) ∧ H s 1 = nI nb ∧ ∀ x, x < nb → H (s + 1) x = nI (oG b9 x)) := by
  refine cm_ct_of (ls := [some (.ref 33), some (.ref 5), some (.int (nI n)), some (.ref s), none, none, none, none]) 4 (by decide +kernel) rfl rfl ?_
  refine cm_aload0 (pc := 0) dX0_bestOrder_0 ?_
  refine cm_getR (pc := 1) flX0_12 dX0_bestOrder_1 hX.of hX.rf0 ?_
  refine cm_aload1 (pc := 4) dX0_bestOrder_4 ?_
  refine cm_V1 (pc := 5) mX2_take_v mlX0_33 dX0_bestOrder_5 hX.mf.1 (by omega) (Nat.le_of_ble_eq_true rfl) (Nat.le_refl _) (Nat.le_refl _) (k_take hX.mf hX.mp (by omega) (d := d + 5)) (fun r5 h5 hq5 => ?_)
  obtain ⟨rfl, H5, rfl, t5⟩ := hq5
  have hnb := h.1.2.1
  refine cm_aload3 (pc := 8) dX0_bestOrder_8 ?_
  refine cm_aload1 (pc := 9) dX0_bestOrder_9 ?_
  refine cm_getI (pc := 10) flX0_68 dX0_bestOrder_10 hX.mp.1 ?_
  refine cm_top_eq (show H5 5 3 = nI nb by rw [t5.1 5 (Or.inl (by decide))]; exact h.1.1) ?_
  refine cm_iconst (pc := 13) (v := 0) dX0_bestOrder_13 (by decide) ?_
  refine cm_V2 (pc := 14) mX4_renew_v mlX0_71 dX0_bestOrder_14 hS.1 (by omega) (Nat.le_of_ble_eq_true rfl) (Nat.le_refl _) (Nat.le_refl _) (cm_ct_us s (k_renew (d := d + 5) hS (by decide) (show nb ≤ 40 by omega))) (fun r14 h14 hq14 => ?_)
  obtain ⟨rfl, rfl⟩ := hq14
  refine cm_usG (fun G14 e14 f14 => ?_)
  refine cm_iconst (pc := 17) (v := 0) dX0_bestOrder_17 (by decide) ?_
  refine cm_istore4 (pc := 18) dX0_bestOrder_18 (by decide) rfl ?_
  have k14 : ∀ c, c ≠ s → c ≠ s + 1 → G14 c = H5 c := fun c h1 h2 => by
    rcases Nat.lt_or_ge c s with q | q
    · exact e14 c q
    · have := f14 (c - s)
      rw [show s + (c - s) = c by omega] at this
      rw [this]
      unfold stFill
      rw [va_up_ne _ _ (by omega), va_up_ne _ _ (by omega)]
      show H5 (s + (c - s)) = _
      rw [show s + (c - s) = c by omega]
  refine l_fill hX h h0 hn hS hs9 (M := G14) ⟨fun c hc => by rw [k14 c (by omega) (by omega), t5.1 c (Or.inl (by omega))], fun c hc h1 h2 => by rw [k14 c h1 h2, t5.1 c (Or.inr (by omega))], ?_, ?_, fun x hx => ?_⟩ nb 0 (by omega) G14 ⟨fun _ _ => rfl, fun x hx => absurd hx (Nat.not_lt_zero _)⟩ _ _ _
  · have := t5.eq.st
    exact ⟨by rw [show cm_sf G14 34 0 = cm_sf H5 34 0 from k14 34 (by omega) (by omega)]; exact this.1, fun c hc i hi6 => by rw [show cm_sf G14 34 c = cm_sf H5 34 c from k14 (34 + c) (by omega) (by omega)]; exact this.2.1 c hc i hi6, fun i hi2 => by rw [show cm_sf G14 34 10 = cm_sf H5 34 10 from k14 44 (by omega) (by omega)]; exact this.2.2 i hi2⟩
  · rw [show G14 s = G14 (s + 0) from rfl, f14 0]
    simp [stFill, va_up, upd]
  · rw [f14 1]
    unfold stFill
    rw [va_up_self]
    show (if x < nb then (0 : Int32) else _) = _
    rw [if_pos hx]
    unfold oG
    rw [List.getD_eq_getElem?_getD, List.getElem?_replicate, if_pos hx]
    rfl
end BO
