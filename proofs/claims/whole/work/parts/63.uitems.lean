/-! PART uitems: the reference: items, whole texts -/
def aOk (A : pA) : Prop := (∀ k, k < A.2.1.1 → (0 ≤ (A.2.1.2 k).1.toInt ∧ (A.2.1.2 k).1.toInt < 20) ∧ (0 ≤ (A.2.1.2 k).2.1.toInt ∧ (A.2.1.2 k).2.1.toInt < 4) ∧ (0 ≤ (A.2.1.2 k).2.2.toInt ∧ (A.2.1.2 k).2.2.toInt ≤ 9)) ∧ (∀ i, i < A.2.2.1 → (0 ≤ (A.2.2.2 i).2.1.toInt ∧ (A.2.2.2 i).2.1.toInt < 20) ∧ (0 ≤ (A.2.2.2 i).2.2.toInt ∧ (A.2.2.2 i).2.2.toInt < 5)) ∧ (∀ i, i + 1 < A.2.2.1 → (A.2.2.2 i).2.1.toInt < (A.2.2.2 (i + 1)).2.1.toInt) ∧ (0 ≤ A.1.toInt ∧ A.1.toInt ≤ 4) ∧ A.2.1.1 ≤ 6 ∧ A.2.2.1 ≤ 6
theorem pBt_z {c : Nat → Int32} {i : Nat} {a b : Int32} (h : pBt c i a b = true) : a.toInt ≤ (c i).toInt ∧ (c i).toInt ≤ b.toInt := by
  unfold pBt at h
  simp only [Bool.and_eq_true, Bool.not_eq_true', decide_eq_false_iff_not, Int32.lt_iff_toInt_lt] at h
  omega
theorem pBt_s {c : Nat → Int32} {i : Nat} {a b : Int32} (h : pBt c i a b = true) (ha : 0 ≤ a.toInt ∧ a.toInt ≤ 1000) (hb : b.toInt ≤ 1000) : 0 ≤ (c i - a).toInt ∧ (c i - a).toInt ≤ b.toInt - a.toInt := by
  have := pBt_z h
  rw [zsub (by omega)]
  omega
theorem pStall_ok {c : Nat → Int32} {pos : Nat} {A : pA} {x : Nat × pA} (h : pStall c pos A = .ok x) (hA : aOk A) : aOk x.2 := by
  unfold pStall at h
  split at h
  · cases h
  · next h0 =>
    split at h
    · cases h
    · next h1 =>
      split at h
      · cases h
      · next h2 =>
        split at h
        · cases h
        · next h3 =>
          cases h
          have g1 := pBt_s (by simpa using h1) (by decide) (by decide)
          have g2 := pBt_s (by simpa using h2) (by decide) (by decide)
          have g3 := pBt_s (by simpa using h3) (by decide) (by decide)
          have e65 : (65 : Int32).toInt = 65 := by decide
          have e84 : (84 : Int32).toInt = 84 := by decide
          have e48 : (48 : Int32).toInt = 48 := by decide
          have e51 : (51 : Int32).toInt = 51 := by decide
          have e57 : (57 : Int32).toInt = 57 := by decide
          rw [e65, e84] at g1
          rw [e48, e51] at g2
          rw [e48, e57] at g3
          refine ⟨fun k hk => ?_, hA.2.1, hA.2.2.1, hA.2.2.2.1, by show A.2.1.1 + 1 ≤ 6; omega, hA.2.2.2.2.2⟩
          have hk2 : k < A.2.1.1 + 1 := hk
          show (0 ≤ (pSet _ _ _ k).1.toInt ∧ (pSet _ _ _ k).1.toInt < 20) ∧ (0 ≤ (pSet _ _ _ k).2.1.toInt ∧ (pSet _ _ _ k).2.1.toInt < 4) ∧ (0 ≤ (pSet _ _ _ k).2.2.toInt ∧ (pSet _ _ _ k).2.2.toInt ≤ 9)
          unfold pSet
          split
          · exact ⟨by simp only; omega, by simp only; omega, by simp only; omega⟩
          · exact hA.1 k (by omega)
theorem aOk.push {A : pA} {kd x w : Int32} (hA : aOk A) (h6 : A.2.2.1 < 6) (hx : 0 ≤ x.toInt ∧ x.toInt < 20) (hw : 0 ≤ w.toInt ∧ w.toInt < 5) (hc : 0 < A.2.2.1 → (A.2.2.2 (A.2.2.1 - 1)).2.1.toInt < x.toInt) : aOk (A.1, A.2.1, (A.2.2.1 + 1, pSet A.2.2.2 A.2.2.1 (kd, x, w))) := by
  refine ⟨hA.1, fun i hi => ?_, fun i hi => ?_, hA.2.2.2.1, hA.2.2.2.2.1, by show A.2.2.1 + 1 ≤ 6; omega⟩
  · have hi2 : i < A.2.2.1 + 1 := hi
    show (0 ≤ (pSet _ _ _ i).2.1.toInt ∧ (pSet _ _ _ i).2.1.toInt < 20) ∧ (0 ≤ (pSet _ _ _ i).2.2.toInt ∧ (pSet _ _ _ i).2.2.toInt < 5)
    unfold pSet
    split
    · exact ⟨hx, hw⟩
    · exact hA.2.1 i (by omega)
  · have hi2 : i + 1 < A.2.2.1 + 1 := hi
    show (pSet _ _ _ i).2.1.toInt < (pSet _ _ _ (i + 1)).2.1.toInt
    unfold pSet
    rw [if_neg (by omega)]
    by_cases q : i + 1 = A.2.2.1
    · rw [if_pos q]
      have := hc (by omega)
      rw [show A.2.2.1 - 1 = i by omega] at this
      exact this
    · rw [if_neg q]
      exact hA.2.2.1 i (by omega)
theorem pCan_gap {A : pA} {kd x : Int32} (hA : aOk A) (hx : 0 ≤ x.toInt ∧ x.toInt < 20) (h : pCan A kd x = true) (h0 : 0 < A.2.2.1) : (A.2.2.2 (A.2.2.1 - 1)).2.1.toInt < x.toInt := by
  unfold pCan at h
  rw [if_neg (by omega)] at h
  simp only [Bool.and_eq_true, Bool.not_eq_true', decide_eq_false_iff_not] at h
  have h1 := h.1
  have h2 := (hA.2.1 (A.2.2.1 - 1) (by omega)).1
  rw [Int32.le_iff_toInt_le, zsub (by omega)] at h1
  have z0 : (0 : Int32).toInt = 0 := by decide
  omega
theorem pBuyer_ok {c : Nat → Int32} {pos : Nat} {A : pA} {x : Nat × pA} (h : pBuyer c pos A = .ok x) (hA : aOk A) : aOk x.2 := by
  unfold pBuyer at h
  split at h
  · cases h
  · next h0 =>
    split at h
    · cases h
    · next h1 =>
      split at h
      · cases h
      · next h2 =>
        have e65 : (65 : Int32).toInt = 65 := by decide
        have e84 : (84 : Int32).toInt = 84 := by decide
        have g1 := pBt_s (by simpa using h1) (by decide) (by decide)
        rw [e65, e84] at g1
        have hx : 0 ≤ (c (pos + 1) - 65).toInt ∧ (c (pos + 1) - 65).toInt < 20 := by omega
        have hcan : pCan A (pKind (c pos)) (c (pos + 1) - 65) = true := by simpa using h2
        have h6 : A.2.2.1 < 6 := by
          rcases Nat.lt_or_ge A.2.2.1 6 with q | q
          · exact q
          · exact absurd (Or.inr q) h0
        split at h
        · cases h
          exact hA.push h6 hx (by decide) (fun q => pCan_gap hA hx hcan q)
        · split at h
          · cases h
          · next h3 =>
            cases h
            have g3 := pBt_s (by simpa using h3) (by decide) (by decide)
            have e48 : (48 : Int32).toInt = 48 := by decide
            have e51 : (51 : Int32).toInt = 51 := by decide
            rw [e48, e51] at g3
            exact hA.push h6 hx (by omega) (fun q => pCan_gap hA hx hcan q)
theorem pItem_ok {c : Nat → Int32} {pos : Nat} {A : pA} {x : Nat × pA} (h : pItem c pos A = .ok x) (hA : aOk A) : aOk x.2 := by
  unfold pItem at h
  split at h
  · exact pStall_ok h hA
  · exact pBuyer_ok h hA
theorem pHead_ok {c : Nat → Int32} {pos : Nat} {A : pA} {x : Nat × pA} (h : pHead c pos A = .ok x) (hA : aOk A) : aOk x.2 := by
  have := pHead_adv h
  refine ⟨?_, ?_, ?_, by omega, ?_⟩
  · rw [this.2.2.2.1]; exact hA.1
  · rw [this.2.2.2.1]; exact hA.2.1
  · rw [this.2.2.2.1]; exact hA.2.2.1
  · rw [this.2.2.2.1]; exact hA.2.2.2.2
theorem pA0_ok : aOk pA0 := ⟨fun k hk => absurd hk (Nat.not_lt_zero _), fun k hk => absurd hk (Nat.not_lt_zero _), fun k hk => absurd hk (Nat.not_lt_zero _), by decide, by decide, by decide⟩
theorem pRun_ok {c : Nat → Int32} {n : Nat} {B : pA} : ∀ (f pos : Nat) (A : pA), aOk A → pRun c n f pos A = .ok B → aOk B ∧ ¬ B.1 = 0
  | 0, pos, A, hA, h => by
    unfold pRun at h
    split at h
    · cases h
    · next q => cases h; exact ⟨hA, q⟩
  | f + 1, pos, A, hA, h => by
    unfold pRun at h
    split at h
    · split at h
      · exact pRun_ok f _ A hA h
      · split at h
        · cases h
        · next q x hx =>
          refine pRun_ok f _ _ ?_ h
          split at hx
          · exact pHead_ok hx hA
          · exact pItem_ok hx hA
    · split at h
      · cases h
      · next q => cases h; exact ⟨hA, q⟩
section UI
variable {D : cm_D} {d : Nat} {sh : List cm_Sh} {hi u : cm_g2} {hl : Nat → Nat → Int64} {hr : Nat → Nat → Option Nat} {e nb ns t n pos : Nat} {f : Nat → Int32} {A : pA}
theorem nI_6 {m : Nat} (h : nI m = 6) (hm : m < 2 ^ 31) : m = 6 := (nI_eq (b := 6) hm (by decide)).mp h
set_option maxHeartbeats 1000000 in
set_option maxRecDepth 20000 in
theorem r_readsStall (hE : cm_mdl sh hr e) (ht : t < 4) (hx : uTx u t n f) (hn : n ≤ 80) (hp : u 0 21 = nI pos) (hlt : pos < n) (hA : uRep A u) : cm_ct D mX7_readsStall (d + 3) 0 0 [.ref e, .int (nI t)] (sh, cm_us hi e u, hl, hr) (fun r9 h9 => ∃ v, h9 = (sh, cm_us hi e v, hl, hr) ∧ uFr u v ∧ uOut n v r9 (pStall (pC f n) pos A)) := by
  refine cm_ct_of (ls := [some (.ref e), some (.int (nI t)), none]) 1 (by decide +kernel) rfl rfl ?_
  refine cm_aload0 (pc := 0) dX7_readsStall_0 ?_
  refine mk_fld (pc := 1) flX7_130 dX7_readsStall_1 hE.1 ?_
  rw [hA.1.2.1]
  refine cm_if_gt (pc := 4) (tgt := 16) dX7_readsStall_4 (by decide) (fun c4 => ?_) (fun c4 => ?_)
  · have hm : 0 < A.2.2.1 := by
      rcases Nat.eq_zero_or_pos A.2.2.1 with w | w
      · rw [w] at c4; exact absurd c4 (by decide)
      · exact w
    refine cm_iconst (pc := 16) (v := 0) dX7_readsStall_16 (by decide) ?_
    exact cm_zret (pc := 17) dX7_readsStall_17 rfl rfl ⟨u, rfl, uFr.refl, by unfold pStall; rw [if_pos (Or.inl hm)]; exact ⟨rfl, hp, by omega⟩⟩
  · have hm : ¬ 0 < A.2.2.1 := fun w => c4 (nI_lt (a := 0) w (by have := hA.1.2.2.2.2; omega))
    refine cm_aload0 (pc := 7) dX7_readsStall_7 ?_
    refine mk_fld (pc := 8) flX7_133 dX7_readsStall_8 hE.1 ?_
    rw [hA.1.2.2.1]
    refine cm_bipush (pc := 11) (v := 6) dX7_readsStall_11 (by decide) ?_
    refine cm_icmp_ne (pc := 13) (tgt := 18) dX7_readsStall_13 (by decide) (fun c13 => ?_) (fun c13 => ?_)
    · have h6n : A.2.1.1 < 6 := by
        have h1 := hA.1.2.2.2.1
        have h2 : ¬ A.2.1.1 = 6 := fun w => c13 (by rw [w]; rfl)
        omega
      refine cm_bipush (pc := 18) (v := 6) dX7_readsStall_18 (by decide) ?_
      refine cm_aload0 (pc := 20) dX7_readsStall_20 ?_
      refine mk_fld (pc := 21) flX7_133 dX7_readsStall_21 hE.1 ?_
      rw [hA.1.2.2.1]
      refine cm_iadd (pc := 24) dX7_readsStall_24 ?_
      rw [(show (6 : Int32) + nI A.2.1.1 = nI (6 + A.2.1.1) by rw [show (6 : Int32) = nI 6 from rfl, nI_add])]
      refine cm_istore2 (pc := 25) dX7_readsStall_25 (by decide) rfl ?_
      refine cm_aload0 (pc := 26) dX7_readsStall_26 ?_
      refine cm_dup (pc := 27) dX7_readsStall_27 rfl ?_
      refine mk_fld (pc := 28) flX7_118 dX7_readsStall_28 hE.1 ?_
      rw [hp]
      refine cm_iconst (pc := 31) (v := 1) dX7_readsStall_31 (by decide) ?_
      refine cm_iadd (pc := 32) dX7_readsStall_32 ?_
      rw [nI_1]
      refine mk_set (pc := 33) fpX7_118 dX7_readsStall_33 hE.1 ?_
      refine cm_mkG (fun G33 e33 f33 => ?_)
      have K33 : uFr u G33 := uFr.f0 (Or.inl rfl) e33 f33
      have x33 := hx.fr K33
      have p33 : G33 0 21 = nI (pos + 1) := by rw [f33]; exact pk_us
      refine cm_aload0 (pc := 36) dX7_readsStall_36 ?_
      refine cm_iload1 (pc := 37) dX7_readsStall_37 ?_
      refine cm_bipush (pc := 38) (v := 65) dX7_readsStall_38 (by decide) ?_
      refine cm_bipush (pc := 40) (v := 84) dX7_readsStall_40 (by decide) ?_
      refine cm_V3 (pc := 42) mX7_isHere_v mlX7_124 dX7_readsStall_42 hE.1 (by omega) (Nat.le_of_ble_eq_true rfl) (Nat.le_refl _) (Nat.le_refl _) (r_isHere (d := d + 1) hE ht x33.1 hn x33.2 p33 (by omega)) (fun r42 h42 hq42 => ?_)
      obtain ⟨rfl, rfl⟩ := hq42
      rw [pD_bt (by decide)]
      refine cm_ifneB (pc := 45) (tgt := 50) dX7_readsStall_45 (by decide) (fun c45 => ?_) (fun c45 => ?_)
      · refine cm_aload0 (pc := 50) dX7_readsStall_50 ?_
        refine cm_getR (pc := 51) flX7_40 dX7_readsStall_51 hE.1 hE.r15 ?_
        refine cm_iload2 (pc := 54) dX7_readsStall_54 ?_
        refine cm_aload0 (pc := 55) dX7_readsStall_55 ?_
        refine cm_iload1 (pc := 56) dX7_readsStall_56 ?_
        have L1 := pC_in c45 (by decide)
        refine cm_V1 (pc := 57) mX7_here_v mlX7_121 dX7_readsStall_57 hE.1 (by omega) (Nat.le_of_ble_eq_true rfl) (Nat.le_refl _) (Nat.le_refl _) (r_here (d := d + 2) hE ht x33.1 hn x33.2 p33 (by omega)) (fun r57 h57 hq57 => ?_)
        obtain ⟨rfl, rfl⟩ := hq57
        rw [pD_in L1]
        refine cm_bipush (pc := 60) (v := 65) dX7_readsStall_60 (by decide) ?_
        refine cm_isub (pc := 62) dX7_readsStall_62 ?_
        refine mk_putE (pc := 63) (6 + A.2.1.1) dX7_readsStall_63 hE.a11 rfl (by omega) (by decide) ?_
        refine cm_mkG (fun G63 e63 f63 => ?_)
        have K63 : uFr G33 G63 := uFr.fc (by decide) (by omega) e63 f63
        have x63 := x33.fr K63
        have p63 : G63 0 21 = nI (pos + 1) := by rw [e63 0 (by decide)]; exact p33
        refine cm_aload0 (pc := 64) dX7_readsStall_64 ?_
        refine cm_dup (pc := 65) dX7_readsStall_65 rfl ?_
        refine mk_fld (pc := 66) flX7_118 dX7_readsStall_66 hE.1 ?_
        rw [p63]
        refine cm_iconst (pc := 69) (v := 1) dX7_readsStall_69 (by decide) ?_
        refine cm_iadd (pc := 70) dX7_readsStall_70 ?_
        rw [nI_1]
        refine mk_set (pc := 71) fpX7_118 dX7_readsStall_71 hE.1 ?_
        refine cm_mkG (fun G71 e71 f71 => ?_)
        have K71 : uFr G63 G71 := uFr.f0 (Or.inl rfl) e71 f71
        have x71 := x63.fr K71
        have p71 : G71 0 21 = nI (pos + 1 + 1) := by rw [f71]; exact pk_us
        refine cm_aload0 (pc := 74) dX7_readsStall_74 ?_
        refine cm_iload1 (pc := 75) dX7_readsStall_75 ?_
        refine cm_bipush (pc := 76) (v := 48) dX7_readsStall_76 (by decide) ?_
        refine cm_bipush (pc := 78) (v := 51) dX7_readsStall_78 (by decide) ?_
        refine cm_V3 (pc := 80) mX7_isHere_v mlX7_124 dX7_readsStall_80 hE.1 (by omega) (Nat.le_of_ble_eq_true rfl) (Nat.le_refl _) (Nat.le_refl _) (r_isHere (d := d + 1) hE ht x71.1 hn x71.2 p71 (by omega)) (fun r80 h80 hq80 => ?_)
        obtain ⟨rfl, rfl⟩ := hq80
        rw [pD_bt (by decide)]
        refine cm_ifneB (pc := 83) (tgt := 88) dX7_readsStall_83 (by decide) (fun c83 => ?_) (fun c83 => ?_)
        · refine cm_aload0 (pc := 88) dX7_readsStall_88 ?_
          refine cm_getR (pc := 89) flX7_43 dX7_readsStall_89 hE.1 hE.r16 ?_
          refine cm_iload2 (pc := 92) dX7_readsStall_92 ?_
          refine cm_aload0 (pc := 93) dX7_readsStall_93 ?_
          refine cm_iload1 (pc := 94) dX7_readsStall_94 ?_
          have L2 := pC_in c83 (by decide)
          refine cm_V1 (pc := 95) mX7_here_v mlX7_121 dX7_readsStall_95 hE.1 (by omega) (Nat.le_of_ble_eq_true rfl) (Nat.le_refl _) (Nat.le_refl _) (r_here (d := d + 2) hE ht x71.1 hn x71.2 p71 (by omega)) (fun r95 h95 hq95 => ?_)
          obtain ⟨rfl, rfl⟩ := hq95
          rw [pD_in L2]
          refine cm_bipush (pc := 98) (v := 48) dX7_readsStall_98 (by decide) ?_
          refine cm_isub (pc := 100) dX7_readsStall_100 ?_
          refine mk_putE (pc := 101) (6 + A.2.1.1) dX7_readsStall_101 hE.a12 rfl (by omega) (by decide) ?_
          refine cm_mkG (fun G101 e101 f101 => ?_)
          have K101 : uFr G71 G101 := uFr.fc (by decide) (by omega) e101 f101
          have x101 := x71.fr K101
          have p101 : G101 0 21 = nI (pos + 1 + 1) := by rw [e101 0 (by decide)]; exact p71
          refine cm_aload0 (pc := 102) dX7_readsStall_102 ?_
          refine cm_dup (pc := 103) dX7_readsStall_103 rfl ?_
          refine mk_fld (pc := 104) flX7_118 dX7_readsStall_104 hE.1 ?_
          rw [p101]
          refine cm_iconst (pc := 107) (v := 1) dX7_readsStall_107 (by decide) ?_
          refine cm_iadd (pc := 108) dX7_readsStall_108 ?_
          rw [nI_1]
          refine mk_set (pc := 109) fpX7_118 dX7_readsStall_109 hE.1 ?_
          refine cm_mkG (fun G109 e109 f109 => ?_)
          have K109 : uFr G101 G109 := uFr.f0 (Or.inl rfl) e109 f109
          have x109 := x101.fr K109
          have p109 : G109 0 21 = nI (pos + 1 + 1 + 1) := by rw [f109]; exact pk_us
          refine cm_aload0 (pc := 112) dX7_readsStall_112 ?_
          refine cm_iload1 (pc := 113) dX7_readsStall_113 ?_
          refine cm_bipush (pc := 114) (v := 48) dX7_readsStall_114 (by decide) ?_
          refine cm_bipush (pc := 116) (v := 57) dX7_readsStall_116 (by decide) ?_
          refine cm_V3 (pc := 118) mX7_isHere_v mlX7_124 dX7_readsStall_118 hE.1 (by omega) (Nat.le_of_ble_eq_true rfl) (Nat.le_refl _) (Nat.le_refl _) (r_isHere (d := d + 1) hE ht x109.1 hn x109.2 p109 (by omega)) (fun r118 h118 hq118 => ?_)
          obtain ⟨rfl, rfl⟩ := hq118
          rw [pD_bt (by decide)]
          refine cm_ifneB (pc := 121) (tgt := 126) dX7_readsStall_121 (by decide) (fun c121 => ?_) (fun c121 => ?_)
          · refine cm_aload0 (pc := 126) dX7_readsStall_126 ?_
            refine cm_getR (pc := 127) flX7_46 dX7_readsStall_127 hE.1 hE.r17 ?_
            refine cm_iload2 (pc := 130) dX7_readsStall_130 ?_
            refine cm_aload0 (pc := 131) dX7_readsStall_131 ?_
            refine cm_iload1 (pc := 132) dX7_readsStall_132 ?_
            have L3 := pC_in c121 (by decide)
            refine cm_V1 (pc := 133) mX7_here_v mlX7_121 dX7_readsStall_133 hE.1 (by omega) (Nat.le_of_ble_eq_true rfl) (Nat.le_refl _) (Nat.le_refl _) (r_here (d := d + 2) hE ht x109.1 hn x109.2 p109 (by omega)) (fun r133 h133 hq133 => ?_)
            obtain ⟨rfl, rfl⟩ := hq133
            rw [pD_in L3]
            refine cm_bipush (pc := 136) (v := 48) dX7_readsStall_136 (by decide) ?_
            refine cm_isub (pc := 138) dX7_readsStall_138 ?_
            refine mk_putE (pc := 139) (6 + A.2.1.1) dX7_readsStall_139 hE.a13 rfl (by omega) (by decide) ?_
            refine cm_mkG (fun G139 e139 f139 => ?_)
            have K139 : uFr G109 G139 := uFr.fc (by decide) (by omega) e139 f139
            have x139 := x109.fr K139
            have p139 : G139 0 21 = nI (pos + 1 + 1 + 1) := by rw [e139 0 (by decide)]; exact p109
            refine cm_aload0 (pc := 140) dX7_readsStall_140 ?_
            refine cm_dup (pc := 141) dX7_readsStall_141 rfl ?_
            refine mk_fld (pc := 142) flX7_118 dX7_readsStall_142 hE.1 ?_
            rw [p139]
            refine cm_iconst (pc := 145) (v := 1) dX7_readsStall_145 (by decide) ?_
            refine cm_iadd (pc := 146) dX7_readsStall_146 ?_
            rw [nI_1]
            refine mk_set (pc := 147) fpX7_118 dX7_readsStall_147 hE.1 ?_
            refine cm_mkG (fun G147 e147 f147 => ?_)
            have K147 : uFr G139 G147 := uFr.f0 (Or.inl rfl) e147 f147
            have x147 := x139.fr K147
            have p147 : G147 0 21 = nI (pos + 1 + 1 + 1 + 1) := by rw [f147]; exact pk_us
            refine cm_aload0 (pc := 150) dX7_readsStall_150 ?_
            refine cm_dup (pc := 151) dX7_readsStall_151 rfl ?_
            refine mk_fld (pc := 152) flX7_133 dX7_readsStall_152 hE.1 ?_
            rw [show G147 0 24 = nI A.2.1.1 by rw [f147, pk_un (by decide), e139 _ (by decide), f109, pk_un (by decide), e101 _ (by decide), f71, pk_un (by decide), e63 _ (by decide), f33, pk_un (by decide)]; exact hA.1.2.2.1]
            refine cm_iconst (pc := 155) (v := 1) dX7_readsStall_155 (by decide) ?_
            refine cm_iadd (pc := 156) dX7_readsStall_156 ?_
            rw [nI_1]
            refine mk_set (pc := 157) fpX7_133 dX7_readsStall_157 hE.1 ?_
            refine cm_mkG (fun G157 e157 f157 => ?_)
            refine cm_iconst (pc := 160) (v := 1) dX7_readsStall_160 (by decide) ?_
            exact cm_zret (pc := 161) dX7_readsStall_161 rfl rfl ⟨G157, rfl, ((((((K33.trans K63).trans K71).trans K101).trans K109).trans K139).trans K147).trans (uFr.f0 (Or.inr (Or.inr (Or.inr rfl))) e157 f157), by
              unfold pStall
              rw [if_neg (fun w => w.elim hm (fun w => c13 (by rw [show A.2.1.1 = 6 by have := hA.1.2.2.2.1; omega]; rfl))), if_neg (by rw [c45]; decide), if_neg (by rw [c83]; decide), if_neg (by rw [c121]; decide)]
              refine ⟨rfl, by rw [f157, pk_un (by decide)]; exact p147, by show pos + 4 ≤ n; omega, ⟨⟨?_, ?_, ?_, by show A.2.1.1 + 1 ≤ 6; omega, hA.1.2.2.2.2⟩, fun k hk => ?_, fun i hi => ?_⟩⟩
              · rw [f157, pk_un (by decide), f147, pk_un (by decide), e139 _ (by decide), f109, pk_un (by decide), e101 _ (by decide), f71, pk_un (by decide), e63 _ (by decide), f33, pk_un (by decide)]; exact hA.1.1
              · rw [f157, pk_un (by decide), f147, pk_un (by decide), e139 _ (by decide), f109, pk_un (by decide), e101 _ (by decide), f71, pk_un (by decide), e63 _ (by decide), f33, pk_un (by decide)]; exact hA.1.2.1
              · rw [f157, pk_us]
              · rw [e157 _ (by decide), e147 _ (by decide), e139 _ (by decide), e109 _ (by decide), e101 _ (by decide), e71 _ (by decide), f63, e33 _ (by decide), e157 _ (by decide), e147 _ (by decide), e139 _ (by decide), e109 _ (by decide), f101, e71 _ (by decide), e63 _ (by decide), e33 _ (by decide), e157 _ (by decide), e147 _ (by decide), f139, e109 _ (by decide), e101 _ (by decide), e71 _ (by decide), e63 _ (by decide), e33 _ (by decide)]
                have hk2 : k < A.2.1.1 + 1 := hk
                show _ = (pSet A.2.1.2 A.2.1.1 _ k).1 ∧ _ = (pSet A.2.1.2 A.2.1.1 _ k).2.1 ∧ _ = (pSet A.2.1.2 A.2.1.1 _ k).2.2
                unfold pSet upd
                by_cases q9 : k = A.2.1.1
                · subst q9; simp only [if_true]; exact ⟨trivial, trivial, trivial⟩
                · rw [if_neg q9, if_neg (by omega), if_neg (by omega), if_neg (by omega)]; exact hA.2.1 k (by omega)
              · rw [e157 _ (by decide), e147 _ (by decide), e139 _ (by decide), e109 _ (by decide), e101 _ (by decide), e71 _ (by decide), e63 _ (by decide), e33 _ (by decide), e157 _ (by decide), e147 _ (by decide), e139 _ (by decide), e109 _ (by decide), e101 _ (by decide), e71 _ (by decide), e63 _ (by decide), e33 _ (by decide), e157 _ (by decide), e147 _ (by decide), e139 _ (by decide), e109 _ (by decide), e101 _ (by decide), e71 _ (by decide), e63 _ (by decide), e33 _ (by decide)]; exact hA.2.2 i hi⟩
          · refine cm_iconst (pc := 124) (v := 0) dX7_readsStall_124 (by decide) ?_
            exact cm_zret (pc := 125) dX7_readsStall_125 rfl rfl ⟨G109, rfl, ((((K33.trans K63).trans K71).trans K101).trans K109), by unfold pStall; rw [if_neg (fun w => w.elim hm (fun w => c13 (by rw [show A.2.1.1 = 6 by have := hA.1.2.2.2.1; omega]; rfl))), if_neg (by rw [c45]; decide), if_neg (by rw [c83]; decide), if_pos c121]; exact ⟨rfl, p109, by omega⟩⟩
        · refine cm_iconst (pc := 86) (v := 0) dX7_readsStall_86 (by decide) ?_
          exact cm_zret (pc := 87) dX7_readsStall_87 rfl rfl ⟨G71, rfl, ((K33.trans K63).trans K71), by unfold pStall; rw [if_neg (fun w => w.elim hm (fun w => c13 (by rw [show A.2.1.1 = 6 by have := hA.1.2.2.2.1; omega]; rfl))), if_neg (by rw [c45]; decide), if_pos c83]; exact ⟨rfl, p71, by omega⟩⟩
      · refine cm_iconst (pc := 48) (v := 0) dX7_readsStall_48 (by decide) ?_
        exact cm_zret (pc := 49) dX7_readsStall_49 rfl rfl ⟨G33, rfl, K33, by unfold pStall; rw [if_neg (fun w => w.elim hm (fun w => c13 (by rw [show A.2.1.1 = 6 by have := hA.1.2.2.2.1; omega]; rfl))), if_pos c45]; exact ⟨rfl, p33, by omega⟩⟩
    · refine cm_iconst (pc := 16) (v := 0) dX7_readsStall_16 (by decide) ?_
      exact cm_zret (pc := 17) dX7_readsStall_17 rfl rfl ⟨u, rfl, uFr.refl, by unfold pStall; rw [if_pos (Or.inr (by have := nI_6 c13 (by have := hA.1.2.2.2.1; omega); omega))]; exact ⟨rfl, hp, by omega⟩⟩
end UI
