/-! PART forecast4: where a stall should be -/
theorem tabOk.g {g g' : cm_g2} {ns w s : Nat} {T : Nat → Int32} (h : tabOk g ns T w s) (h1 : g' 1 = g 1) (h2 : g' 2 = g 2) : tabOk g' ns T w s := fun a b c e f => by
  rw [cWay_g h1 h2, cWay_g h1 h2]
  exact h a b c e f
theorem twOk.eq1 {hi H : cm_g2} {a b k : Nat} (h : twOk hi a b 6 H) (hs : mSt1 (cm_sf hi a) (cm_sf hi b) k) : (∀ j, j < 4 → cm_sf H a 0 j = cm_sf hi b 0 j) ∧ (∀ c, 2 ≤ c → c ≤ 9 → ∀ i, i < 6 → cm_sf H a c i = cm_sf hi b c i) ∧ (∀ i, i < 6 → i ≠ k → cm_sf H a 1 i = cm_sf hi b 1 i) := by
  refine ⟨fun j hj => ?_, fun c h1 h9 i hi6 => ?_, fun i hi6 hk => ?_⟩
  · show H (a + 0) j = hi (b + 0) j
    rw [Nat.add_zero, Nat.add_zero, h.2.1]
    have h0 : hi a 0 = hi b 0 ∧ hi a 2 = hi b 2 ∧ hi a 3 = hi b 3 := hs.1
    have hc : j = 0 ∨ j = 1 ∨ j = 2 ∨ j = 3 := by omega
    rcases hc with rfl | rfl | rfl | rfl
    · simpa [upd] using h0.1
    · simp [upd]
    · simpa [upd] using h0.2.1
    · simpa [upd] using h0.2.2
  · by_cases hc : c = 4 ∨ c = 6 ∨ c = 7 ∨ c = 8
    · show H (a + c) i = _
      rw [h.2.2 c hc i, if_pos hi6]
      rfl
    · show H (a + c) i = _
      rw [h.1 (a + c) (by omega) (by omega) (by omega) (by omega) (by omega)]
      exact hs.2.1 c (by omega) i hi6
  · show H (a + 1) i = _
    rw [h.1 (a + 1) (by omega) (by omega) (by omega) (by omega) (by omega)]
    exact hs.2.2 i hi6 hk
theorem mSt.st1 {g g' : cm_g2} {k : Nat} (h : mSt g g') : mSt1 g g' k := ⟨h.1, fun c hc => h.2.1 c (by omega), fun i hi _ => h.2.1 1 (by decide) i hi⟩
theorem mSt1.trans {g g' g'' : cm_g2} {n : Nat} (h : mSt1 g g' n) (k : mSt1 g' g'' n) : mSt1 g g'' n := ⟨⟨h.1.1.trans k.1.1, h.1.2.1.trans k.1.2.1, h.1.2.2.trans k.1.2.2⟩, fun c hc i hi => (h.2.1 c hc i hi).trans (k.2.1 c hc i hi), fun i hi hn => (h.2.2 i hi hn).trans (k.2.2 i hi hn)⟩
theorem bpOk.st1 {g P : cm_g2} {ns k at_ : Nat} (h : bpOk g P ns k at_) : mSt1 g P k := ⟨⟨h.1 0 (by decide), h.1 2 (by decide), h.1 3 (by decide)⟩, fun c hc => h.2.1 c (by omega) (by omega), fun i hi hk => by rw [h.2.2.1 i hi, if_neg hk]⟩
section FO4
variable {D : cm_D} {d : Nat} {sh : List cm_Sh} {hi g H5 : cm_g2} {hl : Nat → Nat → Int64} {hr : Nat → Nat → Option Nat} {nb ns : Nat}
set_option maxRecDepth 20000 in
set_option maxHeartbeats 1000000 in
theorem l_bp (hX : cm_cls sh hr) {n k0 : Nat} (h : mOk (cm_sf hi 5) nb ns) (hn : n < 2147483648) (hk0 : k0 < 6) : ∀ q k : Nat, k + q = 20 → ∀ (F : Nat → Int32) (B G : cm_g2), (∀ c, c < 33 → B c = hi c) → (∀ c, 10 < c → G c = hi (34 + c)) → mSt1 G (cm_sf hi 5) k0 → (B 33 3 = (cMax F k).1) → (∀ i, i < k → bpVal (cm_sf hi 5) nb ns n k0 i (F i)) → ∀ x6 : Option Value, cm_g D mX0_bestPlace (d + 6) 0 0 (fun r9 h9 => ∃ H F, h9 = (sh, H, hl, hr) ∧ (∀ c, c < 33 ∨ 44 < c → H c = hi c) ∧ (∀ i, i < 20 → bpVal (cm_sf hi 5) nb ns n k0 i (F i)) ∧ r9 = some (.int (nI (cMax F 20).2)) ∧ H 33 3 = (cMax F 20).1) 0 0 19 [some (.ref 33), some (.ref 5), some (.int (nI k0)), some (.int (nI n)), some (.int (nI (cMax F k).2)), some (.int (nI k)), x6] [] (sh, cm_us B 34 G, hl, hr) := by
  intro q
  induction q with
  | zero =>
    intro k hk F B G hB hG hSt hbs hF x6
    have h1 : k = 20 := by omega
    subst h1
    refine cm_iload5 (pc := 19) dX0_bestPlace_19 ?_
    refine cm_bipush (pc := 21) (v := 20) dX0_bestPlace_21 (by decide) ?_
    refine cm_icmp_ge (pc := 23) (tgt := 101) dX0_bestPlace_23 (by decide) (fun c23 => ?_) (fun q => absurd (by decide) q)
    refine cm_iload4 (pc := 101) dX0_bestPlace_101 ?_
    refine cm_iret (pc := 103) dX0_bestPlace_103 rfl ⟨_, F, rfl, fun c hc => ?_, hF, rfl, by rw [cm_us_lt (by decide)]; exact hbs⟩
    rcases hc with hc | hc
    · rw [cm_us_lt (by omega), hB c hc]
    · rw [show cm_us B 34 G c = G (c - 34) by unfold cm_us; rw [if_pos (by omega)], hG (c - 34) (by omega), show 34 + (c - 34) = c by omega]
  | succ q ih =>
    intro k hk F B G hB hG hSt hbs hF x6
    have hst := ih (k + 1) (by omega)
    refine cm_iload5 (pc := 19) dX0_bestPlace_19 ?_
    refine cm_bipush (pc := 21) (v := 20) dX0_bestPlace_21 (by decide) ?_
    refine cm_icmp_ge (pc := 23) (tgt := 101) dX0_bestPlace_23 (by decide) (fun q => absurd q (nI_ge (a := k) (b := 20) (by omega) (by omega))) (fun c23 => ?_)
    refine cm_aload0 (pc := 26) dX0_bestPlace_26 ?_
    refine cm_getR (pc := 27) flX0_12 dX0_bestPlace_27 hX.of hX.rf0 ?_
    refine cm_aload1 (pc := 30) dX0_bestPlace_30 ?_
    refine cm_V1 (pc := 31) mX2_takeWhatMoves_v mlX0_83 dX0_bestPlace_31 hX.mf.1 (by omega) (Nat.le_of_ble_eq_true rfl) (Nat.le_refl _) (Nat.le_refl _) (k_takeWhatMoves (d := d + 4) hX.mf hX.mp (by omega)) (fun r31 h31 hq31 => ?_)
    obtain ⟨rfl, H31, rfl, t31⟩ := hq31
    have e5 : ∀ c, c < 33 → H31 c = hi c := fun c hc => by
      rw [t31.1 c (by omega) (by omega) (by omega) (by omega) (by omega), cm_us_lt (by omega)]
      exact hB c hc
    have e33 : H31 33 = B 33 := by rw [t31.1 33 (by omega) (by omega) (by omega) (by omega) (by omega), cm_us_lt (by omega)]
    have hc9 : ∀ c, 10 < c → cm_sf H31 34 c = hi (34 + c) := fun c hc => by
      show H31 (34 + c) = _
      rw [t31.1 (34 + c) (by omega) (by omega) (by omega) (by omega) (by omega), cm_us_at]
      exact hG c hc
    have hM5 : ∀ c, c ≤ 10 → cm_sf (cm_us B 34 G) 5 c = cm_sf hi 5 c := fun c hc => by
      show cm_us B 34 G (5 + c) = _
      rw [cm_us_lt (by omega), hB _ (by omega)]
      rfl
    have q1 := t31.eq1 (k := k0) (by
      rw [cm_sf_us]
      refine ⟨?_, fun c hc i hi6 => ?_, fun i hi6 hk => ?_⟩
      · rw [hM5 0 (by decide)]; exact hSt.1
      · rw [hM5 c (by omega)]; exact hSt.2.1 c hc i hi6
      · rw [hM5 1 (by decide)]; exact hSt.2.2 i hi6 hk)
    refine cm_h_eq (show (sh, H31, hl, hr) = (sh, cm_us H31 34 (cm_sf H31 34), hl, hr) by rw [cm_us_sf]) ?_
    refine cm_aload0 (pc := 34) dX0_bestPlace_34 ?_
    refine cm_getR (pc := 35) flX0_12 dX0_bestPlace_35 hX.of hX.rf0 ?_
    refine cm_getR (pc := 38) flX0_103 dX0_bestPlace_38 hX.mf.1 hX.mf.r4 ?_
    refine cm_iload2 (pc := 41) dX0_bestPlace_41 ?_
    refine cm_iload5 (pc := 42) dX0_bestPlace_42 ?_
    refine mk_put (pc := 44) dX0_bestPlace_44 hX.mf.a1 (by omega) (by decide) ?_
    refine cm_aload0 (pc := 45) dX0_bestPlace_45 ?_
    refine cm_getR (pc := 46) flX0_12 dX0_bestPlace_46 hX.of hX.rf0 ?_
    refine cm_V0 (pc := 49) mX2_findWays_v mlX0_106 dX0_bestPlace_49 hX.mf.1 (by omega) (Nat.le_of_ble_eq_true rfl) (Nat.le_refl _) (Nat.le_refl _) (k_findWays (d := d + 1) hX.mf (ns := ns) (by rw [va_up_ne _ _ (by decide), q1.1 2 (by decide), hM5 0 (by decide)]; exact h.1.2.2.1) h.1.2.2.2) (fun r49 h49 hq49 => ?_)
    obtain ⟨rfl, T49, rfl, q49⟩ := hq49
    have hbp : bpOk (va_up (va_up (cm_sf H31 34) 1 (upd (cm_sf H31 34 1) k0 (nI k))) 10 T49) (cm_sf hi 5) ns k0 k := by
      refine ⟨fun j hj => ?_, fun c h1 h9 i hi6 => ?_, fun i hi6 => ?_, ?_⟩
      · rw [va_up_ne _ _ (by decide), va_up_ne _ _ (by decide), q1.1 j hj, hM5 0 (by decide)]
      · rw [va_up_ne _ _ (by omega), va_up_ne _ _ (by omega), q1.2.1 c h1 h9 i hi6, hM5 c (by omega)]
      · rw [va_up_ne _ _ (by decide), va_up_self]
        unfold upd
        by_cases e : i = k0
        · rw [if_pos e, if_pos e]
        · rw [if_neg e, if_neg e, q1.2.2 i hi6 e, hM5 1 (by decide)]
      · rw [va_up_self]
        exact q49.g (va_up_ne _ _ (by decide)) (va_up_ne _ _ (by decide))
    have hok := h.bp hbp
    refine cm_aload0 (pc := 52) dX0_bestPlace_52 ?_
    refine cm_iload3 (pc := 53) dX0_bestPlace_53 ?_
    refine cm_V1 (pc := 54) mX0_pass_v mlX0_48 dX0_bestPlace_54 hX.of (by omega) (Nat.le_of_ble_eq_true rfl) (Nat.le_refl _) (Nat.le_refl _) (k_pass (d := d + 1) hX hok hn) (fun r54 h54 hq54 => ?_)
    obtain ⟨rfl, rfl⟩ := hq54
    refine cm_pop (pc := 57) dX0_bestPlace_57 rfl ?_
    refine cm_aload0 (pc := 58) dX0_bestPlace_58 ?_
    refine cm_getR (pc := 59) flX0_12 dX0_bestPlace_59 hX.of hX.rf0 ?_
    refine cm_getR (pc := 62) flX0_109 dX0_bestPlace_62 hX.mf.1 hX.mf.r7 ?_
    refine cm_iload2 (pc := 65) dX0_bestPlace_65 ?_
    refine mk_get (pc := 66) dX0_bestPlace_66 hX.mf.a4 (by omega) (by decide) ?_
    refine cm_aload1 (pc := 67) dX0_bestPlace_67 ?_
    refine cm_getR (pc := 68) flX0_109 dX0_bestPlace_68 hX.mp.1 hX.mp.r7 ?_
    refine cm_iload2 (pc := 71) dX0_bestPlace_71 ?_
    refine cm_ialN (pc := 72) dX0_bestPlace_72 hX.mp.a4 (by omega) (by decide) ?_
    rw [show cm_us H31 34 (mIt (va_up (va_up (cm_sf H31 34) 1 (upd (cm_sf H31 34 1) k0 (nI k))) 10 T49) nb ns n).1 9 k0 = hi 9 k0 by rw [cm_us_lt (by decide), e5 9 (by decide)]]
    refine cm_isub (pc := 73) dX0_bestPlace_73 ?_
    generalize hvv : (mIt (va_up (va_up (cm_sf H31 34) 1 (upd (cm_sf H31 34 1) k0 (nI k))) 10 T49) nb ns n).1 4 k0 - hi 9 k0 = vv at *
    refine cm_istore6 (pc := 74) dX0_bestPlace_74 (by decide) rfl ?_
    refine cm_iload6 (pc := 76) dX0_bestPlace_76 ?_
    refine cm_aload0 (pc := 78) dX0_bestPlace_78 ?_
    refine cm_getI (pc := 79) flX0_44 dX0_bestPlace_79 hX.of ?_
    rw [show cm_us H31 34 (mIt (va_up (va_up (cm_sf H31 34) 1 (upd (cm_sf H31 34 1) k0 (nI k))) 10 T49) nb ns n).1 33 3 = (cMax F k).1 by rw [cm_us_lt (by decide), e33]; exact hbs]
    refine cm_icmp_le (pc := 82) (tgt := 95) dX0_bestPlace_82 (by decide) (fun c82 => ?_) (fun c82 => ?_)
    · refine cm_incN5 (pc := 95) dX0_bestPlace_95 (by decide) rfl ?_
      refine cm_goto (tgt := 19) (pc := 98) dX0_bestPlace_98 (by decide) ?_
      have hcg : cMax (upd F k vv) k = cMax F k := cMax_congr k (fun i hi => by simp only [upd]; rw [if_neg (by omega)])
      have hvk : upd F k vv k = vv := if_pos rfl
      have hF2 : ∀ i, i < k + 1 → bpVal (cm_sf hi 5) nb ns n k0 i (upd F k vv i) := fun i hi => by
        by_cases e : i = k
        · subst e
          rw [hvk, ← hvv]
          exact ⟨_, hbp, rfl⟩
        · rw [show upd F k vv i = F i from if_neg e]
          exact hF i (by omega)
      have hSt2 : mSt1 (mIt (va_up (va_up (cm_sf H31 34) 1 (upd (cm_sf H31 34 1) k0 (nI k))) 10 T49) nb ns n).1 (cm_sf hi 5) k0 := (mItW_st n).st1.trans hbp.st1
      have hG2 : ∀ c, 10 < c → (mIt (va_up (va_up (cm_sf H31 34) 1 (upd (cm_sf H31 34 1) k0 (nI k))) 10 T49) nb ns n).1 c = hi (34 + c) := fun c hc => by
        rw [mItW_c (by omega), va_up_ne _ _ (by omega), va_up_ne _ _ (by omega)]
        exact hc9 c hc
      have hcm : cMax (upd F k vv) (k + 1) = cMax F k := by
        show (if (cMax (upd F k vv) k).1 < upd F k vv k then (upd F k vv k, k) else cMax (upd F k vv) k) = _
        rw [hcg, hvk, if_neg (Int32.not_lt.mpr c82)]
      have hst2 := hst (upd F k vv) H31 (mIt (va_up (va_up (cm_sf H31 34) 1 (upd (cm_sf H31 34 1) k0 (nI k))) 10 T49) nb ns n).1 e5 hG2 hSt2 (by rw [hcm, e33]; exact hbs) hF2
      rw [hcm] at hst2
      exact hst2 _
    · have c82 := Int32.not_le.mp c82
      refine cm_aload0 (pc := 85) dX0_bestPlace_85 ?_
      refine cm_iload6 (pc := 86) dX0_bestPlace_86 ?_
      refine cm_putI (pc := 88) fpX0_44 dX0_bestPlace_88 hX.of ?_
      refine cm_iload5 (pc := 91) dX0_bestPlace_91 ?_
      refine cm_istore4 (pc := 93) dX0_bestPlace_93 (by decide) rfl ?_
      refine cm_incN5 (pc := 95) dX0_bestPlace_95 (by decide) rfl ?_
      refine cm_goto (tgt := 19) (pc := 98) dX0_bestPlace_98 (by decide) ?_
      have hcg : cMax (upd F k vv) k = cMax F k := cMax_congr k (fun i hi => by simp only [upd]; rw [if_neg (by omega)])
      have hvk : upd F k vv k = vv := if_pos rfl
      have hF2 : ∀ i, i < k + 1 → bpVal (cm_sf hi 5) nb ns n k0 i (upd F k vv i) := fun i hi => by
        by_cases e : i = k
        · subst e
          rw [hvk, ← hvv]
          exact ⟨_, hbp, rfl⟩
        · rw [show upd F k vv i = F i from if_neg e]
          exact hF i (by omega)
      have hSt2 : mSt1 (mIt (va_up (va_up (cm_sf H31 34) 1 (upd (cm_sf H31 34 1) k0 (nI k))) 10 T49) nb ns n).1 (cm_sf hi 5) k0 := (mItW_st n).st1.trans hbp.st1
      have hG2 : ∀ c, 10 < c → (mIt (va_up (va_up (cm_sf H31 34) 1 (upd (cm_sf H31 34 1) k0 (nI k))) 10 T49) nb ns n).1 c = hi (34 + c) := fun c hc => by
        rw [mItW_c (by omega), va_up_ne _ _ (by omega), va_up_ne _ _ (by omega)]
        exact hc9 c hc
      have hcm : cMax (upd F k vv) (k + 1) = (vv, k) := by
        show (if (cMax (upd F k vv) k).1 < upd F k vv k then (upd F k vv k, k) else cMax (upd F k vv) k) = _
        rw [hcg, hvk, if_pos c82]
      have hst2 := hst (upd F k vv) (va_up H31 33 (upd (H31 33) 3 vv)) (mIt (va_up (va_up (cm_sf H31 34) 1 (upd (cm_sf H31 34 1) k0 (nI k))) 10 T49) nb ns n).1 (fun c hc => by rw [va_up_ne _ _ (by omega)]; exact e5 c hc) hG2 hSt2 (by rw [hcm, va_up_self]; exact if_pos rfl) hF2
      rw [hcm] at hst2
      refine cm_h_eq ?_ (hst2 _)
      congr 2
      funext c
      by_cases e : c = 33
      · subst e
        rw [va_up_self, cm_us_lt (by decide), cm_us_lt (by decide), va_up_self]
      · rw [va_up_ne _ _ e]
        unfold cm_us
        split
        · rfl
        · rw [va_up_ne _ _ e]
set_option maxRecDepth 20000 in
theorem k_bestPlace (hX : cm_cls sh hr) {n k0 : Nat} (h : mOk (cm_sf hi 5) nb ns) (hn : n < 2147483648) (hk0 : k0 < 6) : cm_ct D mX0_bestPlace (d + 6) 0 0 [.ref 33, .ref 5, .int (nI k0), .int (nI n)] (sh, hi, hl, hr) (fun r9 h9 => ∃ H F, h9 = (sh, H, hl, hr) ∧ (∀ c, c < 33 ∨ 44 < c → H c = hi c) ∧ (∀ i, i < 20 → bpVal (cm_sf hi 5) nb ns n k0 i (F i)) ∧ r9 = some (.int (nI (cMax F 20).2)) ∧ H 33 3 = (cMax F 20).1) := by
  refine cm_ct_of (ls := [some (.ref 33), some (.ref 5), some (.int (nI k0)), some (.int (nI n)), none, none, none]) 3 (by decide +kernel) rfl rfl ?_
  refine cm_iconst (pc := 0) (v := 0) dX0_bestPlace_0 (by decide) ?_
  refine cm_istore4 (pc := 1) dX0_bestPlace_1 (by decide) rfl ?_
  refine cm_aload0 (pc := 3) dX0_bestPlace_3 ?_
  refine cm_iconst (pc := 4) (v := -1) dX0_bestPlace_4 (by decide) ?_
  refine cm_putI (pc := 5) fpX0_44 dX0_bestPlace_5 hX.of ?_
  refine cm_memG (fun G5 e5 f5 => ?_)
  have hG5 : cm_sf G5 5 = fun c => if c = 28 then G5 33 else hi (5 + c) := by
    funext c
    by_cases e : c = 28
    · subst e; rfl
    · rw [if_neg e]; exact e5 (5 + c) (by omega)
  refine cm_aload0 (pc := 8) dX0_bestPlace_8 ?_
  refine cm_getR (pc := 9) flX0_12 dX0_bestPlace_9 hX.of hX.rf0 ?_
  refine cm_aload1 (pc := 12) dX0_bestPlace_12 ?_
  refine cm_V1 (pc := 13) mX2_take_v mlX0_33 dX0_bestPlace_13 hX.mf.1 (by omega) (Nat.le_of_ble_eq_true rfl) (Nat.le_refl _) (Nat.le_refl _) (k_take hX.mf hX.mp (by omega) (d := d + 4)) (fun r13 h13 hq13 => ?_)
  obtain ⟨rfl, H13, rfl, t13⟩ := hq13
  refine cm_iconst (pc := 16) (v := 0) dX0_bestPlace_16 (by decide) ?_
  refine cm_istore5 (pc := 17) dX0_bestPlace_17 (by decide) rfl ?_
  have m13 := t13.eq
  refine cm_h_eq (show (sh, H13, hl, hr) = (sh, cm_us H13 34 (cm_sf H13 34), hl, hr) by rw [cm_us_sf]) ?_
  refine l_bp hX h hn hk0 20 0 (by omega) (fun _ => 0) H13 _ (fun c hc => by rw [t13.1 c (Or.inl (by omega)), e5 c (by omega)]) (fun c hc => by
    show H13 (34 + c) = _
    rw [t13.1 _ (Or.inr (by omega)), e5 _ (by omega)]) ?_ ?_ (fun i hi => absurd hi (Nat.not_lt_zero _)) _
  · have hs := m13.st
    have hc : ∀ c, c ≤ 10 → cm_sf G5 5 c = cm_sf hi 5 c := fun c hc => e5 (5 + c) (by omega)
    refine ⟨?_, fun c hc9 i hi6 => ?_, fun i hi6 _ => ?_⟩
    · rw [← hc 0 (by decide)]; exact hs.1
    · rw [← hc c (by omega)]; exact hs.2.1 c (by omega) i hi6
    · rw [← hc 1 (by decide)]; exact hs.2.1 1 (by decide) i hi6
  · rw [t13.1 33 (Or.inl (by decide)), f5]
    exact if_pos rfl
end FO4
