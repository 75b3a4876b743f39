/-! PART take: memories by name, copies, switches; Market: take -/
section MG
variable {D : cm_D} {M : cm_M} {d rc rs : Nat} {Q : Option Value → cm_H → Prop} {cells slots pc : Nat} {ls : List (Option Value)} {st : List Value} {sh : List cm_Sh} {hi : cm_g2} {hl : Nat → Nat → Int64} {hr : Nat → Nat → Option Nat}
theorem cm_memG {x : Nat} {V : Nat → Int32} (kk : ∀ G : cm_g2, (∀ c, c ≠ x → G c = hi c) → G x = V → cm_g D M d rc rs Q cells slots pc ls st (sh, G, hl, hr)) : cm_g D M d rc rs Q cells slots pc ls st (sh, va_up hi x V, hl, hr) := kk _ (fun _ h => va_up_ne _ _ h) (va_up_self _ _ _)
theorem cm_usG {a : Nat} {g : cm_g2} (kk : ∀ G : cm_g2, (∀ c, c < a → G c = hi c) → (∀ c, G (a + c) = g c) → cm_g D M d rc rs Q cells slots pc ls st (sh, G, hl, hr)) : cm_g D M d rc rs Q cells slots pc ls st (sh, cm_us hi a g, hl, hr) := kk _ (fun c h => by simp [cm_us]; omega) (fun c => cm_us_at hi a g c)
theorem cm_us_lt {a c : Nat} {g : cm_g2} (h : c < a) : cm_us hi a g c = hi c := by
  unfold cm_us
  rw [if_neg (by omega)]
theorem cm_ct_us {as : List Value} {mc ms : Nat} (a : Nat) (k : cm_ct D M d mc ms as (sh, cm_us hi a (cm_sf hi a), hl, hr) Q) : cm_ct D M d mc ms as (sh, hi, hl, hr) Q := by
  rw [cm_us_sf] at k
  exact k
theorem cm_cpyE {a0 a n0 n1 idx : Nat} {sp dp n : Int32} (s t N : Nat) (hw : Cond.methodLink M.1.cls idx arraycopyName ∈ cm_good ∧ Cond.native arraycopyName ∈ cm_good ∧ Cond.static arraycopyName ∈ cm_good ∧ Cond.initialized "java/lang/System" ∈ cm_good) (hd : decode M.2.1 pc = .ok (.invokestatic idx, 3)) (ha0 : cm_ar sh a0 0 n0) (ha : cm_ar sh a 0 n1) (hs : sp = nI s) (ht : dp = nI t) (hN : n = nI N) (h1 : s + N ≤ n0) (h2 : t + N ≤ n1) (h3 : n0 < 2147483648) (h4 : n1 < 2147483648) (hdd : 1 ≤ d) (kk : ∀ G : cm_g2, (∀ c, c ≠ a → G c = hi c) → (G a = fun i => if t ≤ i ∧ i < t + N then hi a0 (s + (i - t)) else hi a i) → cm_g D M d rc rs Q cells slots (pc + 3) ls [] (sh, G, hl, hr)) : cm_g D M d rc rs Q cells slots pc ls [.int n, .int dp, .ref a, .int sp, .ref a0] (sh, hi, hl, hr) := by
  subst hs ht hN
  refine cm_copy hw hd ha0 ha (nI_pos (by omega)) (nI_pos (by omega)) (nI_pos (by omega)) (by rw [nI_clamp (by omega), nI_clamp (by omega)]; exact h1) (by rw [nI_clamp (by omega), nI_clamp (by omega)]; exact h2) hdd (by
    have : nativeFrameWords "java/lang/System" "arraycopy" 5 ≤ 53 := by decide
    simp only [List.map_nil, List.sum_nil]
    omega) ?_
  refine cm_memG (fun G e f => kk G e ?_)
  rw [f, nI_clamp (by omega), nI_clamp (by omega), nI_clamp (by omega)]
  rfl
theorem cm_split {x : Int32} {h : cm_H} (v : Int32) (k1 : x = v → cm_g D M d rc rs Q cells slots pc ls (.int v :: st) h) (k2 : ¬ x = v → cm_g D M d rc rs Q cells slots pc ls (.int x :: st) h) : cm_g D M d rc rs Q cells slots pc ls (.int x :: st) h := by
  by_cases q : x = v
  · rw [q]; exact k1 q
  · exact k2 q
theorem cm_nez {x v : Int32} (h : ¬ x = v) : ¬ x.toInt = v.toInt := fun q => h (Int32.toInt_inj.mp q)
end MG
def twOk (hi : cm_g2) (a b k : Nat) (H : cm_g2) : Prop := (∀ c, c ≠ a → c ≠ a + 4 → c ≠ a + 6 → c ≠ a + 7 → c ≠ a + 8 → H c = hi c) ∧ H a = upd (hi a) 1 (hi b 1) ∧ (∀ c, c = 4 ∨ c = 6 ∨ c = 7 ∨ c = 8 → ∀ i, H (a + c) i = if i < k then hi (b + c) i else hi (a + c) i)
def tkOk (hi : cm_g2) (a b : Nat) (H : cm_g2) : Prop := (∀ c, c < a ∨ a + 10 < c → H c = hi c) ∧ (H a 0 = hi b 0 ∧ H a 1 = hi b 1 ∧ H a 2 = hi b 2 ∧ H a 3 = hi b 3) ∧ (∀ c, 1 ≤ c → c ≤ 9 → ∀ i, i < 6 → H (a + c) i = hi (b + c) i) ∧ (∀ i, i < 200 → H (a + 10) i = hi (b + 10) i)
section MT
variable {D : cm_D} {d : Nat} {sh : List cm_Sh} {hi : cm_g2} {hl : Nat → Nat → Int64} {hr : Nat → Nat → Option Nat} {a b : Nat}
set_option maxRecDepth 20000 in
theorem l_twm (hM : cm_mkt sh hr a) (hO : cm_mkt sh hr b) (hab : a + 10 < b ∨ b + 10 < a) : ∀ q k : Nat, k + q = 6 → ∀ H : cm_g2, twOk hi a b k H → cm_g D mX2_takeWhatMoves d 0 0 (fun r9 h9 => r9 = none ∧ ∃ H, h9 = (sh, H, hl, hr) ∧ twOk hi a b 6 H) 0 0 10 [some (.ref a), some (.ref b), some (.int (nI k))] [] (sh, H, hl, hr) := by
  intro q
  induction q with
  | zero =>
    intro k hk H hT
    have h1 : k = 6 := by omega
    subst h1
    refine cm_iload2 (pc := 10) dX2_takeWhatMoves_10 ?_
    refine cm_bipush (pc := 11) (v := 6) dX2_takeWhatMoves_11 (by decide) ?_
    refine cm_icmp_ge (pc := 13) (tgt := 70) dX2_takeWhatMoves_13 (by decide) (fun c13 => ?_) (fun q => absurd (by decide) q)
    exact cm_vret (pc := 70) dX2_takeWhatMoves_70 rfl ⟨rfl, H, rfl, hT⟩
  | succ q ih =>
    intro k hk H hT
    refine cm_iload2 (pc := 10) dX2_takeWhatMoves_10 ?_
    refine cm_bipush (pc := 11) (v := 6) dX2_takeWhatMoves_11 (by decide) ?_
    refine cm_icmp_ge (pc := 13) (tgt := 70) dX2_takeWhatMoves_13 (by decide) (fun q => absurd q (nI_ge (a := k) (b := 6) (by omega) (by omega))) (fun c13 => ?_)
    refine cm_aload0 (pc := 16) dX2_takeWhatMoves_16 ?_
    refine cm_getR (pc := 17) flX2_21 dX2_takeWhatMoves_17 hM.1 hM.r7 ?_
    refine cm_iload2 (pc := 20) dX2_takeWhatMoves_20 ?_
    refine cm_aload1 (pc := 21) dX2_takeWhatMoves_21 ?_
    refine cm_getR (pc := 22) flX2_21 dX2_takeWhatMoves_22 hO.1 hO.r7 ?_
    refine cm_iload2 (pc := 25) dX2_takeWhatMoves_25 ?_
    refine cm_ialN (pc := 26) dX2_takeWhatMoves_26 hO.a4 (by omega) (by decide) ?_
    refine cm_iasN (pc := 27) dX2_takeWhatMoves_27 hM.a4 (by omega) (by decide) ?_
    refine cm_memG (fun G27 e27 f27 => ?_)
    refine cm_aload0 (pc := 28) dX2_takeWhatMoves_28 ?_
    refine cm_getR (pc := 29) flX2_27 dX2_takeWhatMoves_29 hM.1 hM.r9 ?_
    refine cm_iload2 (pc := 32) dX2_takeWhatMoves_32 ?_
    refine cm_aload1 (pc := 33) dX2_takeWhatMoves_33 ?_
    refine cm_getR (pc := 34) flX2_27 dX2_takeWhatMoves_34 hO.1 hO.r9 ?_
    refine cm_iload2 (pc := 37) dX2_takeWhatMoves_37 ?_
    refine cm_ialN (pc := 38) dX2_takeWhatMoves_38 hO.a6 (by omega) (by decide) ?_
    refine cm_iasN (pc := 39) dX2_takeWhatMoves_39 hM.a6 (by omega) (by decide) ?_
    refine cm_memG (fun G39 e39 f39 => ?_)
    refine cm_aload0 (pc := 40) dX2_takeWhatMoves_40 ?_
    refine cm_getR (pc := 41) flX2_30 dX2_takeWhatMoves_41 hM.1 hM.r10 ?_
    refine cm_iload2 (pc := 44) dX2_takeWhatMoves_44 ?_
    refine cm_aload1 (pc := 45) dX2_takeWhatMoves_45 ?_
    refine cm_getR (pc := 46) flX2_30 dX2_takeWhatMoves_46 hO.1 hO.r10 ?_
    refine cm_iload2 (pc := 49) dX2_takeWhatMoves_49 ?_
    refine cm_ialN (pc := 50) dX2_takeWhatMoves_50 hO.a7 (by omega) (by decide) ?_
    refine cm_iasN (pc := 51) dX2_takeWhatMoves_51 hM.a7 (by omega) (by decide) ?_
    refine cm_memG (fun G51 e51 f51 => ?_)
    refine cm_aload0 (pc := 52) dX2_takeWhatMoves_52 ?_
    refine cm_getR (pc := 53) flX2_33 dX2_takeWhatMoves_53 hM.1 hM.r11 ?_
    refine cm_iload2 (pc := 56) dX2_takeWhatMoves_56 ?_
    refine cm_aload1 (pc := 57) dX2_takeWhatMoves_57 ?_
    refine cm_getR (pc := 58) flX2_33 dX2_takeWhatMoves_58 hO.1 hO.r11 ?_
    refine cm_iload2 (pc := 61) dX2_takeWhatMoves_61 ?_
    refine cm_ialN (pc := 62) dX2_takeWhatMoves_62 hO.a8 (by omega) (by decide) ?_
    refine cm_iasN (pc := 63) dX2_takeWhatMoves_63 hM.a8 (by omega) (by decide) ?_
    refine cm_memG (fun G63 e63 f63 => ?_)
    refine cm_incN2 (pc := 64) dX2_takeWhatMoves_64 (by decide) rfl ?_
    refine cm_goto (pc := 67) (tgt := 10) dX2_takeWhatMoves_67 (by decide) ?_
    refine ih (k + 1) (by omega) G63 ⟨fun c h0 h4 h6 h7 h8 => by rw [e63 c h8, e51 c h7, e39 c h6, e27 c h4]; exact hT.1 c h0 h4 h6 h7 h8, by rw [e63 a (by omega), e51 a (by omega), e39 a (by omega), e27 a (by omega)]; exact hT.2.1, fun c hc i => ?_⟩
    have x1 : ∀ c, c = 4 ∨ c = 6 ∨ c = 7 ∨ c = 8 → H (b + c) k = hi (b + c) k := fun c hc => by rw [hT.1 (b + c) (by omega) (by omega) (by omega) (by omega) (by omega)]
    have x2 := hT.2.2
    rcases hc with rfl | rfl | rfl | rfl
    · rw [e63 _ (by omega), e51 _ (by omega), e39 _ (by omega), f27, x1 4 (by omega)]
      have := x2 4 (by omega) i
      unfold upd
      by_cases q : i = k
      · subst q; rw [if_pos rfl, if_pos (by omega)]
      · rw [if_neg q, this]
        by_cases q2 : i < k
        · rw [if_pos q2, if_pos (by omega)]
        · rw [if_neg q2, if_neg (by omega)]
    · rw [e63 _ (by omega), e51 _ (by omega), f39, e27 _ (by omega), e27 _ (by omega), x1 6 (by omega)]
      have := x2 6 (by omega) i
      unfold upd
      by_cases q : i = k
      · subst q; rw [if_pos rfl, if_pos (by omega)]
      · rw [if_neg q, this]
        by_cases q2 : i < k
        · rw [if_pos q2, if_pos (by omega)]
        · rw [if_neg q2, if_neg (by omega)]
    · rw [e63 _ (by omega), f51, e39 _ (by omega), e27 _ (by omega), e39 _ (by omega), e27 _ (by omega), x1 7 (by omega)]
      have := x2 7 (by omega) i
      unfold upd
      by_cases q : i = k
      · subst q; rw [if_pos rfl, if_pos (by omega)]
      · rw [if_neg q, this]
        by_cases q2 : i < k
        · rw [if_pos q2, if_pos (by omega)]
        · rw [if_neg q2, if_neg (by omega)]
    · rw [f63, e51 _ (by omega), e39 _ (by omega), e27 _ (by omega), e51 _ (by omega), e39 _ (by omega), e27 _ (by omega), x1 8 (by omega)]
      have := x2 8 (by omega) i
      unfold upd
      by_cases q : i = k
      · subst q; rw [if_pos rfl, if_pos (by omega)]
      · rw [if_neg q, this]
        by_cases q2 : i < k
        · rw [if_pos q2, if_pos (by omega)]
        · rw [if_neg q2, if_neg (by omega)]
set_option maxRecDepth 20000 in
theorem k_takeWhatMoves (hM : cm_mkt sh hr a) (hO : cm_mkt sh hr b) (hab : a + 10 < b ∨ b + 10 < a)  : cm_ct D mX2_takeWhatMoves d 0 0 [.ref a, .ref b] (sh, hi, hl, hr) (fun r9 h9 => r9 = none ∧ ∃ H, h9 = (sh, H, hl, hr) ∧ twOk hi a b 6 H) := by
  refine cm_ct_of (ls := [some (.ref a), some (.ref b), none]) 1 (by decide +kernel) rfl rfl ?_
  refine cm_aload0 (pc := 0) dX2_takeWhatMoves_0 ?_
  refine cm_aload1 (pc := 1) dX2_takeWhatMoves_1 ?_
  refine cm_getI (pc := 2) flX2_46 dX2_takeWhatMoves_2 hO.1 ?_
  refine cm_putI (pc := 5) fpX2_46 dX2_takeWhatMoves_5 hM.1 ?_
  refine cm_memG (fun G5 e5 f5 => ?_)
  refine cm_iconst (pc := 8) (v := 0) dX2_takeWhatMoves_8 (by decide) ?_
  refine cm_istore2 (pc := 9) dX2_takeWhatMoves_9 (by decide) rfl ?_
  exact l_twm hM hO hab 6 0 (by omega) G5 ⟨fun c h0 _ _ _ _ => e5 c h0, f5, fun c hc i => by rw [e5 _ (by omega), if_neg (by omega)]⟩
set_option maxRecDepth 20000 in
theorem k_take (hM : cm_mkt sh hr a) (hO : cm_mkt sh hr b) (hab : a + 10 < b ∨ b + 10 < a)  : cm_ct D mX2_take (d + 1) 0 0 [.ref a, .ref b] (sh, hi, hl, hr) (fun r9 h9 => r9 = none ∧ ∃ H, h9 = (sh, H, hl, hr) ∧ tkOk hi a b H) := by
  refine cm_ct_of (ls := [some (.ref a), some (.ref b)]) 0 (by decide +kernel) rfl rfl ?_
  refine cm_aload0 (pc := 0) dX2_take_0 ?_
  refine cm_aload1 (pc := 1) dX2_take_1 ?_
  refine cm_getI (pc := 2) flX2_42 dX2_take_2 hO.1 ?_
  refine cm_putI (pc := 5) fpX2_42 dX2_take_5 hM.1 ?_
  refine cm_memG (fun G5 e5 f5 => ?_)
  refine cm_aload0 (pc := 8) dX2_take_8 ?_
  refine cm_aload1 (pc := 9) dX2_take_9 ?_
  refine cm_getI (pc := 10) flX2_49 dX2_take_10 hO.1 ?_
  refine cm_putI (pc := 13) fpX2_49 dX2_take_13 hM.1 ?_
  refine cm_memG (fun G13 e13 f13 => ?_)
  refine cm_aload0 (pc := 16) dX2_take_16 ?_
  refine cm_aload1 (pc := 17) dX2_take_17 ?_
  refine cm_getI (pc := 18) flX2_52 dX2_take_18 hO.1 ?_
  refine cm_putI (pc := 21) fpX2_52 dX2_take_21 hM.1 ?_
  refine cm_memG (fun G21 e21 f21 => ?_)
  refine cm_aload1 (pc := 24) dX2_take_24 ?_
  refine cm_getR (pc := 25) flX2_9 dX2_take_25 hO.1 hO.r4 ?_
  refine cm_iconst (pc := 28) (v := 0) dX2_take_28 (by decide) ?_
  refine cm_aload0 (pc := 29) dX2_take_29 ?_
  refine cm_getR (pc := 30) flX2_9 dX2_take_30 hM.1 hM.r4 ?_
  refine cm_iconst (pc := 33) (v := 0) dX2_take_33 (by decide) ?_
  refine cm_bipush (pc := 34) (v := 6) dX2_take_34 (by decide) ?_
  refine cm_cpyE (pc := 36) (0) (0) (6) acX2_59 dX2_take_36 hO.a1 hM.a1 rfl rfl rfl (by omega) (by omega) (by decide) (by decide) (by omega) (fun G36 e36 f36 => ?_)
  refine cm_aload1 (pc := 39) dX2_take_39 ?_
  refine cm_getR (pc := 40) flX2_15 dX2_take_40 hO.1 hO.r5 ?_
  refine cm_iconst (pc := 43) (v := 0) dX2_take_43 (by decide) ?_
  refine cm_aload0 (pc := 44) dX2_take_44 ?_
  refine cm_getR (pc := 45) flX2_15 dX2_take_45 hM.1 hM.r5 ?_
  refine cm_iconst (pc := 48) (v := 0) dX2_take_48 (by decide) ?_
  refine cm_bipush (pc := 49) (v := 6) dX2_take_49 (by decide) ?_
  refine cm_cpyE (pc := 51) (0) (0) (6) acX2_59 dX2_take_51 hO.a2 hM.a2 rfl rfl rfl (by omega) (by omega) (by decide) (by decide) (by omega) (fun G51 e51 f51 => ?_)
  refine cm_aload1 (pc := 54) dX2_take_54 ?_
  refine cm_getR (pc := 55) flX2_18 dX2_take_55 hO.1 hO.r6 ?_
  refine cm_iconst (pc := 58) (v := 0) dX2_take_58 (by decide) ?_
  refine cm_aload0 (pc := 59) dX2_take_59 ?_
  refine cm_getR (pc := 60) flX2_18 dX2_take_60 hM.1 hM.r6 ?_
  refine cm_iconst (pc := 63) (v := 0) dX2_take_63 (by decide) ?_
  refine cm_bipush (pc := 64) (v := 6) dX2_take_64 (by decide) ?_
  refine cm_cpyE (pc := 66) (0) (0) (6) acX2_59 dX2_take_66 hO.a3 hM.a3 rfl rfl rfl (by omega) (by omega) (by decide) (by decide) (by omega) (fun G66 e66 f66 => ?_)
  refine cm_aload1 (pc := 69) dX2_take_69 ?_
  refine cm_getR (pc := 70) flX2_24 dX2_take_70 hO.1 hO.r8 ?_
  refine cm_iconst (pc := 73) (v := 0) dX2_take_73 (by decide) ?_
  refine cm_aload0 (pc := 74) dX2_take_74 ?_
  refine cm_getR (pc := 75) flX2_24 dX2_take_75 hM.1 hM.r8 ?_
  refine cm_iconst (pc := 78) (v := 0) dX2_take_78 (by decide) ?_
  refine cm_bipush (pc := 79) (v := 6) dX2_take_79 (by decide) ?_
  refine cm_cpyE (pc := 81) (0) (0) (6) acX2_59 dX2_take_81 hO.a5 hM.a5 rfl rfl rfl (by omega) (by omega) (by decide) (by decide) (by omega) (fun G81 e81 f81 => ?_)
  refine cm_aload1 (pc := 84) dX2_take_84 ?_
  refine cm_getR (pc := 85) flX2_36 dX2_take_85 hO.1 hO.r12 ?_
  refine cm_iconst (pc := 88) (v := 0) dX2_take_88 (by decide) ?_
  refine cm_aload0 (pc := 89) dX2_take_89 ?_
  refine cm_getR (pc := 90) flX2_36 dX2_take_90 hM.1 hM.r12 ?_
  refine cm_iconst (pc := 93) (v := 0) dX2_take_93 (by decide) ?_
  refine cm_bipush (pc := 94) (v := 6) dX2_take_94 (by decide) ?_
  refine cm_cpyE (pc := 96) (0) (0) (6) acX2_59 dX2_take_96 hO.a9 hM.a9 rfl rfl rfl (by omega) (by omega) (by decide) (by decide) (by omega) (fun G96 e96 f96 => ?_)
  refine cm_aload1 (pc := 99) dX2_take_99 ?_
  refine cm_getR (pc := 100) flX2_39 dX2_take_100 hO.1 hO.r13 ?_
  refine cm_iconst (pc := 103) (v := 0) dX2_take_103 (by decide) ?_
  refine cm_aload0 (pc := 104) dX2_take_104 ?_
  refine cm_getR (pc := 105) flX2_39 dX2_take_105 hM.1 hM.r13 ?_
  refine cm_iconst (pc := 108) (v := 0) dX2_take_108 (by decide) ?_
  refine cm_aload0 (pc := 109) dX2_take_109 ?_
  refine cm_getR (pc := 110) flX2_39 dX2_take_110 hM.1 hM.r13 ?_
  refine cm_alen (pc := 113) dX2_take_113 hM.a10 ?_
  refine cm_cpyE (pc := 114) (0) (0) (200) acX2_59 dX2_take_114 hO.a10 hM.a10 rfl rfl rfl (by omega) (by omega) (by decide) (by decide) (by omega) (fun G114 e114 f114 => ?_)
  refine cm_aload0 (pc := 117) dX2_take_117 ?_
  refine cm_aload1 (pc := 118) dX2_take_118 ?_
  refine cm_V1 (pc := 119) mX2_takeWhatMoves_v mlX2_65 dX2_take_119 hM.1 (by omega) (Nat.le_of_ble_eq_true rfl) (Nat.le_refl _) (Nat.le_refl _) (k_takeWhatMoves (d := d) hM hO hab) (fun r119 h119 q119 => ?_)
  obtain ⟨rfl, H119, rfl, t119⟩ := q119
  refine cm_vret (pc := 122) dX2_take_122 rfl ⟨rfl, H119, rfl, ⟨fun c hc => by rw [t119.1 c (by omega) (by omega) (by omega) (by omega) (by omega), e114 c (by omega), e96 c (by omega), e81 c (by omega), e66 c (by omega), e51 c (by omega), e36 c (by omega), e21 c (by omega), e13 c (by omega), e5 c (by omega)], ?_, ?_, ?_⟩⟩
  · rw [t119.2.1, e114 a (by omega), e96 a (by omega), e81 a (by omega), e66 a (by omega), e51 a (by omega), e36 a (by omega), f21, f13, f5, e114 b (by omega), e96 b (by omega), e81 b (by omega), e66 b (by omega), e51 b (by omega), e36 b (by omega), e21 b (by omega), e13 b (by omega), e5 b (by omega)]
    simp [upd]
  · intro c h1 h9 i hi6
    have hc : c = 1 ∨ c = 2 ∨ c = 3 ∨ c = 5 ∨ c = 9 ∨ (c = 4 ∨ c = 6 ∨ c = 7 ∨ c = 8) := by omega
    rcases hc with rfl | rfl | rfl | rfl | rfl | hc
    · rw [t119.1 _ (by omega) (by omega) (by omega) (by omega) (by omega), e114 _ (by omega), e96 _ (by omega), e81 _ (by omega), e66 _ (by omega), e51 _ (by omega), f36]
      simp only [Nat.zero_add, Nat.zero_le, true_and, Nat.sub_zero]
      rw [if_pos hi6, e21 _ (by omega), e13 _ (by omega), e5 _ (by omega)]
    · rw [t119.1 _ (by omega) (by omega) (by omega) (by omega) (by omega), e114 _ (by omega), e96 _ (by omega), e81 _ (by omega), e66 _ (by omega), f51]
      simp only [Nat.zero_add, Nat.zero_le, true_and, Nat.sub_zero]
      rw [if_pos hi6, e36 _ (by omega), e21 _ (by omega), e13 _ (by omega), e5 _ (by omega)]
    · rw [t119.1 _ (by omega) (by omega) (by omega) (by omega) (by omega), e114 _ (by omega), e96 _ (by omega), e81 _ (by omega), f66]
      simp only [Nat.zero_add, Nat.zero_le, true_and, Nat.sub_zero]
      rw [if_pos hi6, e51 _ (by omega), e36 _ (by omega), e21 _ (by omega), e13 _ (by omega), e5 _ (by omega)]
    · rw [t119.1 _ (by omega) (by omega) (by omega) (by omega) (by omega), e114 _ (by omega), e96 _ (by omega), f81]
      simp only [Nat.zero_add, Nat.zero_le, true_and, Nat.sub_zero]
      rw [if_pos hi6, e66 _ (by omega), e51 _ (by omega), e36 _ (by omega), e21 _ (by omega), e13 _ (by omega), e5 _ (by omega)]
    · rw [t119.1 _ (by omega) (by omega) (by omega) (by omega) (by omega), e114 _ (by omega), f96]
      simp only [Nat.zero_add, Nat.zero_le, true_and, Nat.sub_zero]
      rw [if_pos hi6, e81 _ (by omega), e66 _ (by omega), e51 _ (by omega), e36 _ (by omega), e21 _ (by omega), e13 _ (by omega), e5 _ (by omega)]
    · rw [t119.2.2 c hc, if_pos hi6, e114 _ (by omega), e96 _ (by omega), e81 _ (by omega), e66 _ (by omega), e51 _ (by omega), e36 _ (by omega), e21 _ (by omega), e13 _ (by omega), e5 _ (by omega)]
  · intro i hi6
    rw [t119.1 _ (by omega) (by omega) (by omega) (by omega) (by omega), f114]
    simp only [Nat.zero_add, Nat.zero_le, true_and, Nat.sub_zero]
    rw [if_pos hi6, e96 _ (by omega), e81 _ (by omega), e66 _ (by omega), e51 _ (by omega), e36 _ (by omega), e21 _ (by omega), e13 _ (by omega), e5 _ (by omega)]
end MT
