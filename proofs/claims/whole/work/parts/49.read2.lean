/-! PART read2: the reader's whole reading; the history -/
theorem cm_mkt.congr {sh : List cm_Sh} {hr hr' : Nat → Nat → Option Nat} {a : Nat} (h : cm_mkt sh hr a) (e : hr' a = hr a) : cm_mkt sh hr' a := by
  unfold cm_mkt at *
  rw [e]
  exact h
theorem cm_str.congr {sh : List cm_Sh} {hr hr' : Nat → Nat → Option Nat} {a n : Nat} (h : cm_str sh hr a n) (e : hr' a = hr a) : cm_str sh hr' a n := by
  unfold cm_str at *
  rw [e]
  exact h
theorem cm_mdl.congr {sh : List cm_Sh} {hr hr' : Nat → Nat → Option Nat} {a : Nat} (h : cm_mdl sh hr a) (e : hr' a = hr a) : cm_mdl sh hr' a := by
  unfold cm_mdl at *
  rw [e]
  exact h
/-- only the reader's source may be another -/
def hrOk (hr hr' : Nat → Nat → Option Nat) : Prop := (∀ a, a ≠ 19 → hr' a = hr a) ∧ hr' 19 0 = hr 19 0
theorem hrOk.rfl' {hr : Nat → Nat → Option Nat} : hrOk hr hr := ⟨fun _ _ => rfl, rfl⟩
theorem hrOk.trans {hr hr' hr'' : Nat → Nat → Option Nat} (h : hrOk hr hr') (h2 : hrOk hr' hr'') : hrOk hr hr'' := ⟨fun a ha => by rw [h2.1 a ha, h.1 a ha], by rw [h2.2, h.2]⟩
theorem cm_cls.congr {sh : List cm_Sh} {hr hr' : Nat → Nat → Option Nat} (h : cm_cls sh hr) (hk : hrOk hr hr') : cm_cls sh hr' := by
  obtain ⟨he, h0⟩ := hk
  exact ⟨h.ox, (by rw [he _ (by decide)]; exact h.r0), h.a3, (by rw [he _ (by decide)]; exact h.r1), h.a4, (by rw [he _ (by decide)]; exact h.r2), (h.mp.congr (he _ (by decide))), (by rw [he _ (by decide)]; exact h.r3), h.a16, (by rw [he _ (by decide)]; exact h.r4), h.oh, (by rw [he _ (by decide)]; exact h.rh), h.a18, (by rw [he _ (by decide)]; exact h.r5), h.od, (by rw [h0]; exact h.rd), (h.mi.congr (he _ (by decide))), (by rw [he _ (by decide)]; exact h.r6), h.of, (by rw [he _ (by decide)]; exact h.rf0), (h.mf.congr (he _ (by decide))), (by rw [he _ (by decide)]; exact h.rf1), h.a45, (by rw [he _ (by decide)]; exact h.rf2), h.a46, (by rw [he _ (by decide)]; exact h.r7), h.ot, (by rw [he _ (by decide)]; exact h.rt0), (h.mt.congr (he _ (by decide))), (by rw [he _ (by decide)]; exact h.rt1), h.a59, (by rw [he _ (by decide)]; exact h.r8), h.a60, (fun r hr6 => ⟨by rw [he _ (by decide)]; exact (h.row r hr6).1, (h.row r hr6).2.congr (he _ (by omega))⟩), (fun r hr6 => ⟨by rw [he _ (by decide)]; exact (h.txt r hr6).1, (h.txt r hr6).2.congr (he _ (by omega))⟩), (fun r hr6 => ⟨by rw [he _ (by decide)]; exact (h.kpt r hr6).1, (h.kpt r hr6).2.congr (he _ (by omega))⟩)⟩
theorem cm_g_imp {D : cm_D} {M : cm_M} {d rc rs : Nat} {Q Q' : Option Value → cm_H → Prop} {cells slots pc : Nat} {ls : List (Option Value)} {st : List Value} {h : cm_H} (hq : ∀ r h', Q r h' → Q' r h') (k : cm_g D M d rc rs Q cells slots pc ls st h) : cm_g D M d rc rs Q' cells slots pc ls st h := by
  intro p l e R s m args below meth c H locs lsA E hP hK hS hl T hT X
  obtain ⟨t, st9, o, h1, h2, h3, h4⟩ := k p l e R s m args below meth c H locs lsA E hP hK hS hl T hT X
  obtain ⟨⟨r, h', g1, g2, g3⟩, g4⟩ := h3
  exact ⟨t, st9, o, h1, h2, ⟨⟨r, h', g1, hq r h' g2, g3⟩, g4⟩, h4⟩
theorem isW_nn {m n : Nat} (h : m < n) (hn : n < 2 ^ 31) : isW (nI m) (nI n) = true := isW_z.mpr (by rw [nI_toInt (by omega), nI_toInt hn]; omega)
theorem isW_no {m n : Nat} (h : n ≤ m) (hn : m < 2 ^ 31) : isW (nI m) (nI n) = false := by
  cases hq : isW (nI m) (nI n) with
  | false => rfl
  | true => exact absurd (isW_z.mp hq) (by rw [nI_toInt hn, nI_toInt (show n < 2 ^ 31 by omega)]; omega)
theorem aRep_0 {g : cm_g2} (h : g 0 0 = 0 ∧ g 0 1 = 0 ∧ g 0 2 = 0 ∧ g 0 3 = 0) : aRep pA0 g := ⟨⟨h.1, h.2.1, h.2.2.1, h.2.2.2, Nat.zero_le _, Nat.zero_le _⟩, fun k hk => absurd hk (Nat.not_lt_zero _), fun k hk => absurd hk (Nat.not_lt_zero _), fun k _ hk => absurd hk (Nat.not_lt_zero _)⟩
section RD4
variable {D : cm_D} {d : Nat} {sh : List cm_Sh} {hi : cm_g2} {hl : Nat → Nat → Int64} {hr : Nat → Nat → Option Nat} {nb ns s n pos : Nat} {w : Option Nat} {f : Nat → Int32} {A : pA}
set_option maxRecDepth 20000 in
set_option maxHeartbeats 1000000 in
theorem t_read (hX : cm_cls sh hr) (hSrc : hr 19 1 = some s) (hS : cm_str sh hr s 80) (h73 : 73 ≤ s) (hx : rT hi s n f) (hn : n ≤ 80) : cm_g D mX3_read (d + 7) 0 0 (fun r9 h9 => ∃ H, h9 = (sh, H, hl, hr) ∧ (∀ c, c < 19 ∨ 30 < c → H c = hi c) ∧ rFin n H r9 (pClass (pC f n) n)) 0 0 5 [some (.ref 19), some (.ref s), none] [] (sh, hi, hl, hr) := by
  refine cm_aload0 (pc := 5) dX3_read_5 ?_
  refine cm_iconst (pc := 6) (v := 0) dX3_read_6 (by decide) ?_
  refine cm_putI (pc := 7) fpX3_27 dX3_read_7 hX.od ?_
  refine cm_memG (fun G7 e7 f7 => ?_)
  refine cm_aload0 (pc := 10) dX3_read_10 ?_
  refine cm_bipush (pc := 11) (v := -9) dX3_read_11 (by decide) ?_
  refine cm_putI (pc := 13) fpX3_31 dX3_read_13 hX.od ?_
  refine cm_memG (fun G13 e13 f13 => ?_)
  have r13 : rS G13 0 none := ⟨by rw [f13]; simp only [upd]; rw [if_neg (by decide), f7]; simp [upd, nI_0], by rw [f13]; simp [upd, wI]⟩
  have t13 : ∀ c, c ≠ 19 → G13 c = hi c := fun c hc => by rw [e13 c hc, e7 c hc]
  refine cm_aload0 (pc := 16) dX3_read_16 ?_
  refine cm_getR (pc := 17) flX3_12 dX3_read_17 hX.od hX.rd ?_
  refine cm_V0 (pc := 20) mX2_clear_v mlX3_34 dX3_read_20 hX.mi.1 (by omega) (Nat.le_of_ble_eq_true rfl) (Nat.le_refl _) (Nat.le_refl _) (cm_ct_us _ (k_clear (d := d + 6) hX.mi)) (fun r20 h20 hq20 => ?_)
  obtain ⟨rfl, rfl⟩ := hq20
  refine cm_usG (fun G20 e20 f20 => ?_)
  have t20 : ∀ c, c ≠ 19 → c ≠ 20 → G20 c = hi c := by
    intro c h1 h2
    rcases Nat.lt_or_ge c 20 with q | q
    · rw [e20 c q, t13 c h1]
    · have h9 := f20 (c - 20)
      rw [show 20 + (c - 20) = c by omega, va_up_ne _ _ (by omega)] at h9
      rw [h9]
      show G13 (20 + (c - 20)) = _
      rw [show 20 + (c - 20) = c by omega, t13 c h1]
  have F20 : ∀ c, c < 19 ∨ 30 < c → G20 c = hi c := fun c hc => t20 c (by omega) (by omega)
  have x20 := hx.keep h73 F20
  have r20 : rS G20 0 none := ⟨by rw [e20 19 (by decide)]; exact r13.1, by rw [e20 19 (by decide)]; exact r13.2⟩
  have a20 : aRep pA0 (cm_sf G20 20) := aRep_0 (by
    show G20 (20 + 0) 0 = 0 ∧ G20 (20 + 0) 1 = 0 ∧ G20 (20 + 0) 2 = 0 ∧ G20 (20 + 0) 3 = 0
    rw [f20 0, va_up_self]
    simp [upd])
  have n20 : ∀ p : Nat, none = some p → p ≤ n := fun p h => by cases h
  refine cm_aload0 (pc := 23) dX3_read_23 ?_
  refine cm_V0 (pc := 24) mX3_skipBlanks_v mlX3_37 dX3_read_24 hX.od (by omega) (Nat.le_of_ble_eq_true rfl) (Nat.le_refl _) (Nat.le_refl _) (k_sk hX (d := d + 3) (w := none) (pos := 0) hSrc hS h73 x20 hn r20 (Nat.zero_le _) n20) (fun r24 h24 hq24 => ?_)
  obtain ⟨rfl, H24, rfl, F24, R24⟩ := hq24
  have x24 := x20.keep h73 (fr19 F24)
  have L24 : (pSkip (pC f n) 80 0) ≤ n := (pSkip_le (f := f) (n := n) 80 0 (Nat.zero_le _)).2
  refine cm_aload0 (pc := 27) dX3_read_27 ?_
  refine cm_bipush (pc := 28) (v := 103) dX3_read_28 (by decide) ?_
  refine cm_bipush (pc := 30) (v := 103) dX3_read_30 (by decide) ?_
  refine cm_V2 (pc := 32) mX3_take_v mlX3_40 dX3_read_32 hX.od (by omega) (Nat.le_of_ble_eq_true rfl) (Nat.le_refl _) (Nat.le_refl _) (k_tk hX (d := d + 3) hSrc hS h73 x24 hn R24 L24 n20) (fun r32 h32 hq32 => ?_)
  obtain ⟨rfl, H32, rfl, F32, R32⟩ := hq32
  have x32 := x24.keep h73 (fr19 F32)
  have L32 := pTk_le (f := f) (n := n) (pos := (pSkip (pC f n) 80 0)) (a := 103) (b := 103) (w := none) L24 (by decide) n20
  refine cm_pop (pc := 35) dX3_read_35 rfl ?_
  refine cm_aload0 (pc := 36) dX3_read_36 ?_
  refine cm_getR (pc := 37) flX3_12 dX3_read_37 hX.od hX.rd ?_
  refine cm_iconst (pc := 40) (v := 1) dX3_read_40 (by decide) ?_
  refine cm_aload0 (pc := 41) dX3_read_41 ?_
  refine cm_bipush (pc := 42) (v := 49) dX3_read_42 (by decide) ?_
  refine cm_bipush (pc := 44) (v := 52) dX3_read_44 (by decide) ?_
  refine cm_V2 (pc := 46) mX3_take_v mlX3_40 dX3_read_46 hX.od (by omega) (Nat.le_of_ble_eq_true rfl) (Nat.le_refl _) (Nat.le_refl _) (k_tk hX (d := d + 3) hSrc hS h73 x32 hn R32 L32.1 L32.2) (fun r46 h46 hq46 => ?_)
  obtain ⟨rfl, H46, rfl, F46, R46⟩ := hq46
  have x46 := x32.keep h73 (fr19 F46)
  have L46 := pTk_le (f := f) (n := n) (pos := (pTk (pC f n) 103 103 (pSkip (pC f n) 80 0) none).2.1) (a := 49) (b := 52) (w := (pTk (pC f n) 103 103 (pSkip (pC f n) 80 0) none).2.2) L32.1 (by decide) L32.2
  refine cm_iadd (pc := 49) dX3_read_49 ?_
  refine cm_putI (pc := 50) fpX3_44 dX3_read_50 hX.mi.1 ?_
  refine cm_memG (fun G50 e50 f50 => ?_)
  have t46 : ∀ c, c ≠ 19 → H46 c = G20 c := fun c hc => by rw [F46 c hc, F32 c hc, F24 c hc]
  have F50 : ∀ c, c < 19 ∨ 30 < c → G50 c = hi c := fun c hc => by rw [e50 c (by omega), t46 c (by omega), F20 c hc]
  have x50 := hx.keep h73 F50
  have r50 : rS G50 (pTk (pC f n) 49 52 (pTk (pC f n) 103 103 (pSkip (pC f n) 80 0) none).2.1 (pTk (pC f n) 103 103 (pSkip (pC f n) 80 0) none).2.2).2.1 (pTk (pC f n) 49 52 (pTk (pC f n) 103 103 (pSkip (pC f n) 80 0) none).2.1 (pTk (pC f n) 103 103 (pSkip (pC f n) 80 0) none).2.2).2.2 := ⟨by rw [e50 19 (by decide)]; exact R46.1, by rw [e50 19 (by decide)]; exact R46.2⟩
  have a50 : aRep (1 + (pTk (pC f n) 49 52 (pTk (pC f n) 103 103 (pSkip (pC f n) 80 0) none).2.1 (pTk (pC f n) 103 103 (pSkip (pC f n) 80 0) none).2.2).1, pA0.2) (cm_sf G50 20) := by
    have e0 : cm_sf G50 20 0 = upd (cm_sf G20 20 0) 0 (1 + (pTk (pC f n) 49 52 (pTk (pC f n) 103 103 (pSkip (pC f n) 80 0) none).2.1 (pTk (pC f n) 103 103 (pSkip (pC f n) 80 0) none).2.2).1) := by
      show G50 20 = _
      rw [f50, t46 20 (by decide)]
      rfl
    refine ⟨⟨by rw [e0]; simp [upd], by rw [e0]; simpa [upd] using a20.1.2.1, by rw [e0]; simpa [upd] using a20.1.2.2.1, by rw [e0]; simpa [upd] using a20.1.2.2.2.1, Nat.zero_le _, Nat.zero_le _⟩, fun k hk => absurd hk (Nat.not_lt_zero _), fun k hk => absurd hk (Nat.not_lt_zero _), fun k _ hk => absurd hk (Nat.not_lt_zero _)⟩
  refine cm_aload0 (pc := 53) dX3_read_53 ?_
  refine cm_V0 (pc := 54) mX3_skipBlanks_v mlX3_37 dX3_read_54 hX.od (by omega) (Nat.le_of_ble_eq_true rfl) (Nat.le_refl _) (Nat.le_refl _) (k_sk hX (d := d + 3) hSrc hS h73 x50 hn r50 L46.1 L46.2) (fun r54 h54 hq54 => ?_)
  obtain ⟨rfl, H54, rfl, F54, R54⟩ := hq54
  refine cm_iconst (pc := 57) (v := 0) dX3_read_57 (by decide) ?_
  refine cm_istore2 (pc := 58) dX3_read_58 (by decide) rfl ?_
  have F54t : ∀ c, c < 19 ∨ 30 < c → H54 c = hi c := fun c hc => by rw [F54 c (by omega), F50 c hc]
  have hpc : pClass (pC f n) n = match (pTk (pC f n) 49 52 (pTk (pC f n) 103 103 (pSkip (pC f n) 80 0) none).2.1 (pTk (pC f n) 103 103 (pSkip (pC f n) 80 0) none).2.2).2.2 with
      | some p => .error p
      | none => pCls (pC f n) n 80 (pSkip (pC f n) 80 (pTk (pC f n) 49 52 (pTk (pC f n) 103 103 (pSkip (pC f n) 80 0) none).2.1 (pTk (pC f n) 103 103 (pSkip (pC f n) 80 0) none).2.2).2.1) (1 + (pTk (pC f n) 49 52 (pTk (pC f n) 103 103 (pSkip (pC f n) 80 0) none).2.1 (pTk (pC f n) 103 103 (pSkip (pC f n) 80 0) none).2.2).1, pA0.2) := by
    unfold pClass
    rw [pHead_tk]
    cases (pTk (pC f n) 49 52 (pTk (pC f n) 103 103 (pSkip (pC f n) 80 0) none).2.1 (pTk (pC f n) 103 103 (pSkip (pC f n) 80 0) none).2.2).2.2 <;> rfl
  cases hw : (pTk (pC f n) 49 52 (pTk (pC f n) 103 103 (pSkip (pC f n) 80 0) none).2.1 (pTk (pC f n) 103 103 (pSkip (pC f n) 80 0) none).2.2).2.2 with
  | some p9 =>
    rw [hw] at hpc R54
    exact l_bad hX (k := 0) hSrc hS h73 hn F54t R54 (L46.2 p9 hw) hpc
  | none =>
    rw [hw] at hpc R54
    have hle := pSkip_le (f := f) (n := n) 80 (pTk (pC f n) 49 52 (pTk (pC f n) 103 103 (pSkip (pC f n) 80 0) none).2.1 (pTk (pC f n) 103 103 (pSkip (pC f n) 80 0) none).2.2).2.1 L46.1
    exact l_rmain hX hSrc hS h73 hn 80 0 (by omega) _ _ H54 F54t (hx.keep h73 F54t) R54 hle.2 (by rw [show cm_sf H54 20 = cm_sf G50 20 from funext (fun c => F54 (20 + c) (by omega))]; exact a50) hpc
set_option maxRecDepth 20000 in
theorem k_read (hX : cm_cls sh hr) (hS : cm_str sh hr s 80) (h73 : 73 ≤ s) (hx : rT hi s n f) (hn : n ≤ 80) : cm_ct D mX3_read (d + 7) 0 0 [.ref 19, .ref s] (sh, hi, hl, hr) (fun r9 h9 => ∃ H hr9, h9 = (sh, H, hl, hr9) ∧ hrOk hr hr9 ∧ (∀ c, c < 19 ∨ 30 < c → H c = hi c) ∧ rFin n H r9 (pRun (pC f n) n n 0 pA0)) := by
  refine cm_ct_of (ls := [some (.ref 19), some (.ref s), none]) 1 (by decide +kernel) rfl rfl ?_
  refine cm_aload0 (pc := 0) dX3_read_0 ?_
  refine cm_aload1 (pc := 1) dX3_read_1 ?_
  refine cm_putR (pc := 2) fpX3_23 dX3_read_2 hX.od ?_
  have hk : hrOk hr (va_up hr 19 (va_up (hr 19) 1 (some s))) := ⟨fun a ha => va_up_ne _ _ ha, by rw [va_up_self, va_up_ne _ _ (by decide)]⟩
  generalize hg : va_up hr 19 (va_up (hr 19) 1 (some s)) = hr9 at *
  have hs9 : hr9 19 1 = some s := by rw [← hg, va_up_self, va_up_self]
  have k9 := t_read (D := D) (d := d) (hl := hl) (hX.congr hk) hs9 (hS.congr (hk.1 _ (by omega))) h73 hx hn
  rw [pClass_run hn] at k9
  exact cm_g_imp (fun r h q => by obtain ⟨H, q1, q2, q3⟩ := q; exact ⟨H, hr9, q1, hk, q2, q3⟩) k9
set_option maxRecDepth 20000 in
theorem k_first (hX : cm_cls sh hr)  : cm_ct D mX1_first d 0 0 [.ref 17] (sh, hi, hl, hr) (fun r9 h9 => r9 = some (.int (hi 17 1)) ∧ h9 = (sh, hi, hl, hr)) := by
  refine cm_ct_of (ls := [some (.ref 17)]) 0 (by decide +kernel) rfl rfl ?_
  refine cm_aload0 (pc := 0) dX1_first_0 ?_
  refine cm_getI (pc := 1) flX1_15 dX1_first_1 hX.oh ?_
  exact cm_iret (pc := 4) dX1_first_4 rfl ⟨rfl, rfl⟩
set_option maxRecDepth 20000 in
theorem k_beginAt (hX : cm_cls sh hr) {x : Int32} : cm_ct D mX1_beginAt d 0 0 [.ref 17, .int x] (sh, hi, hl, hr) (fun r9 h9 => r9 = none ∧ ∃ H, h9 = (sh, H, hl, hr) ∧ (∀ c, c ≠ 17 → H c = hi c) ∧ H 17 = upd (hi 17) 1 x) := by
  refine cm_ct_of (ls := [some (.ref 17), some (.int x)]) 0 (by decide +kernel) rfl rfl ?_
  refine cm_aload0 (pc := 0) dX1_beginAt_0 ?_
  refine cm_iload1 (pc := 1) dX1_beginAt_1 ?_
  refine cm_putI (pc := 2) fpX1_15 dX1_beginAt_2 hX.oh ?_
  refine cm_memG (fun G2 e2 f2 => ?_)
  exact cm_vret (pc := 5) dX1_beginAt_5 rfl ⟨rfl, G2, rfl, e2, f2⟩
def svOk (hi H : cm_g2) (a m : Nat) : Prop := (∀ c, c ≠ 18 → H c = hi c) ∧ ∀ x, H 18 x = if 24 * m ≤ x ∧ x < 24 * m + 24 then (if x < 24 * m + 6 then hi (a + 6) (x - 24 * m) else if x < 24 * m + 12 then hi (a + 7) (x - (24 * m + 6)) else if x < 24 * m + 18 then hi (a + 8) (x - (24 * m + 12)) else hi (a + 4) (x - (24 * m + 18))) else hi 18 x
set_option maxRecDepth 20000 in
theorem k_save (hX : cm_cls sh hr) {a m : Nat} (hM : cm_mkt sh hr a) (ha : a ≠ 18 ∧ a + 4 ≠ 18 ∧ a + 6 ≠ 18 ∧ a + 7 ≠ 18 ∧ a + 8 ≠ 18) (hm : m < 60) (hmm : hi a 1 = nI m) : cm_ct D mX1_save (d + 1) 0 0 [.ref 17, .ref a] (sh, hi, hl, hr) (fun r9 h9 => r9 = none ∧ ∃ H, h9 = (sh, H, hl, hr) ∧ svOk hi H a m) := by
  refine cm_ct_of (ls := [some (.ref 17), some (.ref a), none]) 1 (by decide +kernel) rfl rfl ?_
  refine cm_aload1 (pc := 0) dX1_save_0 ?_
  refine cm_getI (pc := 1) flX1_19 dX1_save_1 hM.1 ?_
  rw [hmm]
  refine cm_bipush (pc := 4) (v := 60) dX1_save_4 (by decide) ?_
  refine cm_S2 (pc := 6) mX6_isWithin_s mlX1_24 dX1_save_6 (by omega) (Nat.le_of_ble_eq_true rfl) (Nat.le_refl _) (Nat.le_refl _) (k_isWithin (d := d) ) (fun r6 h6 hq6 => ?_)
  obtain ⟨rfl, rfl⟩ := hq6
  refine cm_ifneB (pc := 9) (tgt := 13) dX1_save_9 (by decide) (fun c9 => ?_) (fun c9 => ?_)
  · refine cm_aload1 (pc := 13) dX1_save_13 ?_
    refine cm_getI (pc := 14) flX1_19 dX1_save_14 hM.1 ?_
    rw [hmm]
    refine cm_bipush (pc := 17) (v := 24) dX1_save_17 (by decide) ?_
    refine cm_imul (pc := 19) dX1_save_19 ?_
    rw [(show nI m * 24 = nI (24 * m) by rw [show (24 : Int32) = nI 24 from rfl, pk_mul, Nat.mul_comm])]
    refine cm_istore2 (pc := 20) dX1_save_20 (by decide) rfl ?_
    refine cm_aload1 (pc := 21) dX1_save_21 ?_
    refine cm_getR (pc := 22) flX1_28 dX1_save_22 hM.1 hM.r9 ?_
    refine cm_iconst (pc := 25) (v := 0) dX1_save_25 (by decide) ?_
    refine cm_aload0 (pc := 26) dX1_save_26 ?_
    refine cm_getR (pc := 27) flX1_11 dX1_save_27 hX.oh hX.rh ?_
    refine cm_iload2 (pc := 30) dX1_save_30 ?_
    refine cm_bipush (pc := 31) (v := 6) dX1_save_31 (by decide) ?_
    refine cm_cpyE (pc := 33) (0) (24 * m) (6) acX1_31 dX1_save_33 hM.a6 hX.a18 rfl rfl rfl (by omega) (by omega) (by decide) (by decide) (by omega) (fun G33 e33 f33 => ?_)
    refine cm_aload1 (pc := 36) dX1_save_36 ?_
    refine cm_getR (pc := 37) flX1_37 dX1_save_37 hM.1 hM.r10 ?_
    refine cm_iconst (pc := 40) (v := 0) dX1_save_40 (by decide) ?_
    refine cm_aload0 (pc := 41) dX1_save_41 ?_
    refine cm_getR (pc := 42) flX1_11 dX1_save_42 hX.oh hX.rh ?_
    refine cm_iload2 (pc := 45) dX1_save_45 ?_
    refine cm_bipush (pc := 46) (v := 6) dX1_save_46 (by decide) ?_
    refine cm_iadd (pc := 48) dX1_save_48 ?_
    rw [(show nI (24 * m) + 6 = nI (24 * m + 6) by rw [show (6 : Int32) = nI 6 from rfl, nI_add])]
    refine cm_bipush (pc := 49) (v := 6) dX1_save_49 (by decide) ?_
    refine cm_cpyE (pc := 51) (0) (24 * m + 6) (6) acX1_31 dX1_save_51 hM.a7 hX.a18 rfl rfl rfl (by omega) (by omega) (by decide) (by decide) (by omega) (fun G51 e51 f51 => ?_)
    refine cm_aload1 (pc := 54) dX1_save_54 ?_
    refine cm_getR (pc := 55) flX1_40 dX1_save_55 hM.1 hM.r11 ?_
    refine cm_iconst (pc := 58) (v := 0) dX1_save_58 (by decide) ?_
    refine cm_aload0 (pc := 59) dX1_save_59 ?_
    refine cm_getR (pc := 60) flX1_11 dX1_save_60 hX.oh hX.rh ?_
    refine cm_iload2 (pc := 63) dX1_save_63 ?_
    refine cm_bipush (pc := 64) (v := 12) dX1_save_64 (by decide) ?_
    refine cm_iadd (pc := 66) dX1_save_66 ?_
    rw [(show nI (24 * m) + 12 = nI (24 * m + 12) by rw [show (12 : Int32) = nI 12 from rfl, nI_add])]
    refine cm_bipush (pc := 67) (v := 6) dX1_save_67 (by decide) ?_
    refine cm_cpyE (pc := 69) (0) (24 * m + 12) (6) acX1_31 dX1_save_69 hM.a8 hX.a18 rfl rfl rfl (by omega) (by omega) (by decide) (by decide) (by omega) (fun G69 e69 f69 => ?_)
    refine cm_aload1 (pc := 72) dX1_save_72 ?_
    refine cm_getR (pc := 73) flX1_43 dX1_save_73 hM.1 hM.r7 ?_
    refine cm_iconst (pc := 76) (v := 0) dX1_save_76 (by decide) ?_
    refine cm_aload0 (pc := 77) dX1_save_77 ?_
    refine cm_getR (pc := 78) flX1_11 dX1_save_78 hX.oh hX.rh ?_
    refine cm_iload2 (pc := 81) dX1_save_81 ?_
    refine cm_bipush (pc := 82) (v := 18) dX1_save_82 (by decide) ?_
    refine cm_iadd (pc := 84) dX1_save_84 ?_
    rw [(show nI (24 * m) + 18 = nI (24 * m + 18) by rw [show (18 : Int32) = nI 18 from rfl, nI_add])]
    refine cm_bipush (pc := 85) (v := 6) dX1_save_85 (by decide) ?_
    refine cm_cpyE (pc := 87) (0) (24 * m + 18) (6) acX1_31 dX1_save_87 hM.a4 hX.a18 rfl rfl rfl (by omega) (by omega) (by decide) (by decide) (by omega) (fun G87 e87 f87 => ?_)
    refine cm_vret (pc := 90) dX1_save_90 rfl ⟨rfl, G87, rfl, fun c hc => by rw [e87 c hc, e69 c hc, e51 c hc, e33 c hc], fun x => ?_⟩
    have h4 : G69 (a + 4) = hi (a + 4) := by rw [e69 _ (by omega), e51 _ (by omega), e33 _ (by omega)]
    have h8 : G51 (a + 8) = hi (a + 8) := by rw [e51 _ (by omega), e33 _ (by omega)]
    have h7 : G33 (a + 7) = hi (a + 7) := by rw [e33 _ (by omega)]
    rw [f87, f69, f51, f33, h4, h8, h7]
    simp only [Nat.zero_add]
    by_cases q : 24 * m ≤ x ∧ x < 24 * m + 24
    · rw [if_pos q]
      by_cases q1 : x < 24 * m + 6
      · rw [if_neg (by omega), if_neg (by omega), if_neg (by omega), if_pos (by omega), if_pos q1]
      · by_cases q2 : x < 24 * m + 12
        · rw [if_neg (by omega), if_neg (by omega), if_pos (by omega), if_neg q1, if_pos q2]
        · by_cases q3 : x < 24 * m + 18
          · rw [if_neg (by omega), if_pos (by omega), if_neg q1, if_neg q2, if_pos q3]
          · rw [if_pos (by omega), if_neg q1, if_neg q2, if_neg q3]
    · rw [if_neg q, if_neg (by omega), if_neg (by omega), if_neg (by omega), if_neg (by omega)]
  · exact absurd (c9.symm.trans (isW_nn (n := 60) hm (by decide))) (by decide)
def gbOk (hi H : cm_g2) (a m : Nat) : Prop := (∀ c, c ≠ a → c ≠ a + 4 → c ≠ a + 6 → c ≠ a + 7 → c ≠ a + 8 → H c = hi c) ∧ H a = upd (hi a) 1 (nI m) ∧ ∀ i, i < 6 → H (a + 6) i = hi 18 (24 * m + i) ∧ H (a + 7) i = hi 18 (24 * m + 6 + i) ∧ H (a + 8) i = hi 18 (24 * m + 12 + i) ∧ H (a + 4) i = hi 18 (24 * m + 18 + i)
set_option maxRecDepth 20000 in
theorem k_goBack (hX : cm_cls sh hr) {a m : Nat} (hM : cm_mkt sh hr a) (ha : a ≠ 18 ∧ a + 4 ≠ 18 ∧ a + 6 ≠ 18 ∧ a + 7 ≠ 18 ∧ a + 8 ≠ 18) (hm : m < 60) : cm_ct D mX1_goBack (d + 1) 0 0 [.ref 17, .ref a, .int (nI m)] (sh, hi, hl, hr) (fun r9 h9 => r9 = none ∧ ∃ H, h9 = (sh, H, hl, hr) ∧ gbOk hi H a m) := by
  refine cm_ct_of (ls := [some (.ref 17), some (.ref a), some (.int (nI m)), none]) 1 (by decide +kernel) rfl rfl ?_
  refine cm_iload2 (pc := 0) dX1_goBack_0 ?_
  refine cm_bipush (pc := 1) (v := 60) dX1_goBack_1 (by decide) ?_
  refine cm_S2 (pc := 3) mX6_isWithin_s mlX1_24 dX1_goBack_3 (by omega) (Nat.le_of_ble_eq_true rfl) (Nat.le_refl _) (Nat.le_refl _) (k_isWithin (d := d) ) (fun r3 h3 hq3 => ?_)
  obtain ⟨rfl, rfl⟩ := hq3
  refine cm_ifneB (pc := 6) (tgt := 10) dX1_goBack_6 (by decide) (fun c6 => ?_) (fun c6 => ?_)
  · refine cm_iload2 (pc := 10) dX1_goBack_10 ?_
    refine cm_bipush (pc := 11) (v := 24) dX1_goBack_11 (by decide) ?_
    refine cm_imul (pc := 13) dX1_goBack_13 ?_
    rw [(show nI m * 24 = nI (24 * m) by rw [show (24 : Int32) = nI 24 from rfl, pk_mul, Nat.mul_comm])]
    refine cm_istore3 (pc := 14) dX1_goBack_14 (by decide) rfl ?_
    refine cm_aload0 (pc := 15) dX1_goBack_15 ?_
    refine cm_getR (pc := 16) flX1_11 dX1_goBack_16 hX.oh hX.rh ?_
    refine cm_iload3 (pc := 19) dX1_goBack_19 ?_
    refine cm_aload1 (pc := 20) dX1_goBack_20 ?_
    refine cm_getR (pc := 21) flX1_28 dX1_goBack_21 hM.1 hM.r9 ?_
    refine cm_iconst (pc := 24) (v := 0) dX1_goBack_24 (by decide) ?_
    refine cm_bipush (pc := 25) (v := 6) dX1_goBack_25 (by decide) ?_
    refine cm_cpyE (pc := 27) (24 * m) (0) (6) acX1_31 dX1_goBack_27 hX.a18 hM.a6 rfl rfl rfl (by omega) (by omega) (by decide) (by decide) (by omega) (fun G27 e27 f27 => ?_)
    refine cm_aload0 (pc := 30) dX1_goBack_30 ?_
    refine cm_getR (pc := 31) flX1_11 dX1_goBack_31 hX.oh hX.rh ?_
    refine cm_iload3 (pc := 34) dX1_goBack_34 ?_
    refine cm_bipush (pc := 35) (v := 6) dX1_goBack_35 (by decide) ?_
    refine cm_iadd (pc := 37) dX1_goBack_37 ?_
    rw [(show nI (24 * m) + 6 = nI (24 * m + 6) by rw [show (6 : Int32) = nI 6 from rfl, nI_add])]
    refine cm_aload1 (pc := 38) dX1_goBack_38 ?_
    refine cm_getR (pc := 39) flX1_37 dX1_goBack_39 hM.1 hM.r10 ?_
    refine cm_iconst (pc := 42) (v := 0) dX1_goBack_42 (by decide) ?_
    refine cm_bipush (pc := 43) (v := 6) dX1_goBack_43 (by decide) ?_
    refine cm_cpyE (pc := 45) (24 * m + 6) (0) (6) acX1_31 dX1_goBack_45 hX.a18 hM.a7 rfl rfl rfl (by omega) (by omega) (by decide) (by decide) (by omega) (fun G45 e45 f45 => ?_)
    refine cm_aload0 (pc := 48) dX1_goBack_48 ?_
    refine cm_getR (pc := 49) flX1_11 dX1_goBack_49 hX.oh hX.rh ?_
    refine cm_iload3 (pc := 52) dX1_goBack_52 ?_
    refine cm_bipush (pc := 53) (v := 12) dX1_goBack_53 (by decide) ?_
    refine cm_iadd (pc := 55) dX1_goBack_55 ?_
    rw [(show nI (24 * m) + 12 = nI (24 * m + 12) by rw [show (12 : Int32) = nI 12 from rfl, nI_add])]
    refine cm_aload1 (pc := 56) dX1_goBack_56 ?_
    refine cm_getR (pc := 57) flX1_40 dX1_goBack_57 hM.1 hM.r11 ?_
    refine cm_iconst (pc := 60) (v := 0) dX1_goBack_60 (by decide) ?_
    refine cm_bipush (pc := 61) (v := 6) dX1_goBack_61 (by decide) ?_
    refine cm_cpyE (pc := 63) (24 * m + 12) (0) (6) acX1_31 dX1_goBack_63 hX.a18 hM.a8 rfl rfl rfl (by omega) (by omega) (by decide) (by decide) (by omega) (fun G63 e63 f63 => ?_)
    refine cm_aload0 (pc := 66) dX1_goBack_66 ?_
    refine cm_getR (pc := 67) flX1_11 dX1_goBack_67 hX.oh hX.rh ?_
    refine cm_iload3 (pc := 70) dX1_goBack_70 ?_
    refine cm_bipush (pc := 71) (v := 18) dX1_goBack_71 (by decide) ?_
    refine cm_iadd (pc := 73) dX1_goBack_73 ?_
    rw [(show nI (24 * m) + 18 = nI (24 * m + 18) by rw [show (18 : Int32) = nI 18 from rfl, nI_add])]
    refine cm_aload1 (pc := 74) dX1_goBack_74 ?_
    refine cm_getR (pc := 75) flX1_43 dX1_goBack_75 hM.1 hM.r7 ?_
    refine cm_iconst (pc := 78) (v := 0) dX1_goBack_78 (by decide) ?_
    refine cm_bipush (pc := 79) (v := 6) dX1_goBack_79 (by decide) ?_
    refine cm_cpyE (pc := 81) (24 * m + 18) (0) (6) acX1_31 dX1_goBack_81 hX.a18 hM.a4 rfl rfl rfl (by omega) (by omega) (by decide) (by decide) (by omega) (fun G81 e81 f81 => ?_)
    refine cm_aload1 (pc := 84) dX1_goBack_84 ?_
    refine cm_iload2 (pc := 85) dX1_goBack_85 ?_
    refine cm_putI (pc := 86) fpX1_19 dX1_goBack_86 hM.1 ?_
    refine cm_memG (fun G86 e86 f86 => ?_)
    refine cm_vret (pc := 89) dX1_goBack_89 rfl ⟨rfl, G86, rfl, fun c h0 h4 h6 h7 h8 => by rw [e86 c h0, e81 c h4, e63 c h8, e45 c h7, e27 c h6], ?_, fun i hi6 => ⟨?_, ?_, ?_, ?_⟩⟩
    · rw [f86, e81 a (by omega), e63 a (by omega), e45 a (by omega), e27 a (by omega)]
    · rw [e86 _ (by omega), e81 _ (by omega), e63 _ (by omega), e45 _ (by omega), f27]
      simp only [Nat.zero_le, true_and, Nat.sub_zero, Nat.zero_add]
      rw [if_pos hi6]
    · rw [e86 _ (by omega), e81 _ (by omega), e63 _ (by omega), f45, e27 _ (by omega)]
      simp only [Nat.zero_le, true_and, Nat.sub_zero, Nat.zero_add]
      rw [if_pos hi6]
    · rw [e86 _ (by omega), e81 _ (by omega), f63, e45 _ (by omega), e27 _ (by omega)]
      simp only [Nat.zero_le, true_and, Nat.sub_zero, Nat.zero_add]
      rw [if_pos hi6]
    · rw [e86 _ (by omega), f81, e63 _ (by omega), e45 _ (by omega), e27 _ (by omega)]
      simp only [Nat.zero_le, true_and, Nat.sub_zero, Nat.zero_add]
      rw [if_pos hi6]
  · exact absurd (c6.symm.trans (isW_nn (n := 60) hm (by decide))) (by decide)
end RD4
