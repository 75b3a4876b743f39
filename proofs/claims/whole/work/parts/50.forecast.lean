/-! PART forecast: minutes aside -/
def mEq (g g' : cm_g2) : Prop := (∀ j, j < 4 → g 0 j = g' 0 j) ∧ (∀ c, 1 ≤ c → c ≤ 9 → ∀ i, i < 6 → g c i = g' c i) ∧ (∀ i, i < 200 → g 10 i = g' 10 i)
def mSt (g g' : cm_g2) : Prop := (g 0 0 = g' 0 0 ∧ g 0 2 = g' 0 2 ∧ g 0 3 = g' 0 3) ∧ (∀ c, c = 1 ∨ c = 2 ∨ c = 3 ∨ c = 5 ∨ c = 9 → ∀ i, i < 6 → g c i = g' c i) ∧ (∀ i, i < 200 → g 10 i = g' 10 i)
theorem mEq.st {g g' : cm_g2} (h : mEq g g') : mSt g g' := ⟨⟨h.1 0 (by decide), h.1 2 (by decide), h.1 3 (by decide)⟩, fun c hc => h.2.1 c (by omega) (by omega), h.2.2⟩
theorem tkOk.eq {hi H : cm_g2} {a b : Nat} (h : tkOk hi a b H) : mEq (cm_sf H a) (cm_sf hi b) := by
  refine ⟨fun j hj => ?_, h.2.2.1, h.2.2.2⟩
  show H (a + 0) j = hi (b + 0) j
  rw [Nat.add_zero, Nat.add_zero]
  have := h.2.1
  have hc : j = 0 ∨ j = 1 ∨ j = 2 ∨ j = 3 := by omega
  rcases hc with rfl | rfl | rfl | rfl
  · exact this.1
  · exact this.2.1
  · exact this.2.2.1
  · exact this.2.2.2
theorem mOk.congr {g g' : cm_g2} {nb ns : Nat} (h : mOk g' nb ns) (e : mEq g g') : mOk g nb ns := by
  have hnb := h.1.2.1
  refine ⟨⟨by rw [e.1 3 (by decide)]; exact h.1.1, h.1.2.1, by rw [e.1 2 (by decide)]; exact h.1.2.2.1, h.1.2.2.2⟩, fun i hi => by rw [e.2.1 6 (by decide) (by decide) i (by omega)]; exact h.2.1 i hi, fun i hi => by rw [e.2.1 7 (by decide) (by decide) i (by omega)]; exact h.2.2.1 i hi, fun i hi => by rw [e.2.1 6 (by decide) (by decide) i (by omega), e.2.1 6 (by decide) (by decide) (i + 1) (by omega)]; exact h.2.2.2.1 i hi, fun x hx => by rw [e.2.2 x hx]; exact h.2.2.2.2 x hx⟩
/-- minutes by winds -/
def mItW (g : cm_g2) (nb ns : Nat) (w : Nat → Int32) : Nat → cm_g2 × Nat
  | 0 => (g, 0)
  | m + 1 => ((mPass (mItW g nb ns w m).1 nb ns (w m)).1, (mItW g nb ns w m).2 + (mPass (mItW g nb ns w m).1 nb ns (w m)).2)
abbrev mIt (g : cm_g2) (nb ns : Nat) (m : Nat) : cm_g2 × Nat := mItW g nb ns (fun _ => 0) m
theorem mOk.itw {g : cm_g2} {nb ns : Nat} {w : Nat → Int32} (h : mOk g nb ns) : ∀ m, mOk (mItW g nb ns w m).1 nb ns
  | 0 => h
  | m + 1 => (mOk.itw h m).pass
theorem mOk.it {g : cm_g2} {nb ns : Nat} (h : mOk g nb ns) (m : Nat) : mOk (mIt g nb ns m).1 nb ns := h.itw m
theorem mRichs_c {g : cm_g2} {nb c : Nat} (h : c ≠ 6) : ∀ i, mRichs g nb i c = g c
  | 0 => rfl
  | i + 1 => by
    unfold mRichs
    split
    · split
      · rw [mPull_c h, mPull_c h, mRichs_c h i]
      · rw [mPull_c h, mRichs_c h i]
    · exact mRichs_c h i
theorem mPlains_c {g : cm_g2} {nb c : Nat} (h : c ≠ 6) : ∀ i, mPlains g nb i c = g c
  | 0 => rfl
  | i + 1 => by
    unfold mPlains
    split
    · exact mPlains_c h i
    · rw [mWalk_c h, mPlains_c h i]
theorem mSell1_c {g : cm_g2} {nb ns i c : Nat} {mv : Int32} (h : c ≠ 4 ∧ c ≠ 7 ∧ c ≠ 8) : (mSell1 g nb ns mv i).1 c = g c := by
  unfold mSell1
  split
  · rfl
  · split
    · split
      · rfl
      · simp only [va_up]
        rw [if_neg h.2.1, if_neg h.1, if_neg h.2.2]
    · rfl
theorem mSell_c {g : cm_g2} {nb ns c : Nat} {mv : Int32} (h : c ≠ 4 ∧ c ≠ 7 ∧ c ≠ 8) : ∀ i, (mSell g nb ns mv i).1 c = g c
  | 0 => rfl
  | i + 1 => by
    show (mSell1 (mSell g nb ns mv i).1 nb ns mv i).1 c = g c
    rw [mSell1_c h, mSell_c h i]
theorem mPass_c {g : cm_g2} {nb ns c : Nat} {w : Int32} (h : c ≠ 0 ∧ c ≠ 4 ∧ c ≠ 6 ∧ c ≠ 7 ∧ c ≠ 8) : (mPass g nb ns w).1 c = g c := by
  unfold mPass
  rw [mSell_c ⟨h.2.1, h.2.2.2.1, h.2.2.2.2⟩]
  unfold mTick
  rw [va_up_ne _ _ h.1, mPlains_c h.2.2.1, mRichs_c h.2.2.1]
theorem mPass_0 {g : cm_g2} {nb ns : Nat} {w : Int32} : (mPass g nb ns w).1 0 = upd (g 0) 1 (g 0 1 + 1) := by
  unfold mPass
  rw [(mSell_keep _ _ _ _ _).1]
  unfold mTick
  rw [va_up_self, mPlains_c (by decide), mRichs_c (by decide)]
theorem mItW_c {g : cm_g2} {nb ns c : Nat} {w : Nat → Int32} (h : c ≠ 0 ∧ c ≠ 4 ∧ c ≠ 6 ∧ c ≠ 7 ∧ c ≠ 8) : ∀ m, (mItW g nb ns w m).1 c = g c
  | 0 => rfl
  | m + 1 => by
    show (mPass _ _ _ _).1 c = g c
    rw [mPass_c h, mItW_c h m]
theorem mItW_0 {g : cm_g2} {nb ns j : Nat} {w : Nat → Int32} (h : j ≠ 1) : ∀ m, (mItW g nb ns w m).1 0 j = g 0 j
  | 0 => rfl
  | m + 1 => by
    show (mPass _ _ _ _).1 0 j = g 0 j
    rw [mPass_0]
    simp only [upd, if_neg h]
    exact mItW_0 h m
theorem mItW_st {g : cm_g2} {nb ns : Nat} {w : Nat → Int32} (m : Nat) : mSt (mItW g nb ns w m).1 g := ⟨⟨mItW_0 (by decide) m, mItW_0 (by decide) m, mItW_0 (by decide) m⟩, fun c hc i _ => by rw [mItW_c (by omega)], fun i _ => by rw [mItW_c (by decide)]⟩
theorem mSt.trans {g g' g'' : cm_g2} (h : mSt g g') (k : mSt g' g'') : mSt g g'' := ⟨⟨h.1.1.trans k.1.1, h.1.2.1.trans k.1.2.1, h.1.2.2.trans k.1.2.2⟩, fun c hc i hi => (h.2.1 c hc i hi).trans (k.2.1 c hc i hi), fun i hi => (h.2.2 i hi).trans (k.2.2 i hi)⟩
/-- what moves comes back: all is as it was -/
theorem twOk.eq {hi H : cm_g2} {a b : Nat} (h : twOk hi a b 6 H) (hs : mSt (cm_sf hi a) (cm_sf hi b)) : mEq (cm_sf H a) (cm_sf hi b) := by
  refine ⟨fun j hj => ?_, fun c h1 h9 i hi6 => ?_, fun i hi2 => ?_⟩
  · show H (a + 0) j = hi (b + 0) j
    rw [Nat.add_zero, Nat.add_zero, h.2.1]
    have h0 : hi a 0 = hi b 0 ∧ hi a 2 = hi b 2 ∧ hi a 3 = hi b 3 := hs.1
    have hc : j = 0 ∨ j = 1 ∨ j = 2 ∨ j = 3 := by omega
    rcases hc with rfl | rfl | rfl | rfl
    · simpa [upd] using h0.1
    · simp [upd]
    · simpa [upd] using h0.2.1
    · simpa [upd] using h0.2.2
  · by_cases hc : c = 4 ∨ c = 6 ∨ c = 7 ∨ c = 8
    · show H (a + c) i = _
      rw [h.2.2 c hc i, if_pos hi6]
      rfl
    · show H (a + c) i = _
      rw [h.1 (a + c) (by omega) (by omega) (by omega) (by omega) (by omega)]
      exact hs.2.1 c (by omega) i hi6
  · show H (a + 10) i = _
    rw [h.1 (a + 10) (by omega) (by omega) (by omega) (by omega) (by omega)]
    exact hs.2.2 i hi2
def cLot (seed : Int64) : Nat → Int64
  | 0 => seed
  | m + 1 => cLot seed m * 48271 - cLot seed m * 48271 / 2147483647 * 2147483647
def cWind (seed : Int64) (m : Nat) : Int32 := (cLot seed (m + 1) - cLot seed (m + 1) / 3 * 3).toInt32 - 1
def cFs (g : cm_g2) (nb ns i : Nat) : Nat → Nat → Option Nat
  | 0, _ => none
  | q + 1, k => if (mIt g nb ns (k + 1)).1 7 i = 4 then some (k + 1) else cFs g nb ns i q (k + 1)
def cRs (g : cm_g2) (nb ns : Nat) : Nat → Nat → Option Nat
  | 0, _ => none
  | q + 1, k => if 7 ≤ k + 1 ∧ cPack (mIt g nb ns (k + 1 - 7)).1 nb = cPack (mIt g nb ns (k + 1)).1 nb then some (k + 1) else cRs g nb ns q (k + 1)
def cWho (P T : cm_g2) : Nat → Int32
  | 0 => 0
  | i + 1 => if P 7 i = T 7 i then cWho P T i else cWho P T i ||| (1 <<< (nI i &&& 31))
theorem cFs_le {g : cm_g2} {nb ns i : Nat} : ∀ {q k m : Nat}, cFs g nb ns i q k = some m → k < m ∧ m ≤ k + q
  | 0, k, m, h => by cases h
  | q + 1, k, m, h => by
    unfold cFs at h
    split at h
    · cases h; omega
    · have := cFs_le h; omega
theorem cRs_le {g : cm_g2} {nb ns : Nat} : ∀ {q k m : Nat}, cRs g nb ns q k = some m → k < m ∧ m ≤ k + q
  | 0, k, m, h => by cases h
  | q + 1, k, m, h => by
    unfold cRs at h
    split at h
    · cases h; omega
    · have := cRs_le h; omega
section FO
variable {D : cm_D} {d : Nat} {sh : List cm_Sh} {hi g : cm_g2} {hl : Nat → Nat → Int64} {hr : Nat → Nat → Option Nat} {nb ns : Nat}
set_option maxRecDepth 20000 in
theorem l_fpass (hX : cm_cls sh hr) {n : Nat} (h : mOk g nb ns) (hn : n < 2147483648) : ∀ q k : Nat, k + q = n → cm_g D mX0_pass (d + 4) 0 0 (fun r9 h9 => r9 = some (.int (nI (mIt g nb ns n).2)) ∧ h9 = (sh, cm_us hi 34 ((mIt g nb ns n).1), hl, hr)) 0 0 4 [some (.ref 33), some (.int (nI n)), some (.int (nI (mIt g nb ns k).2)), some (.int (nI k))] [] (sh, cm_us hi 34 ((mIt g nb ns k).1), hl, hr) := by
  intro q
  induction q with
  | zero =>
    intro k hk
    have h1 : k = n := by omega
    subst h1
    refine cm_iload3 (pc := 4) dX0_pass_4 ?_
    refine cm_iload1 (pc := 5) dX0_pass_5 ?_
    refine cm_geN (pc := 6) (tgt := 26) dX0_pass_6 (by decide) (by omega) (by omega) (fun c6 => ?_) (fun c6 => ?_)
    · refine cm_iload2 (pc := 26) dX0_pass_26 ?_
      exact cm_iret (pc := 27) dX0_pass_27 rfl ⟨rfl, rfl⟩
    · exact absurd c6 (by omega)
  | succ q ih =>
    intro k hk
    have hst := ih (k + 1) (by omega)
    refine cm_iload3 (pc := 4) dX0_pass_4 ?_
    refine cm_iload1 (pc := 5) dX0_pass_5 ?_
    refine cm_geN (pc := 6) (tgt := 26) dX0_pass_6 (by decide) (by omega) (by omega) (fun c6 => ?_) (fun c6 => ?_)
    · exact absurd c6 (by omega)
    · refine cm_iload2 (pc := 9) dX0_pass_9 ?_
      refine cm_aload0 (pc := 10) dX0_pass_10 ?_
      refine cm_getR (pc := 11) flX0_12 dX0_pass_11 hX.of hX.rf0 ?_
      refine cm_iconst (pc := 14) (v := 0) dX0_pass_14 (by decide) ?_
      refine cm_V1 (pc := 15) mX2_passMinute_v mlX0_26 dX0_pass_15 hX.mf.1 (by omega) (Nat.le_of_ble_eq_true rfl) (Nat.le_refl _) (Nat.le_refl _) (k_passMinute (d := d) hX.mf (h.it k)) (fun r15 h15 hq15 => ?_)
      obtain ⟨rfl, rfl⟩ := hq15
      refine cm_iadd (pc := 18) dX0_pass_18 ?_
      rw [nI_add]
      refine cm_istore2 (pc := 19) dX0_pass_19 (by decide) rfl ?_
      refine cm_incN3 (pc := 20) dX0_pass_20 (by decide) rfl ?_
      refine cm_goto (pc := 23) (tgt := 4) dX0_pass_23 (by decide) ?_
      exact hst
set_option maxRecDepth 20000 in
theorem k_pass (hX : cm_cls sh hr) {n : Nat} (h : mOk g nb ns) (hn : n < 2147483648) : cm_ct D mX0_pass (d + 4) 0 0 [.ref 33, .int (nI n)] (sh, cm_us hi 34 g, hl, hr) (fun r9 h9 => r9 = some (.int (nI (mIt g nb ns n).2)) ∧ h9 = (sh, cm_us hi 34 ((mIt g nb ns n).1), hl, hr)) := by
  refine cm_ct_of (ls := [some (.ref 33), some (.int (nI n)), none, none]) 2 (by decide +kernel) rfl rfl ?_
  refine cm_iconst (pc := 0) (v := 0) dX0_pass_0 (by decide) ?_
  refine cm_istore2 (pc := 1) dX0_pass_1 (by decide) rfl ?_
  refine cm_iconst (pc := 2) (v := 0) dX0_pass_2 (by decide) ?_
  refine cm_istore3 (pc := 3) dX0_pass_3 (by decide) rfl ?_
  exact l_fpass hX h hn n 0 (by omega)
set_option maxRecDepth 20000 in
theorem k_sales (hX : cm_cls sh hr) {n : Nat} (h : mOk (cm_sf hi 5) nb ns) (hn : n < 2147483648) : cm_ct D mX0_sales (d + 5) 0 0 [.ref 33, .ref 5, .int (nI n)] (sh, hi, hl, hr) (fun r9 h9 => ∃ H g, h9 = (sh, H, hl, hr) ∧ mEq g (cm_sf hi 5) ∧ (∀ c, c < 33 ∨ 44 < c → H c = hi c) ∧ r9 = some (.int (nI (mIt g nb ns n).2)) ∧ H 33 3 = sumP ((mIt g nb ns n).1 8) nb - sumP (hi 13) nb) := by
  refine cm_ct_of (ls := [some (.ref 33), some (.ref 5), some (.int (nI n)), none]) 1 (by decide +kernel) rfl rfl ?_
  refine cm_aload0 (pc := 0) dX0_sales_0 ?_
  refine cm_getR (pc := 1) flX0_12 dX0_sales_1 hX.of hX.rf0 ?_
  refine cm_aload1 (pc := 4) dX0_sales_4 ?_
  refine cm_V1 (pc := 5) mX2_take_v mlX0_33 dX0_sales_5 hX.mf.1 (by omega) (Nat.le_of_ble_eq_true rfl) (Nat.le_refl _) (Nat.le_refl _) (k_take hX.mf hX.mp (by omega) (d := d + 3)) (fun r5 h5 hq5 => ?_)
  obtain ⟨rfl, H5, rfl, t5⟩ := hq5
  have m5 := t5.eq
  have P5 : ∀ c, c < 34 → H5 c = hi c := fun c hc => t5.1 c (Or.inl hc)
  have Q5 : ∀ c, 44 < c → H5 c = hi c := fun c hc => t5.1 c (Or.inr hc)
  have h0 := h.congr m5
  refine cm_h_eq (show (sh, H5, hl, hr) = (sh, cm_us H5 34 (cm_sf H5 34), hl, hr) by rw [cm_us_sf]) ?_
  have hgc : ∀ c, cm_sf H5 34 c = H5 (34 + c) := fun c => rfl
  generalize hgd : cm_sf H5 34 = g at *
  have hb := h0.1.1
  have hnb := h0.1.2.1
  have hs := h0.1.2.2.1
  have hns := h0.1.2.2.2
  refine cm_aload0 (pc := 8) dX0_sales_8 ?_
  refine cm_iload2 (pc := 9) dX0_sales_9 ?_
  refine cm_V1 (pc := 10) mX0_pass_v mlX0_48 dX0_sales_10 hX.of (by omega) (Nat.le_of_ble_eq_true rfl) (Nat.le_refl _) (Nat.le_refl _) (k_pass (d := d) hX h0 hn) (fun r10 h10 hq10 => ?_)
  obtain ⟨rfl, rfl⟩ := hq10
  have hGc : ∀ c, 10 < c → (mIt g nb ns n).1 c = H5 (34 + c) := fun c hc => by rw [mItW_c (by omega)]; exact hgc c
  have hGb : (mIt g nb ns n).1 0 3 = nI nb := (h0.itw _).1.1
  generalize hGd : (mIt g nb ns n).1 = G at *
  refine cm_istore3 (pc := 13) dX0_sales_13 (by decide) rfl ?_
  refine cm_aload0 (pc := 14) dX0_sales_14 ?_
  refine cm_aload0 (pc := 15) dX0_sales_15 ?_
  refine cm_getR (pc := 16) flX0_12 dX0_sales_16 hX.of hX.rf0 ?_
  refine cm_V0 (pc := 19) mX2_paidByAll_v mlX0_51 dX0_sales_19 hX.mf.1 (by omega) (Nat.le_of_ble_eq_true rfl) (Nat.le_refl _) (Nat.le_refl _) (k_paidByAll (d := d + 4) hX.mf hGb hnb) (fun r19 h19 hq19 => ?_)
  obtain ⟨rfl, rfl⟩ := hq19
  refine cm_aload1 (pc := 22) dX0_sales_22 ?_
  refine cm_V0 (pc := 23) mX2_paidByAll_v mlX0_51 dX0_sales_23 hX.mp.1 (by omega) (Nat.le_of_ble_eq_true rfl) (Nat.le_refl _) (Nat.le_refl _) (cm_ct_us 5 (k_paidByAll (d := d + 4) hX.mp (show cm_sf (cm_us H5 34 G) 5 0 3 = nI nb by show cm_us H5 34 G 5 3 = nI nb; rw [cm_us_lt (by decide), P5 5 (by decide)]; exact h.1.1) h.1.2.1)) (fun r23 h23 hq23 => ?_)
  obtain ⟨rfl, rfl⟩ := hq23
  rw [cm_us_sf]
  rw [show sumP (cm_sf (cm_us H5 34 G) 5 8) nb = sumP (hi 13) nb by show sumP (cm_us H5 34 G 13) nb = _; rw [cm_us_lt (by decide), P5 13 (by decide)]]
  refine cm_isub (pc := 26) dX0_sales_26 ?_
  refine cm_putI (pc := 27) fpX0_44 dX0_sales_27 hX.of ?_
  refine cm_memG (fun G27 e27 f27 => ?_)
  refine cm_iload3 (pc := 30) dX0_sales_30 ?_
  refine cm_iret (pc := 31) dX0_sales_31 rfl ⟨G27, g, rfl, m5, fun c hc => ?_, rfl, ?_⟩
  · rw [e27 c (by omega)]
    rcases hc with hc | hc
    · rw [cm_us_lt (by omega), P5 c (by omega)]
    · rw [show cm_us H5 34 G c = G (c - 34) by unfold cm_us; rw [if_pos (by omega)], hGc (c - 34) (by omega), show 34 + (c - 34) = c by omega, Q5 c hc]
  · rw [f27]
    simp [upd, ← hGd]
set_option maxRecDepth 20000 in
theorem l_winds (hX : cm_cls sh hr) {n : Nat} {seed : Int32} {H5 : cm_g2} (h : mOk (cm_sf hi 5) nb ns) (hn : n < 2147483648) (m5 : mEq g (cm_sf hi 5)) (P5 : ∀ c, c < 34 → H5 c = hi c) (Q5 : ∀ c, 44 < c → H5 c = hi c) (h0 : mOk g nb ns) (hgc : ∀ c, g c = H5 (34 + c)) : ∀ q k : Nat, k + q = n → cm_g D mX0_salesInWinds (d + 5) 0 0 (fun r9 h9 => ∃ H g, h9 = (sh, H, hl, hr) ∧ mEq g (cm_sf hi 5) ∧ (∀ c, c < 33 ∨ 44 < c → H c = hi c) ∧ r9 = some (.int (nI (mItW g nb ns (cWind seed.toInt64) n).2)) ∧ H 33 3 = sumP ((mItW g nb ns (cWind seed.toInt64) n).1 8) nb - sumP (hi 13) nb) 0 0 18 [some (.ref 33), some (.ref 5), some (.int (nI n)), some (.int seed), some (.long (cLot seed.toInt64 k)), none, some (.int (nI (mItW g nb ns (cWind seed.toInt64) k).2)), some (.int (nI k))] [] (sh, cm_us H5 34 (mItW g nb ns (cWind seed.toInt64) k).1, hl, hr) := by
  intro q
  induction q with
  | zero =>
    intro k hk
    have h1 : k = n := by omega
    subst h1
    refine cm_iload7 (pc := 18) dX0_salesInWinds_18 ?_
    refine cm_iload2 (pc := 20) dX0_salesInWinds_20 ?_
    refine cm_geN (pc := 21) (tgt := 63) dX0_salesInWinds_21 (by decide) (by omega) (by omega) (fun c21 => ?_) (fun c21 => ?_)
    · have hnb := h0.1.2.1
      have hGc : ∀ c, 10 < c → (mItW g nb ns (cWind seed.toInt64) k).1 c = H5 (34 + c) := fun c hc => by rw [mItW_c (by omega)]; exact hgc c
      have hGb : (mItW g nb ns (cWind seed.toInt64) k).1 0 3 = nI nb := (h0.itw _).1.1
      generalize hGd : (mItW g nb ns (cWind seed.toInt64) k).1 = G at *
      refine cm_aload0 (pc := 63) dX0_salesInWinds_63 ?_
      refine cm_aload0 (pc := 64) dX0_salesInWinds_64 ?_
      refine cm_getR (pc := 65) flX0_12 dX0_salesInWinds_65 hX.of hX.rf0 ?_
      refine cm_V0 (pc := 68) mX2_paidByAll_v mlX0_51 dX0_salesInWinds_68 hX.mf.1 (by omega) (Nat.le_of_ble_eq_true rfl) (Nat.le_refl _) (Nat.le_refl _) (k_paidByAll (d := d + 4) hX.mf hGb hnb) (fun r68 h68 hq68 => ?_)
      obtain ⟨rfl, rfl⟩ := hq68
      refine cm_aload1 (pc := 71) dX0_salesInWinds_71 ?_
      refine cm_V0 (pc := 72) mX2_paidByAll_v mlX0_51 dX0_salesInWinds_72 hX.mp.1 (by omega) (Nat.le_of_ble_eq_true rfl) (Nat.le_refl _) (Nat.le_refl _) (cm_ct_us 5 (k_paidByAll (d := d + 4) hX.mp (show cm_sf (cm_us H5 34 G) 5 0 3 = nI nb by show cm_us H5 34 G 5 3 = nI nb; rw [cm_us_lt (by decide), P5 5 (by decide)]; exact h.1.1) h.1.2.1)) (fun r72 h72 hq72 => ?_)
      obtain ⟨rfl, rfl⟩ := hq72
      rw [cm_us_sf]
      rw [show sumP (cm_sf (cm_us H5 34 G) 5 8) nb = sumP (hi 13) nb by show sumP (cm_us H5 34 G 13) nb = _; rw [cm_us_lt (by decide), P5 13 (by decide)]]
      refine cm_isub (pc := 75) dX0_salesInWinds_75 ?_
      refine cm_putI (pc := 76) fpX0_44 dX0_salesInWinds_76 hX.of ?_
      refine cm_memG (fun G76 e76 f76 => ?_)
      refine cm_iload6 (pc := 79) dX0_salesInWinds_79 ?_
      refine cm_iret (pc := 81) dX0_salesInWinds_81 rfl ⟨G76, g, rfl, m5, fun c hc => ?_, rfl, ?_⟩
      · rw [e76 c (by omega)]
        rcases hc with hc | hc
        · rw [cm_us_lt (by omega), P5 c (by omega)]
        · rw [show cm_us H5 34 G c = G (c - 34) by unfold cm_us; rw [if_pos (by omega)], hGc (c - 34) (by omega), show 34 + (c - 34) = c by omega, Q5 c hc]
      · rw [f76]
        simp [upd, ← hGd]
    · exact absurd c21 (by omega)
  | succ q ih =>
    intro k hk
    have hst := ih (k + 1) (by omega)
    refine cm_iload7 (pc := 18) dX0_salesInWinds_18 ?_
    refine cm_iload2 (pc := 20) dX0_salesInWinds_20 ?_
    refine cm_geN (pc := 21) (tgt := 63) dX0_salesInWinds_21 (by decide) (by omega) (by omega) (fun c21 => ?_) (fun c21 => ?_)
    · exact absurd c21 (by omega)
    · refine cm_lload4 (pc := 24) dX0_salesInWinds_24 ?_
      refine cm_ldc2 (pc := 26) dX0_salesInWinds_26 ctX0_55 ?_
      refine cm_lmul (pc := 29) dX0_salesInWinds_29 ?_
      refine cm_ldc2 (pc := 30) dX0_salesInWinds_30 ctX0_57 ?_
      refine cm_lrem (pc := 33) dX0_salesInWinds_33 (by decide) ?_
      refine cm_lstore4 (pc := 34) dX0_salesInWinds_34 (by decide) rfl ?_
      refine cm_iload6 (pc := 36) dX0_salesInWinds_36 ?_
      refine cm_aload0 (pc := 38) dX0_salesInWinds_38 ?_
      refine cm_getR (pc := 39) flX0_12 dX0_salesInWinds_39 hX.of hX.rf0 ?_
      refine cm_lload4 (pc := 42) dX0_salesInWinds_42 ?_
      refine cm_ldc2 (pc := 44) dX0_salesInWinds_44 ctX0_59 ?_
      refine cm_lrem (pc := 47) dX0_salesInWinds_47 (by decide) ?_
      refine cm_l2i (pc := 48) dX0_salesInWinds_48 ?_
      refine cm_iconst (pc := 49) (v := 1) dX0_salesInWinds_49 (by decide) ?_
      refine cm_isub (pc := 50) dX0_salesInWinds_50 ?_
      refine cm_V1 (pc := 51) mX2_passMinute_v mlX0_26 dX0_salesInWinds_51 hX.mf.1 (by omega) (Nat.le_of_ble_eq_true rfl) (Nat.le_refl _) (Nat.le_refl _) (k_passMinute (d := d + 1) hX.mf (h0.itw k)) (fun r51 h51 hq51 => ?_)
      obtain ⟨rfl, rfl⟩ := hq51
      refine cm_iadd (pc := 54) dX0_salesInWinds_54 ?_
      rw [nI_add]
      refine cm_istore6 (pc := 55) dX0_salesInWinds_55 (by decide) rfl ?_
      refine cm_incN7 (pc := 57) dX0_salesInWinds_57 (by decide) rfl ?_
      refine cm_goto (pc := 60) (tgt := 18) dX0_salesInWinds_60 (by decide) ?_
      exact hst
set_option maxRecDepth 20000 in
theorem k_salesInWinds (hX : cm_cls sh hr) {n : Nat} {seed : Int32} (h : mOk (cm_sf hi 5) nb ns) (hn : n < 2147483648) : cm_ct D mX0_salesInWinds (d + 5) 0 0 [.ref 33, .ref 5, .int (nI n), .int seed] (sh, hi, hl, hr) (fun r9 h9 => ∃ H g, h9 = (sh, H, hl, hr) ∧ mEq g (cm_sf hi 5) ∧ (∀ c, c < 33 ∨ 44 < c → H c = hi c) ∧ r9 = some (.int (nI (mItW g nb ns (cWind seed.toInt64) n).2)) ∧ H 33 3 = sumP ((mItW g nb ns (cWind seed.toInt64) n).1 8) nb - sumP (hi 13) nb) := by
  refine cm_ct_of (ls := [some (.ref 33), some (.ref 5), some (.int (nI n)), some (.int seed), none, none, none, none]) 4 (by decide +kernel) rfl rfl ?_
  refine cm_aload0 (pc := 0) dX0_salesInWinds_0 ?_
  refine cm_getR (pc := 1) flX0_12 dX0_salesInWinds_1 hX.of hX.rf0 ?_
  refine cm_aload1 (pc := 4) dX0_salesInWinds_4 ?_
  refine cm_V1 (pc := 5) mX2_take_v mlX0_33 dX0_salesInWinds_5 hX.mf.1 (by omega) (Nat.le_of_ble_eq_true rfl) (Nat.le_refl _) (Nat.le_refl _) (k_take hX.mf hX.mp (by omega) (d := d + 3)) (fun r5 h5 hq5 => ?_)
  obtain ⟨rfl, H5, rfl, t5⟩ := hq5
  have m5 := t5.eq
  have P5 : ∀ c, c < 34 → H5 c = hi c := fun c hc => t5.1 c (Or.inl hc)
  have Q5 : ∀ c, 44 < c → H5 c = hi c := fun c hc => t5.1 c (Or.inr hc)
  have h0 := h.congr m5
  refine cm_h_eq (show (sh, H5, hl, hr) = (sh, cm_us H5 34 (cm_sf H5 34), hl, hr) by rw [cm_us_sf]) ?_
  have hgc : ∀ c, cm_sf H5 34 c = H5 (34 + c) := fun c => rfl
  generalize hgd : cm_sf H5 34 = g at *
  have hb := h0.1.1
  have hnb := h0.1.2.1
  have hs := h0.1.2.2.1
  have hns := h0.1.2.2.2
  refine cm_iload3 (pc := 8) dX0_salesInWinds_8 ?_
  refine cm_i2l (pc := 9) dX0_salesInWinds_9 ?_
  refine cm_lstore4 (pc := 10) dX0_salesInWinds_10 (by decide) rfl ?_
  refine cm_iconst (pc := 12) (v := 0) dX0_salesInWinds_12 (by decide) ?_
  refine cm_istore6 (pc := 13) dX0_salesInWinds_13 (by decide) rfl ?_
  refine cm_iconst (pc := 15) (v := 0) dX0_salesInWinds_15 (by decide) ?_
  refine cm_istore7 (pc := 16) dX0_salesInWinds_16 (by decide) rfl ?_
  exact l_winds hX h hn m5 P5 Q5 h0 hgc n 0 (by omega)
end FO
