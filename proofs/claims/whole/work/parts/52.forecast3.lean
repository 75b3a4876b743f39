/-! PART forecast3: spots afterwards, who bought, who is missed least, where a stall should be -/
theorem stPut_in {g : cm_g2} {m k : Nat} {v : Int32} (hz : g 0 1 = nI m) (hk : k < m) (hm : m ≤ 80) : stPut g (nI k) v = va_up g 1 (upd (g 1) k v) := by
  unfold stPut
  rw [if_pos (by rw [hz]; exact isW_nn hk (by omega)), nI_clamp (by omega)]
def cMin (F : Nat → Int32) : Nat → Int32 × Nat
  | 0 => (0, 0)
  | i + 1 => if i = 0 ∨ F i < (cMin F i).1 then (F i, i) else cMin F i
def cMax (F : Nat → Int32) : Nat → Int32 × Nat
  | 0 => (-1, 0)
  | i + 1 => if (cMax F i).1 < F i then (F i, i) else cMax F i
theorem cMin_congr {F F' : Nat → Int32} : ∀ n, (∀ i, i < n → F i = F' i) → cMin F n = cMin F' n
  | 0, _ => rfl
  | n + 1, h => by
    unfold cMin
    rw [cMin_congr n (fun i hi => h i (by omega)), h n (by omega)]
theorem cMax_congr {F F' : Nat → Int32} : ∀ n, (∀ i, i < n → F i = F' i) → cMax F n = cMax F' n
  | 0, _ => rfl
  | n + 1, h => by
    unfold cMax
    rw [cMax_congr n (fun i hi => h i (by omega)), h n (by omega)]
def spOk (hi H : cm_g2) (s nb : Nat) (G : cm_g2) (k : Nat) : Prop := (∀ c, c ≠ s → c ≠ s + 1 → H c = hi c) ∧ H s 1 = nI nb ∧ ∀ j, j < k → H (s + 1) j = G 6 j
/-- minutes with one who wants nothing; with a stall elsewhere -/
def lmVal (P : cm_g2) (nb ns n : Nat) (sal : Nat) (by_ : Int32) (i : Nat) (v : Int32) : Prop := ∃ g, mEq g P ∧ v = nI sal - cm_bi (isI by_ (nI i)) - nI (mIt (va_up g 7 (upd (g 7) i 4)) nb ns n).2
def bpOk (g P : cm_g2) (ns k at_ : Nat) : Prop := (∀ j, j < 4 → g 0 j = P 0 j) ∧ (∀ c, 2 ≤ c → c ≤ 9 → ∀ i, i < 6 → g c i = P c i) ∧ (∀ i, i < 6 → g 1 i = if i = k then nI at_ else P 1 i) ∧ tabOk g ns (g 10) 5 0
def bpVal (P : cm_g2) (nb ns n k at_ : Nat) (v : Int32) : Prop := ∃ g, bpOk g P ns k at_ ∧ v = (mIt g nb ns n).1 4 k - P 4 k
def mSt1 (g g' : cm_g2) (k : Nat) : Prop := (g 0 0 = g' 0 0 ∧ g 0 2 = g' 0 2 ∧ g 0 3 = g' 0 3) ∧ (∀ c, c = 2 ∨ c = 3 ∨ c = 5 ∨ c = 9 → ∀ i, i < 6 → g c i = g' c i) ∧ (∀ i, i < 6 → i ≠ k → g 1 i = g' 1 i)
theorem cWay_in (g : cm_g2) (ns : Nat) (fr goods : Int32) : -1 ≤ (cWay g ns fr goods).toInt ∧ (cWay g ns fr goods).toInt ≤ 1 := by
  unfold cWay
  split
  · decide
  · split
    · decide
    · split <;> decide
theorem tabOk.in {g : cm_g2} {ns : Nat} {T : Nat → Int32} (h : tabOk g ns T 5 0) : ∀ x, x < 200 → -1 ≤ (T x).toInt ∧ (T x).toInt ≤ 1 := by
  intro x hx
  by_cases hq : x < 100
  · have := (h (x / 20) (x % 20) (by omega) (Nat.mod_lt _ (by decide)) (by omega)).1
    rw [show x / 20 * 20 + x % 20 = x by omega] at this
    rw [this]
    exact cWay_in _ _ _ _
  · have := (h ((x - 100) / 20) (x % 20) (by omega) (Nat.mod_lt _ (by decide)) (by omega)).2
    rw [show (5 + (x - 100) / 20) * 20 + x % 20 = x by omega] at this
    rw [this]
    exact cWay_in _ _ _ _
theorem mOk.bp {g P : cm_g2} {nb ns k at_ : Nat} (h : mOk P nb ns) (b : bpOk g P ns k at_) : mOk g nb ns := by
  have hnb := h.1.2.1
  refine ⟨⟨by rw [b.1 3 (by decide)]; exact h.1.1, h.1.2.1, by rw [b.1 2 (by decide)]; exact h.1.2.2.1, h.1.2.2.2⟩, fun i hi => by rw [b.2.1 6 (by decide) (by decide) i (by omega)]; exact h.2.1 i hi, fun i hi => by rw [b.2.1 7 (by decide) (by decide) i (by omega)]; exact h.2.2.1 i hi, fun i hi => by rw [b.2.1 6 (by decide) (by decide) i (by omega), b.2.1 6 (by decide) (by decide) (i + 1) (by omega)]; exact h.2.2.2.1 i hi, b.2.2.2.in⟩
theorem mOk.w4 {g : cm_g2} {nb ns i : Nat} (h : mOk g nb ns) : mOk (va_up g 7 (upd (g 7) i 4)) nb ns := by
  refine ⟨by simpa [va_up] using h.1, fun x hx => by simpa [va_up] using h.2.1 x hx, fun x hx => ?_, fun x hx => by simpa [va_up] using h.2.2.2.1 x hx, fun x hx => by simpa [va_up] using h.2.2.2.2 x hx⟩
  rw [va_up_self]
  unfold upd
  split
  · decide
  · exact h.2.2.1 x hx
section FO3
variable {D : cm_D} {d : Nat} {sh : List cm_Sh} {hi g H5 : cm_g2} {hl : Nat → Nat → Int64} {hr : Nat → Nat → Option Nat} {nb ns : Nat}
set_option maxRecDepth 20000 in
theorem l_spa (hX : cm_cls sh hr) {s n : Nat} {M : cm_g2} (hS : cm_str sh hr s 40) (hs9 : 60 < s) (m5 : mEq g (cm_sf hi 5)) (hM : ∀ c, c < 33 ∨ 44 < c → M c = hi c) (hMG : ∀ c, c ≤ 10 → M (34 + c) = (mIt g nb ns n).1 c) (hGb : M 34 3 = nI nb) (hnb : nb ≤ 6) : ∀ q k : Nat, k + q = nb → ∀ W : cm_g2, spOk M W s nb (mIt g nb ns n).1 k → cm_g D mX0_spotsAfter (d + 5) 0 0 (fun r9 h9 => ∃ H g, h9 = (sh, H, hl, hr) ∧ mEq g (cm_sf hi 5) ∧ (∀ c, c < 33 ∨ 44 < c → c ≠ s → c ≠ s + 1 → H c = hi c) ∧ H s 1 = nI nb ∧ (∀ j, j < nb → H (s + 1) j = (mIt g nb ns n).1 6 j) ∧ r9 = some (.int (mSun (mIt g nb ns n).1))) 0 0 29 [some (.ref 33), some (.ref 5), some (.int (nI n)), some (.ref s), some (.int (nI k))] [] (sh, W, hl, hr) := by
  intro q
  induction q with
  | zero =>
    intro k hk W hW
    have h1 : k = nb := by omega
    subst h1
    refine cm_iload4 (pc := 29) dX0_spotsAfter_29 ?_
    refine cm_aload0 (pc := 31) dX0_spotsAfter_31 ?_
    refine cm_getR (pc := 32) flX0_12 dX0_spotsAfter_32 hX.of hX.rf0 ?_
    refine cm_getI (pc := 35) flX0_68 dX0_spotsAfter_35 hX.mf.1 ?_
    refine cm_top_eq (show (W 34 3) = nI k by rw [hW.1 34 (by omega) (by omega)]; exact hGb) ?_
    refine cm_geN (pc := 38) (tgt := 64) dX0_spotsAfter_38 (by decide) (by omega) (by omega) (fun c38 => ?_) (fun c38 => ?_)
    · refine cm_aload0 (pc := 64) dX0_spotsAfter_64 ?_
      refine cm_getR (pc := 65) flX0_12 dX0_spotsAfter_65 hX.of hX.rf0 ?_
      refine cm_V0 (pc := 68) mX2_sun_v mlX0_80 dX0_spotsAfter_68 hX.mf.1 (by omega) (Nat.le_of_ble_eq_true rfl) (Nat.le_refl _) (Nat.le_refl _) (cm_ct_us 34 (k_sun (d := d + 4) hX.mf)) (fun r68 h68 hq68 => ?_)
      obtain ⟨rfl, rfl⟩ := hq68
      rw [cm_us_sf]
      refine cm_iret (pc := 71) dX0_spotsAfter_71 rfl ⟨W, g, rfl, m5, fun c hc h1 h2 => ?_, hW.2.1, hW.2.2, ?_⟩
      · rw [hW.1 c h1 h2]
        exact hM c hc
      · show some (Value.int (W 34 1 - W 34 1 / 7 * 7 - 3)) = _
        rw [hW.1 34 (by omega) (by omega), show M 34 = (mIt g k ns n).1 0 from hMG 0 (by decide)]
        rfl
    · exact absurd c38 (by omega)
  | succ q ih =>
    intro k hk W hW
    have hst := ih (k + 1) (by omega)
    refine cm_iload4 (pc := 29) dX0_spotsAfter_29 ?_
    refine cm_aload0 (pc := 31) dX0_spotsAfter_31 ?_
    refine cm_getR (pc := 32) flX0_12 dX0_spotsAfter_32 hX.of hX.rf0 ?_
    refine cm_getI (pc := 35) flX0_68 dX0_spotsAfter_35 hX.mf.1 ?_
    refine cm_top_eq (show (W 34 3) = nI nb by rw [hW.1 34 (by omega) (by omega)]; exact hGb) ?_
    refine cm_geN (pc := 38) (tgt := 64) dX0_spotsAfter_38 (by decide) (by omega) (by omega) (fun c38 => ?_) (fun c38 => ?_)
    · exact absurd c38 (by omega)
    · refine cm_aload3 (pc := 41) dX0_spotsAfter_41 ?_
      refine cm_iload4 (pc := 42) dX0_spotsAfter_42 ?_
      refine cm_aload0 (pc := 44) dX0_spotsAfter_44 ?_
      refine cm_getR (pc := 45) flX0_12 dX0_spotsAfter_45 hX.of hX.rf0 ?_
      refine cm_getR (pc := 48) flX0_37 dX0_spotsAfter_48 hX.mf.1 hX.mf.r9 ?_
      refine cm_iload4 (pc := 51) dX0_spotsAfter_51 ?_
      refine cm_ialN (pc := 53) dX0_spotsAfter_53 hX.mf.a6 (by omega) (by decide) ?_
      rw [show W 40 k = (mIt g nb ns n).1 6 k by rw [hW.1 40 (by omega) (by omega)]; exact congrFun (hMG 6 (by decide)) k]
      refine cm_V2 (pc := 54) mX4_exchange_v mlX0_77 dX0_spotsAfter_54 hS.1 (by omega) (Nat.le_of_ble_eq_true rfl) (Nat.le_refl _) (Nat.le_refl _) (cm_ct_us s (k_exchange (d := d + 1) hS (by decide) (show (W s 1).toInt ≤ _ by rw [hW.2.1, nI_toInt (by omega)]; omega))) (fun r54 h54 hq54 => ?_)
      obtain ⟨rfl, rfl⟩ := hq54
      rw [stPut_in (show cm_sf W s 0 1 = nI nb from hW.2.1) (by omega) (by omega)]
      refine cm_usG (fun G54 e54 f54 => ?_)
      refine cm_pop (pc := 57) dX0_spotsAfter_57 rfl ?_
      refine cm_incN4 (pc := 58) dX0_spotsAfter_58 (by decide) rfl ?_
      refine cm_goto (pc := 61) (tgt := 29) dX0_spotsAfter_61 (by decide) ?_
      refine hst G54 ⟨fun c h1 h2 => ?_, ?_, fun j hj => ?_⟩
      · rcases Nat.lt_or_ge c s with q | q
        · rw [e54 c q, hW.1 c h1 h2]
        · have := f54 (c - s)
          rw [show s + (c - s) = c by omega, va_up_ne _ _ (by omega)] at this
          rw [this]
          show W (s + (c - s)) = _
          rw [show s + (c - s) = c by omega, hW.1 c h1 h2]
      · rw [show G54 s = G54 (s + 0) from rfl, f54 0, va_up_ne _ _ (by decide)]
        exact hW.2.1
      · rw [f54 1, va_up_self]
        unfold upd
        by_cases e : j = k
        · subst e; rw [if_pos rfl]
        · rw [if_neg e]
          exact hW.2.2 j (by omega)
set_option maxRecDepth 20000 in
theorem k_spotsAfter (hX : cm_cls sh hr) {s n : Nat} (h : mOk (cm_sf hi 5) nb ns) (hn : n < 2147483648) (hS : cm_str sh hr s 40) (hs9 : 60 < s) : cm_ct D mX0_spotsAfter (d + 5) 0 0 [.ref 33, .ref 5, .int (nI n), .ref s] (sh, hi, hl, hr) (fun r9 h9 => ∃ H g, h9 = (sh, H, hl, hr) ∧ mEq g (cm_sf hi 5) ∧ (∀ c, c < 33 ∨ 44 < c → c ≠ s → c ≠ s + 1 → H c = hi c) ∧ H s 1 = nI nb ∧ (∀ j, j < nb → H (s + 1) j = (mIt g nb ns n).1 6 j) ∧ r9 = some (.int (mSun (mIt g nb ns n).1))) := by
  refine cm_ct_of (ls := [some (.ref 33), some (.ref 5), some (.int (nI n)), some (.ref s), none]) 1 (by decide +kernel) rfl rfl ?_
  refine cm_aload0 (pc := 0) dX0_spotsAfter_0 ?_
  refine cm_getR (pc := 1) flX0_12 dX0_spotsAfter_1 hX.of hX.rf0 ?_
  refine cm_aload1 (pc := 4) dX0_spotsAfter_4 ?_
  refine cm_V1 (pc := 5) mX2_take_v mlX0_33 dX0_spotsAfter_5 hX.mf.1 (by omega) (Nat.le_of_ble_eq_true rfl) (Nat.le_refl _) (Nat.le_refl _) (k_take hX.mf hX.mp (by omega) (d := d + 3)) (fun r5 h5 hq5 => ?_)
  obtain ⟨rfl, H5, rfl, t5⟩ := hq5
  have m5 := t5.eq
  have P5 : ∀ c, c < 34 → H5 c = hi c := fun c hc => t5.1 c (Or.inl hc)
  have Q5 : ∀ c, 44 < c → H5 c = hi c := fun c hc => t5.1 c (Or.inr hc)
  have h0 := h.congr m5
  refine cm_h_eq (show (sh, H5, hl, hr) = (sh, cm_us H5 34 (cm_sf H5 34), hl, hr) by rw [cm_us_sf]) ?_
  have hgc : ∀ c, cm_sf H5 34 c = H5 (34 + c) := fun c => rfl
  generalize hgd : cm_sf H5 34 = g at *
  have hb := h0.1.1
  have hnb := h0.1.2.1
  have hs := h0.1.2.2.1
  have hns := h0.1.2.2.2
  refine cm_aload0 (pc := 8) dX0_spotsAfter_8 ?_
  refine cm_iload2 (pc := 9) dX0_spotsAfter_9 ?_
  refine cm_V1 (pc := 10) mX0_pass_v mlX0_48 dX0_spotsAfter_10 hX.of (by omega) (Nat.le_of_ble_eq_true rfl) (Nat.le_refl _) (Nat.le_refl _) (k_pass (d := d) hX h0 hn) (fun r10 h10 hq10 => ?_)
  obtain ⟨rfl, rfl⟩ := hq10
  have hGc : ∀ c, 10 < c → (mIt g nb ns n).1 c = H5 (34 + c) := fun c hc => by rw [mItW_c (by omega)]; exact hgc c
  have hGb : cm_us H5 34 (mIt g nb ns n).1 34 3 = nI nb := by
    rw [show cm_us H5 34 (mIt g nb ns n).1 34 = cm_us H5 34 (mIt g nb ns n).1 (34 + 0) from rfl, cm_us_at]
    exact (h0.it n).1.1
  have hMG : ∀ c, c ≤ 10 → cm_us H5 34 (mIt g nb ns n).1 (34 + c) = (mIt g nb ns n).1 c := fun c _ => cm_us_at _ _ _ _
  have hM : ∀ c, c < 33 ∨ 44 < c → cm_us H5 34 (mIt g nb ns n).1 c = hi c := by
    intro c hc
    generalize (mIt g nb ns n).1 = G at *
    rcases hc with hc | hc
    · rw [cm_us_lt (by omega), P5 c (by omega)]
    · rw [show cm_us H5 34 G c = G (c - 34) by unfold cm_us; rw [if_pos (by omega)], hGc (c - 34) (by omega), show 34 + (c - 34) = c by omega, Q5 c hc]
  generalize cm_us H5 34 (mIt g nb ns n).1 = M at *
  refine cm_pop (pc := 13) dX0_spotsAfter_13 rfl ?_
  refine cm_aload3 (pc := 14) dX0_spotsAfter_14 ?_
  refine cm_aload0 (pc := 15) dX0_spotsAfter_15 ?_
  refine cm_getR (pc := 16) flX0_12 dX0_spotsAfter_16 hX.of hX.rf0 ?_
  refine cm_getI (pc := 19) flX0_68 dX0_spotsAfter_19 hX.mf.1 ?_
  refine cm_top_eq hGb ?_
  refine cm_iconst (pc := 22) (v := 0) dX0_spotsAfter_22 (by decide) ?_
  refine cm_V2 (pc := 23) mX4_renew_v mlX0_71 dX0_spotsAfter_23 hS.1 (by omega) (Nat.le_of_ble_eq_true rfl) (Nat.le_refl _) (Nat.le_refl _) (cm_ct_us s (k_renew (d := d + 3) hS (by decide) (show nb ≤ 40 by omega))) (fun r23 h23 hq23 => ?_)
  obtain ⟨rfl, rfl⟩ := hq23
  refine cm_usG (fun G23 e23 f23 => ?_)
  refine cm_iconst (pc := 26) (v := 0) dX0_spotsAfter_26 (by decide) ?_
  refine cm_istore4 (pc := 27) dX0_spotsAfter_27 (by decide) rfl ?_
  refine l_spa hX hS hs9 m5 hM hMG hGb hnb nb 0 (by omega) G23 ⟨fun c h1 h2 => ?_, ?_, fun j hj => absurd hj (Nat.not_lt_zero _)⟩
  · rcases Nat.lt_or_ge c s with q | q
    · exact e23 c q
    · have := f23 (c - s)
      rw [show s + (c - s) = c by omega] at this
      rw [this]
      unfold stFill
      rw [va_up_ne _ _ (by omega), va_up_ne _ _ (by omega)]
      show M (s + (c - s)) = _
      rw [show s + (c - s) = c by omega]
  · rw [show G23 s = G23 (s + 0) from rfl, f23 0]
    simp [stFill, va_up, upd]
set_option maxRecDepth 20000 in
theorem l_who (hX : cm_cls sh hr) (hb : hi 5 3 = nI nb) (hnb : nb ≤ 6) : ∀ q k : Nat, k + q = nb → cm_g D mX0_whoBought d 0 0 (fun r9 h9 => r9 = some (.int (cWho (cm_sf hi 5) g nb)) ∧ h9 = (sh, cm_us hi 34 g, hl, hr)) 0 0 4 [some (.ref 33), some (.ref 5), some (.int (cWho (cm_sf hi 5) g k)), some (.int (nI k))] [] (sh, cm_us hi 34 g, hl, hr) := by
  intro q
  induction q with
  | zero =>
    intro k hk
    have h1 : k = nb := by omega
    subst h1
    refine cm_iload3 (pc := 4) dX0_whoBought_4 ?_
    refine cm_aload1 (pc := 5) dX0_whoBought_5 ?_
    refine cm_getI (pc := 6) flX0_68 dX0_whoBought_6 hX.mp.1 ?_
    refine cm_top_eq (show cm_us hi 34 g 5 3 = nI k by rw [cm_us_lt (by decide)]; exact hb) ?_
    refine cm_geN (pc := 9) (tgt := 42) dX0_whoBought_9 (by decide) (by omega) (by omega) (fun c9 => ?_) (fun c9 => ?_)
    · refine cm_iload2 (pc := 42) dX0_whoBought_42 ?_
      exact cm_iret (pc := 43) dX0_whoBought_43 rfl ⟨rfl, rfl⟩
    · exact absurd c9 (by omega)
  | succ q ih =>
    intro k hk
    have hst := ih (k + 1) (by omega)
    refine cm_iload3 (pc := 4) dX0_whoBought_4 ?_
    refine cm_aload1 (pc := 5) dX0_whoBought_5 ?_
    refine cm_getI (pc := 6) flX0_68 dX0_whoBought_6 hX.mp.1 ?_
    refine cm_top_eq (show cm_us hi 34 g 5 3 = nI nb by rw [cm_us_lt (by decide)]; exact hb) ?_
    refine cm_geN (pc := 9) (tgt := 42) dX0_whoBought_9 (by decide) (by omega) (by omega) (fun c9 => ?_) (fun c9 => ?_)
    · exact absurd c9 (by omega)
    · refine cm_aload1 (pc := 12) dX0_whoBought_12 ?_
      refine cm_getR (pc := 13) flX0_30 dX0_whoBought_13 hX.mp.1 hX.mp.r10 ?_
      refine cm_iload3 (pc := 16) dX0_whoBought_16 ?_
      refine cm_ialN (pc := 17) dX0_whoBought_17 hX.mp.a7 (by omega) (by decide) ?_
      rw [show cm_us hi 34 g 12 k = hi 12 k from congrFun (cm_us_lt (by decide)) k]
      refine cm_aload0 (pc := 18) dX0_whoBought_18 ?_
      refine cm_getR (pc := 19) flX0_12 dX0_whoBought_19 hX.of hX.rf0 ?_
      refine cm_getR (pc := 22) flX0_30 dX0_whoBought_22 hX.mf.1 hX.mf.r10 ?_
      refine cm_iload3 (pc := 25) dX0_whoBought_25 ?_
      refine mk_get (pc := 26) dX0_whoBought_26 hX.mf.a7 (by omega) (by decide) ?_
      refine cm_icmp_eq (pc := 27) (tgt := 36) dX0_whoBought_27 (by decide) (fun c27 => ?_) (fun c27 => ?_)
      · rw [show cWho (cm_sf hi 5) g (k + 1) = cWho (cm_sf hi 5) g k from if_pos c27] at hst
        refine cm_incN3 (pc := 36) dX0_whoBought_36 (by decide) rfl ?_
        refine cm_goto (pc := 39) (tgt := 4) dX0_whoBought_39 (by decide) ?_
        exact hst
      · rw [show cWho (cm_sf hi 5) g (k + 1) = cWho (cm_sf hi 5) g k ||| (1 <<< (nI k &&& 31)) from if_neg c27] at hst
        refine cm_iload2 (pc := 30) dX0_whoBought_30 ?_
        refine cm_iconst (pc := 31) (v := 1) dX0_whoBought_31 (by decide) ?_
        refine cm_iload3 (pc := 32) dX0_whoBought_32 ?_
        refine cm_ishl (pc := 33) dX0_whoBought_33 ?_
        refine cm_ior (pc := 34) dX0_whoBought_34 ?_
        refine cm_istore2 (pc := 35) dX0_whoBought_35 (by decide) rfl ?_
        refine cm_incN3 (pc := 36) dX0_whoBought_36 (by decide) rfl ?_
        refine cm_goto (pc := 39) (tgt := 4) dX0_whoBought_39 (by decide) ?_
        exact hst
set_option maxRecDepth 20000 in
theorem k_whoBought (hX : cm_cls sh hr) (hb : hi 5 3 = nI nb) (hnb : nb ≤ 6) : cm_ct D mX0_whoBought d 0 0 [.ref 33, .ref 5] (sh, cm_us hi 34 g, hl, hr) (fun r9 h9 => r9 = some (.int (cWho (cm_sf hi 5) g nb)) ∧ h9 = (sh, cm_us hi 34 g, hl, hr)) := by
  refine cm_ct_of (ls := [some (.ref 33), some (.ref 5), none, none]) 2 (by decide +kernel) rfl rfl ?_
  refine cm_iconst (pc := 0) (v := 0) dX0_whoBought_0 (by decide) ?_
  refine cm_istore2 (pc := 1) dX0_whoBought_1 (by decide) rfl ?_
  refine cm_iconst (pc := 2) (v := 0) dX0_whoBought_2 (by decide) ?_
  refine cm_istore3 (pc := 3) dX0_whoBought_3 (by decide) rfl ?_
  exact l_who hX hb hnb nb 0 (by omega)
set_option maxRecDepth 20000 in
set_option maxHeartbeats 1000000 in
theorem l_lm (hX : cm_cls sh hr) {n sal : Nat} {by_ : Int32} {g0 : cm_g2} (h : mOk (cm_sf hi 5) nb ns) (hn : n < 2147483648) (m0 : mEq g0 (cm_sf hi 5)) (hsal : sal = (mIt g0 nb ns n).2) (hby : by_ = cWho (cm_sf hi 5) (mIt g0 nb ns n).1 nb) (hb5 : hi 5 3 = nI nb) (hnb : nb ≤ 6) : ∀ q k : Nat, k + q = nb → ∀ (F : Nat → Int32) (B G : cm_g2), (∀ c, c < 33 → B c = hi c) → (∀ c, 10 < c → G c = hi (34 + c)) → mSt G (cm_sf hi 5) → (0 < k → B 33 3 = (cMin F k).1) → (∀ i, i < k → lmVal (cm_sf hi 5) nb ns n sal by_ i (F i)) → ∀ x7 x8 : Option Value, cm_g D mX0_leastMissed (d + 6) 0 0 (fun r9 h9 => ∃ H, h9 = (sh, H, hl, hr) ∧ (∀ c, c < 33 ∨ 44 < c → H c = hi c) ∧ ∃ F g0, mEq g0 (cm_sf hi 5) ∧ (∀ i, i < nb → lmVal (cm_sf hi 5) nb ns n (mIt g0 nb ns n).2 (cWho (cm_sf hi 5) (mIt g0 nb ns n).1 nb) i (F i)) ∧ r9 = some (.int (nI (cMin F nb).2)) ∧ (0 < nb → H 33 3 = (cMin F nb).1)) 0 0 27 [some (.ref 33), some (.ref 5), some (.int (nI n)), some (.int (nI sal)), some (.int by_), some (.int (nI (cMin F k).2)), some (.int (nI k)), x7, x8] [] (sh, cm_us B 34 G, hl, hr) := by
  intro q
  induction q with
  | zero =>
    intro k hk F B G hB hG hSt hbs hF x7 x8
    have h1 : k = nb := by omega
    subst h1
    refine cm_iload6 (pc := 27) dX0_leastMissed_27 ?_
    refine cm_aload1 (pc := 29) dX0_leastMissed_29 ?_
    refine cm_getI (pc := 30) flX0_68 dX0_leastMissed_30 hX.mp.1 ?_
    refine cm_top_eq (show cm_us B 34 G 5 3 = nI k by rw [cm_us_lt (by decide), hB 5 (by decide)]; exact hb5) ?_
    refine cm_geN (pc := 33) (tgt := 114) dX0_leastMissed_33 (by decide) (by omega) (by omega) (fun c33 => ?_) (fun c33 => ?_)
    · refine cm_iload5 (pc := 114) dX0_leastMissed_114 ?_
      refine cm_iret (pc := 116) dX0_leastMissed_116 rfl ⟨_, rfl, fun c hc => ?_, F, g0, m0, by rw [← hsal, ← hby]; exact hF, rfl, fun h0 => by rw [cm_us_lt (by decide)]; exact hbs h0⟩
      rcases hc with hc | hc
      · rw [cm_us_lt (by omega), hB c hc]
      · rw [show cm_us B 34 G c = G (c - 34) by unfold cm_us; rw [if_pos (by omega)], hG (c - 34) (by omega), show 34 + (c - 34) = c by omega]
    · exact absurd c33 (by omega)
  | succ q ih =>
    intro k hk F B G hB hG hSt hbs hF x7 x8
    have hst := ih (k + 1) (by omega)
    refine cm_iload6 (pc := 27) dX0_leastMissed_27 ?_
    refine cm_aload1 (pc := 29) dX0_leastMissed_29 ?_
    refine cm_getI (pc := 30) flX0_68 dX0_leastMissed_30 hX.mp.1 ?_
    refine cm_top_eq (show cm_us B 34 G 5 3 = nI nb by rw [cm_us_lt (by decide), hB 5 (by decide)]; exact hb5) ?_
    refine cm_geN (pc := 33) (tgt := 114) dX0_leastMissed_33 (by decide) (by omega) (by omega) (fun c33 => ?_) (fun c33 => ?_)
    · exact absurd c33 (by omega)
    · refine cm_aload0 (pc := 36) dX0_leastMissed_36 ?_
      refine cm_getR (pc := 37) flX0_12 dX0_leastMissed_37 hX.of hX.rf0 ?_
      refine cm_aload1 (pc := 40) dX0_leastMissed_40 ?_
      refine cm_V1 (pc := 41) mX2_takeWhatMoves_v mlX0_83 dX0_leastMissed_41 hX.mf.1 (by omega) (Nat.le_of_ble_eq_true rfl) (Nat.le_refl _) (Nat.le_refl _) (k_takeWhatMoves (d := d + 4) hX.mf hX.mp (by omega)) (fun r41 h41 hq41 => ?_)
      obtain ⟨rfl, H41, rfl, t41⟩ := hq41
      have e5 : ∀ c, c < 33 → H41 c = hi c := fun c hc => by
        rw [t41.1 c (by omega) (by omega) (by omega) (by omega) (by omega), cm_us_lt (by omega)]
        exact hB c hc
      have e33 : H41 33 = B 33 := by rw [t41.1 33 (by omega) (by omega) (by omega) (by omega) (by omega), cm_us_lt (by omega)]
      have hc9 : ∀ c, 10 < c → cm_sf H41 34 c = hi (34 + c) := fun c hc => by
        show H41 (34 + c) = _
        rw [t41.1 (34 + c) (by omega) (by omega) (by omega) (by omega) (by omega), cm_us_at]
        exact hG c hc
      have hM5 : ∀ c, c ≤ 10 → cm_sf (cm_us B 34 G) 5 c = cm_sf hi 5 c := fun c hc => by
        show cm_us B 34 G (5 + c) = _
        rw [cm_us_lt (by omega), hB _ (by omega)]
        rfl
      have q1 := t41.eq (by
        rw [cm_sf_us]
        refine ⟨?_, fun c hc i hi6 => ?_, fun i hi2 => ?_⟩
        · rw [hM5 0 (by decide)]; exact hSt.1
        · rw [hM5 c (by omega)]; exact hSt.2.1 c hc i hi6
        · rw [hM5 10 (by decide)]; exact hSt.2.2 i hi2)
      have q2 : mEq (cm_sf H41 34) (cm_sf hi 5) := ⟨fun j hj => by rw [q1.1 j hj, hM5 0 (by decide)], fun c h1 h9 i hi6 => by rw [q1.2.1 c h1 h9 i hi6, hM5 c (by omega)], fun i hi2 => by rw [q1.2.2 i hi2, hM5 10 (by decide)]⟩
      have hok := h.congr q2
      have hok4 := hok.w4 (i := k)
      refine cm_h_eq (show (sh, H41, hl, hr) = (sh, cm_us H41 34 (cm_sf H41 34), hl, hr) by rw [cm_us_sf]) ?_
      refine cm_aload0 (pc := 44) dX0_leastMissed_44 ?_
      refine cm_getR (pc := 45) flX0_12 dX0_leastMissed_45 hX.of hX.rf0 ?_
      refine cm_getR (pc := 48) flX0_30 dX0_leastMissed_48 hX.mf.1 hX.mf.r10 ?_
      refine cm_iload6 (pc := 51) dX0_leastMissed_51 ?_
      refine cm_iconst (pc := 53) (v := 4) dX0_leastMissed_53 (by decide) ?_
      refine mk_put (pc := 54) dX0_leastMissed_54 hX.mf.a7 (by omega) (by decide) ?_
      refine cm_iload3 (pc := 55) dX0_leastMissed_55 ?_
      refine cm_iload4 (pc := 56) dX0_leastMissed_56 ?_
      refine cm_iload6 (pc := 58) dX0_leastMissed_58 ?_
      refine cm_S2 (pc := 60) mX6_isIn_s mlX0_116 dX0_leastMissed_60 (by omega) (Nat.le_of_ble_eq_true rfl) (Nat.le_refl _) (Nat.le_refl _) (k_isIn (d := d + 5) ) (fun r60 h60 hq60 => ?_)
      obtain ⟨rfl, rfl⟩ := hq60
      refine cm_ifeqB (pc := 63) (tgt := 70) dX0_leastMissed_63 (by decide) (fun c63 => ?_) (fun c63 => ?_)
      · have hbi : cm_bi (isI by_ (nI k)) = 0 := by rw [c63]; rfl
        refine cm_iconst (pc := 70) (v := 0) dX0_leastMissed_70 (by decide) ?_
        refine cm_isub (pc := 71) dX0_leastMissed_71 ?_
        rw [← hbi]
        refine cm_istore7 (pc := 72) dX0_leastMissed_72 (by decide) rfl ?_
        refine cm_iload7 (pc := 74) dX0_leastMissed_74 ?_
        refine cm_aload0 (pc := 76) dX0_leastMissed_76 ?_
        refine cm_iload2 (pc := 77) dX0_leastMissed_77 ?_
        refine cm_V1 (pc := 78) mX0_pass_v mlX0_48 dX0_leastMissed_78 hX.of (by omega) (Nat.le_of_ble_eq_true rfl) (Nat.le_refl _) (Nat.le_refl _) (k_pass (d := d + 1) hX hok4 hn) (fun r78 h78 hq78 => ?_)
        obtain ⟨rfl, rfl⟩ := hq78
        refine cm_isub (pc := 81) dX0_leastMissed_81 ?_
        generalize hvv : nI sal - cm_bi (isI by_ (nI k)) - nI (mIt (va_up (cm_sf H41 34) 7 (upd (cm_sf H41 34 7) k 4)) nb ns n).2 = vv at *
        refine cm_istore8 (pc := 82) dX0_leastMissed_82 (by decide) rfl ?_
        refine cm_iload6 (pc := 84) dX0_leastMissed_84 ?_
        refine cm_if_eq (pc := 86) (tgt := 98) dX0_leastMissed_86 (by decide) (fun c86 => ?_) (fun c86 => ?_)
        · have hk0 : k = 0 := by
            rcases Nat.eq_zero_or_pos k with w | w
            · exact w
            · exact absurd c86 (nI_ne0 w (by omega))
          refine cm_aload0 (pc := 98) dX0_leastMissed_98 ?_
          refine cm_iload8 (pc := 99) dX0_leastMissed_99 ?_
          refine cm_putI (pc := 101) fpX0_44 dX0_leastMissed_101 hX.of ?_
          
          refine cm_iload6 (pc := 104) dX0_leastMissed_104 ?_
          refine cm_istore5 (pc := 106) dX0_leastMissed_106 (by decide) rfl ?_
          refine cm_incN6 (pc := 108) dX0_leastMissed_108 (by decide) rfl ?_
          refine cm_goto (tgt := 27) (pc := 111) dX0_leastMissed_111 (by decide) ?_
          have hcg : cMin (upd F k vv) k = cMin F k := cMin_congr k (fun i hi => by simp only [upd]; rw [if_neg (by omega)])
          have hvk : upd F k vv k = vv := if_pos rfl
          have hF2 : ∀ i, i < k + 1 → lmVal (cm_sf hi 5) nb ns n sal by_ i (upd F k vv i) := fun i hi => by
            by_cases e : i = k
            · subst e
              rw [hvk, ← hvv]
              exact ⟨_, q2, rfl⟩
            · rw [show upd F k vv i = F i from if_neg e]
              exact hF i (by omega)
          have hSt2 : mSt (mIt (va_up (cm_sf H41 34) 7 (upd (cm_sf H41 34 7) k 4)) nb ns n).1 (cm_sf hi 5) := (mItW_st n).trans (by
            have := q2.st
            refine ⟨this.1, fun c hc => ?_, this.2.2⟩
            rw [va_up_ne _ _ (by omega)]
            exact this.2.1 c hc)
          have hG2 : ∀ c, 10 < c → (mIt (va_up (cm_sf H41 34) 7 (upd (cm_sf H41 34 7) k 4)) nb ns n).1 c = hi (34 + c) := fun c hc => by
            rw [mItW_c (by omega), va_up_ne _ _ (by omega)]
            exact hc9 c hc
          first
            | (have HC : k = 0 ∨ vv < (cMin F k).1 := Or.inl hk0
               have hcm : cMin (upd F k vv) (k + 1) = (vv, k) := by
                 show (if k = 0 ∨ upd F k vv k < (cMin (upd F k vv) k).1 then (upd F k vv k, k) else cMin (upd F k vv) k) = _
                 rw [hcg, hvk, if_pos HC]
               have hst2 := hst (upd F k vv) (va_up H41 33 (upd (H41 33) 3 vv)) (mIt (va_up (cm_sf H41 34) 7 (upd (cm_sf H41 34 7) k 4)) nb ns n).1 (fun c hc => by rw [va_up_ne _ _ (by omega)]; exact e5 c hc) hG2 hSt2 (fun _ => by rw [hcm, va_up_self]; exact if_pos rfl) hF2
               rw [hcm] at hst2
               refine cm_h_eq ?_ (hst2 _ _)
               congr 2
               funext c
               by_cases e : c = 33
               · subst e
                 rw [va_up_self, cm_us_lt (by decide), cm_us_lt (by decide), va_up_self]
               · rw [va_up_ne _ _ e]
                 unfold cm_us
                 split
                 · rfl
                 · rw [va_up_ne _ _ e])
            | (have HC : k = 0 ∨ vv < (cMin F k).1 := Or.inr c95
               have hcm : cMin (upd F k vv) (k + 1) = (vv, k) := by
                 show (if k = 0 ∨ upd F k vv k < (cMin (upd F k vv) k).1 then (upd F k vv k, k) else cMin (upd F k vv) k) = _
                 rw [hcg, hvk, if_pos HC]
               have hst2 := hst (upd F k vv) (va_up H41 33 (upd (H41 33) 3 vv)) (mIt (va_up (cm_sf H41 34) 7 (upd (cm_sf H41 34 7) k 4)) nb ns n).1 (fun c hc => by rw [va_up_ne _ _ (by omega)]; exact e5 c hc) hG2 hSt2 (fun _ => by rw [hcm, va_up_self]; exact if_pos rfl) hF2
               rw [hcm] at hst2
               refine cm_h_eq ?_ (hst2 _ _)
               congr 2
               funext c
               by_cases e : c = 33
               · subst e
                 rw [va_up_self, cm_us_lt (by decide), cm_us_lt (by decide), va_up_self]
               · rw [va_up_ne _ _ e]
                 unfold cm_us
                 split
                 · rfl
                 · rw [va_up_ne _ _ e])
        · have hk0 : ¬ k = 0 := fun w => by subst w; exact c86 rfl
          refine cm_iload8 (pc := 89) dX0_leastMissed_89 ?_
          refine cm_aload0 (pc := 91) dX0_leastMissed_91 ?_
          refine cm_getI (pc := 92) flX0_44 dX0_leastMissed_92 hX.of ?_
          rw [show cm_us H41 34 (mIt (va_up (cm_sf H41 34) 7 (upd (cm_sf H41 34 7) k 4)) nb ns n).1 33 3 = (cMin F k).1 by rw [cm_us_lt (by decide), e33]; exact hbs (Nat.pos_of_ne_zero hk0)]
          refine cm_icmp_ge (pc := 95) (tgt := 108) dX0_leastMissed_95 (by decide) (fun c95 => ?_) (fun c95 => ?_)
          · refine cm_incN6 (pc := 108) dX0_leastMissed_108 (by decide) rfl ?_
            refine cm_goto (tgt := 27) (pc := 111) dX0_leastMissed_111 (by decide) ?_
            have hcg : cMin (upd F k vv) k = cMin F k := cMin_congr k (fun i hi => by simp only [upd]; rw [if_neg (by omega)])
            have hvk : upd F k vv k = vv := if_pos rfl
            have hF2 : ∀ i, i < k + 1 → lmVal (cm_sf hi 5) nb ns n sal by_ i (upd F k vv i) := fun i hi => by
              by_cases e : i = k
              · subst e
                rw [hvk, ← hvv]
                exact ⟨_, q2, rfl⟩
              · rw [show upd F k vv i = F i from if_neg e]
                exact hF i (by omega)
            have hSt2 : mSt (mIt (va_up (cm_sf H41 34) 7 (upd (cm_sf H41 34 7) k 4)) nb ns n).1 (cm_sf hi 5) := (mItW_st n).trans (by
              have := q2.st
              refine ⟨this.1, fun c hc => ?_, this.2.2⟩
              rw [va_up_ne _ _ (by omega)]
              exact this.2.1 c hc)
            have hG2 : ∀ c, 10 < c → (mIt (va_up (cm_sf H41 34) 7 (upd (cm_sf H41 34 7) k 4)) nb ns n).1 c = hi (34 + c) := fun c hc => by
              rw [mItW_c (by omega), va_up_ne _ _ (by omega)]
              exact hc9 c hc
            have hcm : cMin (upd F k vv) (k + 1) = cMin F k := by
              show (if k = 0 ∨ upd F k vv k < (cMin (upd F k vv) k).1 then (upd F k vv k, k) else cMin (upd F k vv) k) = _
              rw [hcg, hvk, if_neg (fun w => w.elim hk0 (fun w => absurd w (Int32.not_lt.mpr c95)))]
            have hst2 := hst (upd F k vv) H41 (mIt (va_up (cm_sf H41 34) 7 (upd (cm_sf H41 34 7) k 4)) nb ns n).1 e5 hG2 hSt2 (fun h0 => by rw [hcm, e33]; exact hbs (Nat.pos_of_ne_zero hk0)) hF2
            rw [hcm] at hst2
            exact hst2 _ _
          · have c95 := Int32.not_le.mp c95
            refine cm_aload0 (pc := 98) dX0_leastMissed_98 ?_
            refine cm_iload8 (pc := 99) dX0_leastMissed_99 ?_
            refine cm_putI (pc := 101) fpX0_44 dX0_leastMissed_101 hX.of ?_
            
            refine cm_iload6 (pc := 104) dX0_leastMissed_104 ?_
            refine cm_istore5 (pc := 106) dX0_leastMissed_106 (by decide) rfl ?_
            refine cm_incN6 (pc := 108) dX0_leastMissed_108 (by decide) rfl ?_
            refine cm_goto (tgt := 27) (pc := 111) dX0_leastMissed_111 (by decide) ?_
            have hcg : cMin (upd F k vv) k = cMin F k := cMin_congr k (fun i hi => by simp only [upd]; rw [if_neg (by omega)])
            have hvk : upd F k vv k = vv := if_pos rfl
            have hF2 : ∀ i, i < k + 1 → lmVal (cm_sf hi 5) nb ns n sal by_ i (upd F k vv i) := fun i hi => by
              by_cases e : i = k
              · subst e
                rw [hvk, ← hvv]
                exact ⟨_, q2, rfl⟩
              · rw [show upd F k vv i = F i from if_neg e]
                exact hF i (by omega)
            have hSt2 : mSt (mIt (va_up (cm_sf H41 34) 7 (upd (cm_sf H41 34 7) k 4)) nb ns n).1 (cm_sf hi 5) := (mItW_st n).trans (by
              have := q2.st
              refine ⟨this.1, fun c hc => ?_, this.2.2⟩
              rw [va_up_ne _ _ (by omega)]
              exact this.2.1 c hc)
            have hG2 : ∀ c, 10 < c → (mIt (va_up (cm_sf H41 34) 7 (upd (cm_sf H41 34 7) k 4)) nb ns n).1 c = hi (34 + c) := fun c hc => by
              rw [mItW_c (by omega), va_up_ne _ _ (by omega)]
              exact hc9 c hc
            first
              | (have HC : k = 0 ∨ vv < (cMin F k).1 := Or.inl hk0
                 have hcm : cMin (upd F k vv) (k + 1) = (vv, k) := by
                   show (if k = 0 ∨ upd F k vv k < (cMin (upd F k vv) k).1 then (upd F k vv k, k) else cMin (upd F k vv) k) = _
                   rw [hcg, hvk, if_pos HC]
                 have hst2 := hst (upd F k vv) (va_up H41 33 (upd (H41 33) 3 vv)) (mIt (va_up (cm_sf H41 34) 7 (upd (cm_sf H41 34 7) k 4)) nb ns n).1 (fun c hc => by rw [va_up_ne _ _ (by omega)]; exact e5 c hc) hG2 hSt2 (fun _ => by rw [hcm, va_up_self]; exact if_pos rfl) hF2
                 rw [hcm] at hst2
                 refine cm_h_eq ?_ (hst2 _ _)
                 congr 2
                 funext c
                 by_cases e : c = 33
                 · subst e
                   rw [va_up_self, cm_us_lt (by decide), cm_us_lt (by decide), va_up_self]
                 · rw [va_up_ne _ _ e]
                   unfold cm_us
                   split
                   · rfl
                   · rw [va_up_ne _ _ e])
              | (have HC : k = 0 ∨ vv < (cMin F k).1 := Or.inr c95
                 have hcm : cMin (upd F k vv) (k + 1) = (vv, k) := by
                   show (if k = 0 ∨ upd F k vv k < (cMin (upd F k vv) k).1 then (upd F k vv k, k) else cMin (upd F k vv) k) = _
                   rw [hcg, hvk, if_pos HC]
                 have hst2 := hst (upd F k vv) (va_up H41 33 (upd (H41 33) 3 vv)) (mIt (va_up (cm_sf H41 34) 7 (upd (cm_sf H41 34 7) k 4)) nb ns n).1 (fun c hc => by rw [va_up_ne _ _ (by omega)]; exact e5 c hc) hG2 hSt2 (fun _ => by rw [hcm, va_up_self]; exact if_pos rfl) hF2
                 rw [hcm] at hst2
                 refine cm_h_eq ?_ (hst2 _ _)
                 congr 2
                 funext c
                 by_cases e : c = 33
                 · subst e
                   rw [va_up_self, cm_us_lt (by decide), cm_us_lt (by decide), va_up_self]
                 · rw [va_up_ne _ _ e]
                   unfold cm_us
                   split
                   · rfl
                   · rw [va_up_ne _ _ e])
      · have hbi : cm_bi (isI by_ (nI k)) = 1 := by rw [c63]; rfl
        refine cm_iconst (pc := 66) (v := 1) dX0_leastMissed_66 (by decide) ?_
        refine cm_goto (pc := 67) (tgt := 71) dX0_leastMissed_67 (by decide) ?_
        refine cm_isub (pc := 71) dX0_leastMissed_71 ?_
        rw [← hbi]
        refine cm_istore7 (pc := 72) dX0_leastMissed_72 (by decide) rfl ?_
        refine cm_iload7 (pc := 74) dX0_leastMissed_74 ?_
        refine cm_aload0 (pc := 76) dX0_leastMissed_76 ?_
        refine cm_iload2 (pc := 77) dX0_leastMissed_77 ?_
        refine cm_V1 (pc := 78) mX0_pass_v mlX0_48 dX0_leastMissed_78 hX.of (by omega) (Nat.le_of_ble_eq_true rfl) (Nat.le_refl _) (Nat.le_refl _) (k_pass (d := d + 1) hX hok4 hn) (fun r78 h78 hq78 => ?_)
        obtain ⟨rfl, rfl⟩ := hq78
        refine cm_isub (pc := 81) dX0_leastMissed_81 ?_
        generalize hvv : nI sal - cm_bi (isI by_ (nI k)) - nI (mIt (va_up (cm_sf H41 34) 7 (upd (cm_sf H41 34 7) k 4)) nb ns n).2 = vv at *
        refine cm_istore8 (pc := 82) dX0_leastMissed_82 (by decide) rfl ?_
        refine cm_iload6 (pc := 84) dX0_leastMissed_84 ?_
        refine cm_if_eq (pc := 86) (tgt := 98) dX0_leastMissed_86 (by decide) (fun c86 => ?_) (fun c86 => ?_)
        · have hk0 : k = 0 := by
            rcases Nat.eq_zero_or_pos k with w | w
            · exact w
            · exact absurd c86 (nI_ne0 w (by omega))
          refine cm_aload0 (pc := 98) dX0_leastMissed_98 ?_
          refine cm_iload8 (pc := 99) dX0_leastMissed_99 ?_
          refine cm_putI (pc := 101) fpX0_44 dX0_leastMissed_101 hX.of ?_
          
          refine cm_iload6 (pc := 104) dX0_leastMissed_104 ?_
          refine cm_istore5 (pc := 106) dX0_leastMissed_106 (by decide) rfl ?_
          refine cm_incN6 (pc := 108) dX0_leastMissed_108 (by decide) rfl ?_
          refine cm_goto (tgt := 27) (pc := 111) dX0_leastMissed_111 (by decide) ?_
          have hcg : cMin (upd F k vv) k = cMin F k := cMin_congr k (fun i hi => by simp only [upd]; rw [if_neg (by omega)])
          have hvk : upd F k vv k = vv := if_pos rfl
          have hF2 : ∀ i, i < k + 1 → lmVal (cm_sf hi 5) nb ns n sal by_ i (upd F k vv i) := fun i hi => by
            by_cases e : i = k
            · subst e
              rw [hvk, ← hvv]
              exact ⟨_, q2, rfl⟩
            · rw [show upd F k vv i = F i from if_neg e]
              exact hF i (by omega)
          have hSt2 : mSt (mIt (va_up (cm_sf H41 34) 7 (upd (cm_sf H41 34 7) k 4)) nb ns n).1 (cm_sf hi 5) := (mItW_st n).trans (by
            have := q2.st
            refine ⟨this.1, fun c hc => ?_, this.2.2⟩
            rw [va_up_ne _ _ (by omega)]
            exact this.2.1 c hc)
          have hG2 : ∀ c, 10 < c → (mIt (va_up (cm_sf H41 34) 7 (upd (cm_sf H41 34 7) k 4)) nb ns n).1 c = hi (34 + c) := fun c hc => by
            rw [mItW_c (by omega), va_up_ne _ _ (by omega)]
            exact hc9 c hc
          first
            | (have HC : k = 0 ∨ vv < (cMin F k).1 := Or.inl hk0
               have hcm : cMin (upd F k vv) (k + 1) = (vv, k) := by
                 show (if k = 0 ∨ upd F k vv k < (cMin (upd F k vv) k).1 then (upd F k vv k, k) else cMin (upd F k vv) k) = _
                 rw [hcg, hvk, if_pos HC]
               have hst2 := hst (upd F k vv) (va_up H41 33 (upd (H41 33) 3 vv)) (mIt (va_up (cm_sf H41 34) 7 (upd (cm_sf H41 34 7) k 4)) nb ns n).1 (fun c hc => by rw [va_up_ne _ _ (by omega)]; exact e5 c hc) hG2 hSt2 (fun _ => by rw [hcm, va_up_self]; exact if_pos rfl) hF2
               rw [hcm] at hst2
               refine cm_h_eq ?_ (hst2 _ _)
               congr 2
               funext c
               by_cases e : c = 33
               · subst e
                 rw [va_up_self, cm_us_lt (by decide), cm_us_lt (by decide), va_up_self]
               · rw [va_up_ne _ _ e]
                 unfold cm_us
                 split
                 · rfl
                 · rw [va_up_ne _ _ e])
            | (have HC : k = 0 ∨ vv < (cMin F k).1 := Or.inr c95
               have hcm : cMin (upd F k vv) (k + 1) = (vv, k) := by
                 show (if k = 0 ∨ upd F k vv k < (cMin (upd F k vv) k).1 then (upd F k vv k, k) else cMin (upd F k vv) k) = _
                 rw [hcg, hvk, if_pos HC]
               have hst2 := hst (upd F k vv) (va_up H41 33 (upd (H41 33) 3 vv)) (mIt (va_up (cm_sf H41 34) 7 (upd (cm_sf H41 34 7) k 4)) nb ns n).1 (fun c hc => by rw [va_up_ne _ _ (by omega)]; exact e5 c hc) hG2 hSt2 (fun _ => by rw [hcm, va_up_self]; exact if_pos rfl) hF2
               rw [hcm] at hst2
               refine cm_h_eq ?_ (hst2 _ _)
               congr 2
               funext c
               by_cases e : c = 33
               · subst e
                 rw [va_up_self, cm_us_lt (by decide), cm_us_lt (by decide), va_up_self]
               · rw [va_up_ne _ _ e]
                 unfold cm_us
                 split
                 · rfl
                 · rw [va_up_ne _ _ e])
        · have hk0 : ¬ k = 0 := fun w => by subst w; exact c86 rfl
          refine cm_iload8 (pc := 89) dX0_leastMissed_89 ?_
          refine cm_aload0 (pc := 91) dX0_leastMissed_91 ?_
          refine cm_getI (pc := 92) flX0_44 dX0_leastMissed_92 hX.of ?_
          rw [show cm_us H41 34 (mIt (va_up (cm_sf H41 34) 7 (upd (cm_sf H41 34 7) k 4)) nb ns n).1 33 3 = (cMin F k).1 by rw [cm_us_lt (by decide), e33]; exact hbs (Nat.pos_of_ne_zero hk0)]
          refine cm_icmp_ge (pc := 95) (tgt := 108) dX0_leastMissed_95 (by decide) (fun c95 => ?_) (fun c95 => ?_)
          · refine cm_incN6 (pc := 108) dX0_leastMissed_108 (by decide) rfl ?_
            refine cm_goto (tgt := 27) (pc := 111) dX0_leastMissed_111 (by decide) ?_
            have hcg : cMin (upd F k vv) k = cMin F k := cMin_congr k (fun i hi => by simp only [upd]; rw [if_neg (by omega)])
            have hvk : upd F k vv k = vv := if_pos rfl
            have hF2 : ∀ i, i < k + 1 → lmVal (cm_sf hi 5) nb ns n sal by_ i (upd F k vv i) := fun i hi => by
              by_cases e : i = k
              · subst e
                rw [hvk, ← hvv]
                exact ⟨_, q2, rfl⟩
              · rw [show upd F k vv i = F i from if_neg e]
                exact hF i (by omega)
            have hSt2 : mSt (mIt (va_up (cm_sf H41 34) 7 (upd (cm_sf H41 34 7) k 4)) nb ns n).1 (cm_sf hi 5) := (mItW_st n).trans (by
              have := q2.st
              refine ⟨this.1, fun c hc => ?_, this.2.2⟩
              rw [va_up_ne _ _ (by omega)]
              exact this.2.1 c hc)
            have hG2 : ∀ c, 10 < c → (mIt (va_up (cm_sf H41 34) 7 (upd (cm_sf H41 34 7) k 4)) nb ns n).1 c = hi (34 + c) := fun c hc => by
              rw [mItW_c (by omega), va_up_ne _ _ (by omega)]
              exact hc9 c hc
            have hcm : cMin (upd F k vv) (k + 1) = cMin F k := by
              show (if k = 0 ∨ upd F k vv k < (cMin (upd F k vv) k).1 then (upd F k vv k, k) else cMin (upd F k vv) k) = _
              rw [hcg, hvk, if_neg (fun w => w.elim hk0 (fun w => absurd w (Int32.not_lt.mpr c95)))]
            have hst2 := hst (upd F k vv) H41 (mIt (va_up (cm_sf H41 34) 7 (upd (cm_sf H41 34 7) k 4)) nb ns n).1 e5 hG2 hSt2 (fun h0 => by rw [hcm, e33]; exact hbs (Nat.pos_of_ne_zero hk0)) hF2
            rw [hcm] at hst2
            exact hst2 _ _
          · have c95 := Int32.not_le.mp c95
            refine cm_aload0 (pc := 98) dX0_leastMissed_98 ?_
            refine cm_iload8 (pc := 99) dX0_leastMissed_99 ?_
            refine cm_putI (pc := 101) fpX0_44 dX0_leastMissed_101 hX.of ?_
            
            refine cm_iload6 (pc := 104) dX0_leastMissed_104 ?_
            refine cm_istore5 (pc := 106) dX0_leastMissed_106 (by decide) rfl ?_
            refine cm_incN6 (pc := 108) dX0_leastMissed_108 (by decide) rfl ?_
            refine cm_goto (tgt := 27) (pc := 111) dX0_leastMissed_111 (by decide) ?_
            have hcg : cMin (upd F k vv) k = cMin F k := cMin_congr k (fun i hi => by simp only [upd]; rw [if_neg (by omega)])
            have hvk : upd F k vv k = vv := if_pos rfl
            have hF2 : ∀ i, i < k + 1 → lmVal (cm_sf hi 5) nb ns n sal by_ i (upd F k vv i) := fun i hi => by
              by_cases e : i = k
              · subst e
                rw [hvk, ← hvv]
                exact ⟨_, q2, rfl⟩
              · rw [show upd F k vv i = F i from if_neg e]
                exact hF i (by omega)
            have hSt2 : mSt (mIt (va_up (cm_sf H41 34) 7 (upd (cm_sf H41 34 7) k 4)) nb ns n).1 (cm_sf hi 5) := (mItW_st n).trans (by
              have := q2.st
              refine ⟨this.1, fun c hc => ?_, this.2.2⟩
              rw [va_up_ne _ _ (by omega)]
              exact this.2.1 c hc)
            have hG2 : ∀ c, 10 < c → (mIt (va_up (cm_sf H41 34) 7 (upd (cm_sf H41 34 7) k 4)) nb ns n).1 c = hi (34 + c) := fun c hc => by
              rw [mItW_c (by omega), va_up_ne _ _ (by omega)]
              exact hc9 c hc
            first
              | (have HC : k = 0 ∨ vv < (cMin F k).1 := Or.inl hk0
                 have hcm : cMin (upd F k vv) (k + 1) = (vv, k) := by
                   show (if k = 0 ∨ upd F k vv k < (cMin (upd F k vv) k).1 then (upd F k vv k, k) else cMin (upd F k vv) k) = _
                   rw [hcg, hvk, if_pos HC]
                 have hst2 := hst (upd F k vv) (va_up H41 33 (upd (H41 33) 3 vv)) (mIt (va_up (cm_sf H41 34) 7 (upd (cm_sf H41 34 7) k 4)) nb ns n).1 (fun c hc => by rw [va_up_ne _ _ (by omega)]; exact e5 c hc) hG2 hSt2 (fun _ => by rw [hcm, va_up_self]; exact if_pos rfl) hF2
                 rw [hcm] at hst2
                 refine cm_h_eq ?_ (hst2 _ _)
                 congr 2
                 funext c
                 by_cases e : c = 33
                 · subst e
                   rw [va_up_self, cm_us_lt (by decide), cm_us_lt (by decide), va_up_self]
                 · rw [va_up_ne _ _ e]
                   unfold cm_us
                   split
                   · rfl
                   · rw [va_up_ne _ _ e])
              | (have HC : k = 0 ∨ vv < (cMin F k).1 := Or.inr c95
                 have hcm : cMin (upd F k vv) (k + 1) = (vv, k) := by
                   show (if k = 0 ∨ upd F k vv k < (cMin (upd F k vv) k).1 then (upd F k vv k, k) else cMin (upd F k vv) k) = _
                   rw [hcg, hvk, if_pos HC]
                 have hst2 := hst (upd F k vv) (va_up H41 33 (upd (H41 33) 3 vv)) (mIt (va_up (cm_sf H41 34) 7 (upd (cm_sf H41 34 7) k 4)) nb ns n).1 (fun c hc => by rw [va_up_ne _ _ (by omega)]; exact e5 c hc) hG2 hSt2 (fun _ => by rw [hcm, va_up_self]; exact if_pos rfl) hF2
                 rw [hcm] at hst2
                 refine cm_h_eq ?_ (hst2 _ _)
                 congr 2
                 funext c
                 by_cases e : c = 33
                 · subst e
                   rw [va_up_self, cm_us_lt (by decide), cm_us_lt (by decide), va_up_self]
                 · rw [va_up_ne _ _ e]
                   unfold cm_us
                   split
                   · rfl
                   · rw [va_up_ne _ _ e])
set_option maxRecDepth 20000 in
theorem k_leastMissed (hX : cm_cls sh hr) {n : Nat} (h : mOk (cm_sf hi 5) nb ns) (hn : n < 2147483648) : cm_ct D mX0_leastMissed (d + 6) 0 0 [.ref 33, .ref 5, .int (nI n)] (sh, hi, hl, hr) (fun r9 h9 => ∃ H, h9 = (sh, H, hl, hr) ∧ (∀ c, c < 33 ∨ 44 < c → H c = hi c) ∧ ∃ F g0, mEq g0 (cm_sf hi 5) ∧ (∀ i, i < nb → lmVal (cm_sf hi 5) nb ns n (mIt g0 nb ns n).2 (cWho (cm_sf hi 5) (mIt g0 nb ns n).1 nb) i (F i)) ∧ r9 = some (.int (nI (cMin F nb).2)) ∧ (0 < nb → H 33 3 = (cMin F nb).1)) := by
  refine cm_ct_of (ls := [some (.ref 33), some (.ref 5), some (.int (nI n)), none, none, none, none, none, none]) 6 (by decide +kernel) rfl rfl ?_
  refine cm_aload0 (pc := 0) dX0_leastMissed_0 ?_
  refine cm_getR (pc := 1) flX0_12 dX0_leastMissed_1 hX.of hX.rf0 ?_
  refine cm_aload1 (pc := 4) dX0_leastMissed_4 ?_
  refine cm_V1 (pc := 5) mX2_take_v mlX0_33 dX0_leastMissed_5 hX.mf.1 (by omega) (Nat.le_of_ble_eq_true rfl) (Nat.le_refl _) (Nat.le_refl _) (k_take hX.mf hX.mp (by omega) (d := d + 4)) (fun r5 h5 hq5 => ?_)
  obtain ⟨rfl, H5, rfl, t5⟩ := hq5
  have m5 := t5.eq
  have P5 : ∀ c, c < 34 → H5 c = hi c := fun c hc => t5.1 c (Or.inl hc)
  have Q5 : ∀ c, 44 < c → H5 c = hi c := fun c hc => t5.1 c (Or.inr hc)
  have h0 := h.congr m5
  refine cm_h_eq (show (sh, H5, hl, hr) = (sh, cm_us H5 34 (cm_sf H5 34), hl, hr) by rw [cm_us_sf]) ?_
  have hgc : ∀ c, cm_sf H5 34 c = H5 (34 + c) := fun c => rfl
  generalize hgd : cm_sf H5 34 = g at *
  have hb := h0.1.1
  have hnb := h0.1.2.1
  have hs := h0.1.2.2.1
  have hns := h0.1.2.2.2
  refine cm_aload0 (pc := 8) dX0_leastMissed_8 ?_
  refine cm_iload2 (pc := 9) dX0_leastMissed_9 ?_
  refine cm_V1 (pc := 10) mX0_pass_v mlX0_48 dX0_leastMissed_10 hX.of (by omega) (Nat.le_of_ble_eq_true rfl) (Nat.le_refl _) (Nat.le_refl _) (k_pass (d := d + 1) hX h0 hn) (fun r10 h10 hq10 => ?_)
  obtain ⟨rfl, rfl⟩ := hq10
  have hb5 : H5 5 3 = nI nb := by rw [P5 5 (by decide)]; exact h.1.1
  refine cm_istore3 (pc := 13) dX0_leastMissed_13 (by decide) rfl ?_
  refine cm_aload0 (pc := 14) dX0_leastMissed_14 ?_
  refine cm_aload1 (pc := 15) dX0_leastMissed_15 ?_
  refine cm_V1 (pc := 16) mX0_whoBought_v mlX0_112 dX0_leastMissed_16 hX.of (by omega) (Nat.le_of_ble_eq_true rfl) (Nat.le_refl _) (Nat.le_refl _) (k_whoBought (d := d + 5) hX hb5 hnb) (fun r16 h16 hq16 => ?_)
  obtain ⟨rfl, rfl⟩ := hq16
  rw [show cWho (cm_sf H5 5) (mIt g nb ns n).1 nb = cWho (cm_sf hi 5) (mIt g nb ns n).1 nb by
    have : ∀ q, cWho (cm_sf H5 5) (mIt g nb ns n).1 q = cWho (cm_sf hi 5) (mIt g nb ns n).1 q := by
      intro q
      induction q with
      | zero => rfl
      | succ q ih => simp only [cWho]; rw [ih, show cm_sf H5 5 7 = cm_sf hi 5 7 from P5 12 (by decide)]
    exact this nb]
  refine cm_istore4 (pc := 19) dX0_leastMissed_19 (by decide) rfl ?_
  refine cm_iconst (pc := 21) (v := 0) dX0_leastMissed_21 (by decide) ?_
  refine cm_istore5 (pc := 22) dX0_leastMissed_22 (by decide) rfl ?_
  refine cm_iconst (pc := 24) (v := 0) dX0_leastMissed_24 (by decide) ?_
  refine cm_istore6 (pc := 25) dX0_leastMissed_25 (by decide) rfl ?_
  refine l_lm hX h hn m5 rfl rfl h.1.1 hnb nb 0 (by omega) (fun _ => 0) H5 _ (fun c hc => P5 c (by omega)) (fun c hc => by rw [mItW_c (by omega), hgc c, Q5 _ (by omega)]) ((mItW_st n).trans m5.st) (fun w => absurd w (Nat.lt_irrefl 0)) (fun i hi => absurd hi (Nat.not_lt_zero _)) _ _
end FO3
