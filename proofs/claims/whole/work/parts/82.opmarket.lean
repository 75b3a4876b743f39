/-! PART opmarket: minutes, undo, turn, keep, on, fault, market: both sides -/
theorem mR.bd {g u : cm_g2} {nb ns B C : Nat} (h : mR g u nb ns B) (hc : (g 0 1).toInt ≤ C) : mR g u nb ns C := by
  obtain ⟨h1, h2, h3, h4, h5⟩ := h
  exact ⟨h1, h2, h3, ⟨h4.1, h4.2.1, hc⟩, h5⟩
/-- what moves, anew -/
theorem mR.mv {g u g' v : cm_g2} {nb ns B C : Nat} (h : mR g u nb ns B) (st : mSt g' g) (s0 : ∀ j, j = 8 ∨ j = 9 ∨ j = 10 → v 0 j = u 0 j) (sc : ∀ c, c = 7 ∨ c = 11 ∨ c = 12 ∨ c = 13 → ∀ i, i < 6 → v c i = u c i) (tm : v 0 19 = g' 0 1 ∧ 0 ≤ (g' 0 1).toInt ∧ (g' 0 1).toInt ≤ C) (b : ∀ i, i < nb → (v 8 i = g' 6 i ∧ v 9 i = g' 7 i ∧ v 10 i = g' 8 i) ∧ (0 ≤ (g' 6 i).toInt ∧ (g' 6 i).toInt < 20) ∧ 0 ≤ (g' 7 i).toInt ∧ (g' 7 i).toInt < 5) (s : ∀ k, k < ns → v 14 k = g' 4 k) (inc : ∀ i, i + 1 < nb → (g' 6 i).toInt < (g' 6 (i + 1)).toInt) : mR g' v nb ns C := by
  obtain ⟨h1, h2, h3, h4, h5, h6, h7, h8, h9⟩ := h
  have hnb := h1.1.2.1
  have hns := h1.1.2.2.2
  have hc : ∀ c, c = 1 ∨ c = 2 → ∀ i, i < 6 → g' c i = g c i := fun c hc i hi => st.2.1 c (by omega) i hi
  refine ⟨⟨⟨by rw [st.1.2.2]; exact h1.1.1, hnb, by rw [st.1.2.1]; exact h1.1.2.2.1, hns⟩, fun i hi => (b i hi).2.1, fun i hi => (b i hi).2.2, inc, fun x hx => by rw [st.2.2 x hx]; exact h1.2.2.2.2 x hx⟩, ⟨by rw [s0 9 (by omega), s0 10 (by omega)]; exact h2.1, fun i hi => by rw [(b i hi).1.1]; exact (b i hi).2.1, fun k hk => by rw [sc 11 (by omega) k (by omega)]; exact h2.2.2 k hk⟩, by rw [s0 8 (by omega), st.1.1]; exact h3, tm, fun i hi => ⟨?_, (b i hi).1⟩, fun k hk => ⟨?_, ?_, ?_, s k hk⟩, fun k hk => by rw [hc 2 (by omega) k (by omega)]; exact h7 k hk, fun i h0 hi => ?_, fun w s hw hs => ?_⟩
  · rw [sc 7 (by omega) i (by omega), st.2.1 5 (by omega) i (by omega)]; exact (h5 i hi).1
  · rw [sc 11 (by omega) k (by omega), hc 1 (by omega) k (by omega)]; exact (h6 k hk).1
  · rw [sc 12 (by omega) k (by omega), hc 2 (by omega) k (by omega)]; exact (h6 k hk).2.1
  · rw [sc 13 (by omega) k (by omega), st.2.1 3 (by omega) k (by omega)]; exact (h6 k hk).2.2.1
  · rw [st.2.1 9 (by omega) i (by omega), st.2.1 5 (by omega) i (by omega), st.2.1 5 (by omega) (i - 1) (by omega), st.1.1]; exact h8 i h0 hi
  · rw [st.2.2 _ (by omega), st.2.2 _ (by omega), tWay_cg hns hc, tWay_cg hns hc]
    exact h9 w s hw hs
theorem sell_pd {g : cm_g2} {nb ns M : Nat} {mv : Int32} (hns : ns ≤ 6) (h8 : ∀ i, i < nb → 0 ≤ (g 8 i).toInt ∧ (g 8 i).toInt ≤ M) (h3 : ∀ k, k < ns → 0 ≤ (g 3 k).toInt ∧ (g 3 k).toInt ≤ 99) (hM : M ≤ 100000) : ∀ n, n ≤ nb → (∀ i, i < nb → 0 ≤ ((mSell g nb ns mv n).1 8 i).toInt ∧ ((mSell g nb ns mv n).1 8 i).toInt ≤ M + 99) ∧ ∀ i, n ≤ i → (mSell g nb ns mv n).1 8 i = g 8 i
  | 0, _ => ⟨fun i hi => ⟨(h8 i hi).1, by have := (h8 i hi).2; show (g 8 i).toInt ≤ _; omega⟩, fun _ _ => rfl⟩
  | n + 1, hn => by
    obtain ⟨i1, i2⟩ := sell_pd (mv := mv) hns h8 h3 hM n (by omega)
    have c3 : (mSell g nb ns mv n).1 3 = g 3 := mSell_c (by decide) n
    show (∀ i, i < nb → 0 ≤ ((mSell1 (mSell g nb ns mv n).1 nb ns mv n).1 8 i).toInt ∧ ((mSell1 (mSell g nb ns mv n).1 nb ns mv n).1 8 i).toInt ≤ M + 99) ∧ ∀ i, _ → (mSell1 (mSell g nb ns mv n).1 nb ns mv n).1 8 i = _
    generalize (mSell g nb ns mv n).1 = G at i1 i2 c3
    unfold mSell1
    by_cases q4 : G 7 n = 4
    · rw [if_pos q4]; exact ⟨i1, fun i hi => i2 i (by omega)⟩
    · rw [if_neg q4]
      by_cases qs : mShaded G nb (G 6 n) mv = true
      · rw [if_pos qs]
        cases hq : mHere G (G 6 n) (G 7 n) ns 0 with
        | none => exact ⟨i1, fun i hi => i2 i (by omega)⟩
        | some k =>
          have hk := mHere_lt hq
          have p3 := h3 k (by omega)
          have a8 := h8 n (by omega)
          have e8 := i2 n (Nat.le_refl _)
          try dsimp only
          have ev : va_up (va_up (va_up G 8 (upd (G 8) n (G 8 n + G 3 k))) 4 (upd (G 4) k (G 4 k + 1))) 7 (upd (G 7) n 4) 8 = upd (G 8) n (G 8 n + G 3 k) := by rw [va_up_ne _ _ (by decide), va_up_ne _ _ (by decide), va_up_self]
          rw [ev]
          refine ⟨fun i hi => ?_, fun i hi => ?_⟩
          · unfold upd
            by_cases q : i = n
            · rw [if_pos q, e8, c3, zadd (by omega)]; omega
            · rw [if_neg q]; exact i1 i hi
          · rw [pk_un (by omega)]; exact i2 i (by omega)
      · rw [if_neg qs]; exact ⟨i1, fun i hi => i2 i (by omega)⟩
theorem pdOk.pass {g : cm_g2} {nb ns : Nat} {w : Int32} (h : pdOk g nb ns) (ho : mOk g nb ns) (hm : 0 ≤ (g 0 1).toInt ∧ (g 0 1).toInt ≤ 500) : pdOk (mPass g nb ns w).1 nb ns := by
  have z1 : (1 : Int32).toInt = 1 := by decide
  have e0 : (mPass g nb ns w).1 0 1 = g 0 1 + 1 := by rw [mPass_0, pk_us]
  have k8 : mTick (mPlains (mRichs g nb nb) nb nb) 8 = g 8 := by
    unfold mTick
    rw [va_up_ne _ _ (by decide), mPlains_c (by decide), mRichs_c (by decide)]
  have k3 : mTick (mPlains (mRichs g nb nb) nb nb) 3 = g 3 := by
    unfold mTick
    rw [va_up_ne _ _ (by decide), mPlains_c (by decide), mRichs_c (by decide)]
  have e3 : (mPass g nb ns w).1 3 = g 3 := mPass_c (by decide)
  refine ⟨fun i hi => ?_, fun k hk => by rw [e3]; exact h.2 k hk⟩
  have hs := (sell_pd (g := mTick (mPlains (mRichs g nb nb) nb nb)) (nb := nb) (ns := ns) (M := (99 * (g 0 1).toInt).toNat) (mv := mSun (mTick (mPlains (mRichs g nb nb) nb nb)) + w) ho.1.2.2.2 (fun i hi => by rw [k8]; have := h.1 i hi; omega) (fun k hk => by rw [k3]; exact h.2 k hk) (by omega) nb (Nat.le_refl _)).1 i hi
  rw [e0, zadd (by rw [z1]; omega), z1]
  show 0 ≤ ((mSell _ nb ns _ nb).1 8 i).toInt ∧ _
  refine ⟨hs.1, ?_⟩
  have := hs.2
  show ((mSell _ nb ns _ nb).1 8 i).toInt ≤ _
  omega
section OP5
variable {hi u H v : cm_g2} {nb ns : Nat} {r9 r9' : Option Value}
theorem fr_es (h : uFr u v) : uEq u v := ⟨fun j hj => h.2.1 j (by omega) (by omega) (by omega) (by omega), fun c hc => h.1 c (by omega) (by omega) (by omega) (by omega) (by omega) (by omega) (by omega), fun c h1 h2 i hi => by
  by_cases q : c = 10 ∨ c = 14
  · rw [h.1 c (by omega) (by omega) (by omega) (by omega) (by omega) (by omega) (by omega)]
  · exact h.2.2 c (by omega) i hi⟩
theorem sv_blk {m y : Nat} (hy : y < 24) : cSv hi m 18 (24 * m + y) = if y < 6 then hi 11 y else if y < 12 then hi 12 (y - 6) else if y < 18 then hi 13 (y - 12) else hi 9 (y - 18) := by
  unfold cSv
  rw [va_up_self]
  try dsimp only
  rw [if_pos (by omega)]
  by_cases q1 : y < 6
  · rw [if_pos (by omega), if_pos q1, show 24 * m + y - 24 * m = y by omega]
  · rw [if_neg (by omega), if_neg q1]
    by_cases q2 : y < 12
    · rw [if_pos (by omega), if_pos q2, show 24 * m + y - (24 * m + 6) = y - 6 by omega]
    · rw [if_neg (by omega), if_neg q2]
      by_cases q3 : y < 18
      · rw [if_pos (by omega), if_pos q3, show 24 * m + y - (24 * m + 12) = y - 12 by omega]
      · rw [if_neg (by omega), if_neg q3, show 24 * m + y - (24 * m + 18) = y - 18 by omega]
theorem sv_out {m x : Nat} (h : ¬ (24 * m ≤ x ∧ x < 24 * m + 24)) : cSv hi m 18 x = hi 18 x := by
  unfold cSv
  rw [va_up_self]
  exact if_neg h
theorem wr_out {m x : Nat} (h : ¬ (24 * m ≤ x ∧ x < 24 * m + 24)) : uWr u 15 (24 * m) 15 x = u 15 x := by
  unfold uWr
  rw [va_up_self]
  exact if_neg h
/-- the history's block that both write -/
theorem hR.new {m : Nat} (R : RR hi u nb ns) (hm : hi 5 1 = nI m) (hm6 : m ≤ 60) : hR (fun y => cSv hi m 18 (24 * m + y)) (fun y => uWr u 15 (24 * m) 15 (24 * m + y)) nb ns m := by
  have hnb := R.mo.1.2.1
  have hns := R.mo.1.2.2.2
  refine ⟨fun i hi9 => ?_, fun k hk => ?_, fun i hi9 => ?_⟩
  · have b := R.b hi9
    have s := R.mo.2.1 i hi9
    have w := R.mo.2.2.1 i hi9
    have p := R.2.2.1.2.1 i hi9
    rw [show cP hi 0 1 = hi 5 1 from rfl, hm, nI_toInt (by omega)] at p
    try dsimp only
    rw [sv_blk (by omega), sv_blk (by omega), sv_blk (by omega), uWr_bk (by omega), uWr_bk (by omega), uWr_bk (by omega)]
    have hi9' : i < 6 := by omega
    unfold uBk
    rw [if_pos hi9', if_pos hi9', if_neg (by omega), if_pos (by omega), if_neg (by omega), if_pos (by omega), if_neg (by omega), if_neg (by omega), if_pos (by omega), if_neg (by omega), if_neg (by omega), if_pos (by omega), show 6 + i - 6 = i by omega, show 12 + i - 12 = i by omega, b.2.1, b.2.2.1, b.2.2.2]
    exact ⟨rfl, rfl, rfl, s, w, p⟩
  · try dsimp only
    rw [sv_blk (by omega), uWr_bk (by omega)]
    unfold uBk
    rw [if_neg (by omega), if_neg (by omega), if_neg (by omega), if_neg (by omega), if_neg (by omega), if_neg (by omega), show 18 + k - 18 = k by omega, (R.s hk).2.2.2]
  · try dsimp only
    rw [sv_blk (by omega), sv_blk (by omega), if_pos (by omega), if_pos (by omega)]
    exact R.mo.2.2.2.1 i hi9
theorem hR.cg {a b a' b' : Nat → Int32} {m : Nat} (h : hR a b nb ns m) (hb : nb ≤ 6) (hs : ns ≤ 6) (ea : ∀ y, y < 24 → a' y = a y) (eb : ∀ y, y < 24 → b' y = b y) : hR a' b' nb ns m := ⟨fun i hi => by rw [ea i (by omega), ea (6 + i) (by omega), ea (12 + i) (by omega), eb i (by omega), eb (6 + i) (by omega), eb (12 + i) (by omega)]; exact h.1 i hi, fun k hk => by rw [ea (18 + k) (by omega), eb (18 + k) (by omega)]; exact h.2.1 k hk, fun i hi => by rw [ea i (by omega), ea (i + 1) (by omega)]; exact h.2.2 i hi⟩
theorem min1 {m : Nat} (R : RR hi u nb ns) (hm : hi 5 1 = nI m) (hm6 : m < 60) : RR (cm_us (cSv hi m) 5 (mPass (cm_sf (cSv hi m) 5) nb ns 0).1) (uPass (uWr u 15 (24 * m)) nb ns 0 (-9)) nb ns ∧ uSz (uPass (uWr u 15 (24 * m)) nb ns 0 (-9) 0 25) 10 = nI (mPass (cm_sf (cSv hi m) 5) nb ns 0).2 ∧ (∀ c, 114 ≤ c → cm_us (cSv hi m) 5 (mPass (cm_sf (cSv hi m) 5) nb ns 0).1 c = hi c) := by
  have hnb := R.mo.1.2.1
  have hns := R.mo.1.2.2.2
  have h64 := p2_64 hnb
  have eg : mEq (cm_sf (cSv hi m) 5) (cP hi) := by
    refine ⟨fun j _ => ?_, fun c h1 h2 i _ => ?_, fun i _ => ?_⟩
    · show cSv hi m (5 + 0) j = hi (5 + 0) j
      rw [cSv_c (by omega)]
    · show cSv hi m (5 + c) i = hi (5 + c) i
      rw [cSv_c (by omega)]
    · show cSv hi m (5 + 10) i = hi (5 + 10) i
      rw [cSv_c (by omega)]
  have eu : uEm u (uWr u 15 (24 * m)) := ⟨fun j _ => by rw [uWr_c (by decide)], fun c h1 h2 i _ => by rw [uWr_c (by omega)]⟩
  have M := R.m.cgm eg eu
  obtain ⟨p1, ⟨n, hn, h25, hpc, -⟩, -⟩ := pass_same (wind := 0) (lk := -9) M (by omega) z01
  have hpd := (R.2.2.1.2.cg eg hnb hns).pass (w := 0) M.1 (by rw [eg.1 1 (by decide)]; show 0 ≤ (hi 5 1).toInt ∧ (hi 5 1).toInt ≤ 500; rw [hm, nI_toInt (by omega)]; omega)
  have z1 : (1 : Int32).toInt = 1 := by decide
  have g01 : (mPass (cm_sf (cSv hi m) 5) nb ns 0).1 0 1 = nI (m + 1) := by
    rw [mPass_0, pk_us, eg.1 1 (by decide), show cP hi 0 1 = hi 5 1 from rfl, hm, nI_1]
  have gx : ∀ x, 10 < x → (mPass (cm_sf (cSv hi m) 5) nb ns 0).1 x = cSv hi m (5 + x) := fun x hx => by rw [mPass_c (by omega)]; rfl
  have hH : ∀ c, c < 5 ∨ 15 < c → cm_us (cSv hi m) 5 (mPass (cm_sf (cSv hi m) 5) nb ns 0).1 c = cSv hi m c := fun c hc => by
    unfold cm_us
    split
    · rw [gx (c - 5) (by omega), show 5 + (c - 5) = c by omega]
    · rfl
  have hP : cP (cm_us (cSv hi m) 5 (mPass (cm_sf (cSv hi m) 5) nb ns 0).1) = (mPass (cm_sf (cSv hi m) 5) nb ns 0).1 := cm_sf_us _ _ _
  have h5 : cm_us (cSv hi m) 5 (mPass (cm_sf (cSv hi m) 5) nb ns 0).1 5 1 = nI (m + 1) := by rw [cm_us_0]; exact g01
  have hv : ∀ c, c ≠ 0 → c ≠ 8 → c ≠ 9 → c ≠ 10 → c ≠ 14 → c ≠ 15 → uPass (uWr u 15 (24 * m)) nb ns 0 (-9) c = u c := fun c a0 a8 a9 a10 a14 a15 => by rw [uPass_c ⟨a0, a8, a9, a10, a14⟩, uWr_c a15]
  have hv0 : ∀ j, j ≠ 19 → j ≠ 25 → j ≠ 26 → j ≠ 27 → uPass (uWr u 15 (24 * m)) nb ns 0 (-9) 0 j = u 0 j := fun j a b c e => by rw [uPass_0 ⟨a, b, c, e⟩, uWr_c (by decide)]
  have hb := R.2.2.2.1
  refine ⟨⟨⟨R.1.1.fr (fun c h1 h2 => by rw [hH c (by omega), cSv_c (by omega)]) (hv 2 (by decide) (by decide) (by decide) (by decide) (by decide) (by decide)) (hv 3 (by decide) (by decide) (by decide) (by decide) (by decide) (by decide)), R.1.2.fr (fun c h1 h2 => by rw [hH c (by omega), cSv_c (by omega)]) (hv 5 (by decide) (by decide) (by decide) (by decide) (by decide) (by decide)) (hv 6 (by decide) (by decide) (by decide) (by decide) (by decide) (by decide))⟩, ⟨?_, ?_, fun f hf => ?_⟩, ⟨?_, ?_⟩, ⟨?_, ?_, ?_, fun t h1 h2 => ?_⟩, R.2.2.2.2.fr (fun c h1 h2 => by rw [hH c (by omega), cSv_c (by omega)]) (fun j hj => hv0 j (by omega) (by omega) (by omega) (by omega)) (hv 16 (by decide) (by decide) (by decide) (by decide) (by decide) (by decide)) (fun c hc i _ => by rw [hv c (by omega) (by omega) (by omega) (by omega) (by omega) (by omega)])⟩, ?_, fun c hc => by rw [hH c (by omega), cSv_c (by omega)]⟩
  · rw [hH 2 (by omega), cSv_c (by decide), hv0 0 (by decide) (by decide) (by decide) (by decide)]; exact R.2.1.1
  · rw [hH 2 (by omega), cSv_c (by decide), hv0 2 (by decide) (by decide) (by decide) (by decide)]; exact R.2.1.2.1
  · rw [hH 60 (by omega), cSv_c (by decide), hv 1 (by decide) (by decide) (by decide) (by decide) (by decide) (by decide)]; exact R.2.1.2.2 f hf
  · rw [hP]
    exact p1.bd (by rw [g01, nI_toInt (by omega)]; omega)
  · rw [hP]; exact hpd
  · rw [hH 17 (by omega), cSv_c (by decide), hv0 20 (by decide) (by decide) (by decide) (by decide)]; exact hb.1
  · rw [hH 17 (by omega), cSv_c (by decide)]; exact hb.2.1
  · rw [hH 17 (by omega), cSv_c (by decide), h5, nI_toInt (by omega)]
    have := hb.2.2.1
    rw [hm, nI_toInt (by omega)] at this
    omega
  · rw [hH 17 (by omega), cSv_c (by decide)] at h1
    rw [h5, nI_toInt (by omega)] at h2
    have e18 : cm_us (cSv hi m) 5 (mPass (cm_sf (cSv hi m) 5) nb ns 0).1 18 = cSv hi m 18 := hH 18 (by omega)
    have e15 : uPass (uWr u 15 (24 * m)) nb ns 0 (-9) 15 = uWr u 15 (24 * m) 15 := uPass_c (by decide)
    rw [e18, e15]
    by_cases q : t = m
    · subst q
      exact hR.new R hm (by omega)
    · refine (hb.2.2.2 t h1 (by rw [hm, nI_toInt (by omega)]; omega)).cg hnb hns (fun y hy => ?_) (fun y hy => ?_)
      · exact sv_out (by omega)
      · exact wr_out (by omega)
  · rw [h25, (uSz_pc n (by omega)).1, hpc]
theorem mins_all {m0 : Nat} (R : RR hi u nb ns) (hm : hi 5 1 = nI m0) : ∀ k, m0 + k ≤ 60 → RR (cMins hi nb ns m0 k).2 (uMn u nb ns k).1 nb ns ∧ (uMn u nb ns k).2 = nI (cMins hi nb ns m0 k).1 ∧ (cMins hi nb ns m0 k).2 5 1 = nI (m0 + k) ∧ ∀ c, 114 ≤ c → (cMins hi nb ns m0 k).2 c = hi c
  | 0, _ => ⟨R, rfl, hm, fun _ _ => rfl⟩
  | k + 1, hk => by
    obtain ⟨i1, i2, i3, i4⟩ := mins_all R hm k (by omega)
    obtain ⟨a1, a2, a3⟩ := min1 i1 i3 (by omega)
    have e19 : (uMn u nb ns k).1 0 19 = nI (m0 + k) := by rw [i1.min.1]; exact i3
    have c19 : ((uMn u nb ns k).1 0 19).toNatClampNeg = m0 + k := by rw [e19]; exact nI_clamp (by omega)
    refine ⟨?_, ?_, ?_, fun c hc => ?_⟩
    · show RR (cm_us (cSv (cMins hi nb ns m0 k).2 (m0 + k)) 5 _) (uPass (uWr (uMn u nb ns k).1 15 (24 * ((uMn u nb ns k).1 0 19).toNatClampNeg)) nb ns 0 (-9)) nb ns
      rw [c19]; exact a1
    · show (uMn u nb ns k).2 + uSz (uPass (uWr (uMn u nb ns k).1 15 (24 * ((uMn u nb ns k).1 0 19).toNatClampNeg)) nb ns 0 (-9) 0 25) 10 = nI ((cMins hi nb ns m0 k).1 + _)
      rw [c19, a2, i2, nI_add]
    · show cm_us (cSv (cMins hi nb ns m0 k).2 (m0 + k)) 5 (mPass (cm_sf (cSv (cMins hi nb ns m0 k).2 (m0 + k)) 5) nb ns 0).1 5 1 = _
      rw [cm_us_0, mPass_0, pk_us]
      show cSv (cMins hi nb ns m0 k).2 (m0 + k) 5 1 + 1 = _
      rw [cSv_c (by decide), i3, nI_1]
      rfl
    · show cm_us (cSv (cMins hi nb ns m0 k).2 (m0 + k)) 5 (mPass (cm_sf (cSv (cMins hi nb ns m0 k).2 (m0 + k)) 5) nb ns 0).1 c = _
      rw [a3 c hc, i4 c hc]
theorem op_minutes {n : Int32} (R : RR hi u nb ns) : opOk hi nb ns (cMinutes hi nb ns n).1 (uMinutes u nb ns n).1 (cMinutes hi nb ns n).2 (uMinutes u nb ns n).2 := by
  obtain ⟨b1, b2, b3, -⟩ := R.ns0
  unfold cMinutes uMinutes
  rw [b1, b2, show isU n 20 = uIn n 0 20 from rfl, R.min.1]
  by_cases h1 : uIn n 0 20 = false
  · rw [if_pos h1, if_pos h1]; exact ⟨rfl, R, fun _ _ => rfl⟩
  · rw [if_neg h1, if_neg h1]
    by_cases h2 : nI nb = 0
    · rw [if_pos h2, if_pos h2]; exact ⟨rfl, R, fun _ _ => rfl⟩
    · rw [if_neg h2, if_neg h2]
      by_cases h3 : hi 5 1 + n ≤ 60
      · rw [if_pos h3, if_pos h3]
        obtain ⟨k, hk, rfl, hkc⟩ := n_ex (m := 20) (by omega) (tru h1)
        have hm := R.min.2
        have em : hi 5 1 = nI (hi 5 1).toInt.toNat := z_of hm.1
        rw [hkc]
        have wc : (hi 5 1).toNatClampNeg = (hi 5 1).toInt.toNat := rfl
        rw [Int32.le_iff_toInt_le, zadd (by rw [nI_toInt (by omega)]; omega), nI_toInt (by omega), show (60 : Int32).toInt = 60 by decide] at h3
        obtain ⟨a1, a2, -, a4⟩ := mins_all R em k (by omega)
        exact ⟨a2.symm, a1, a4⟩
      · rw [if_neg h3, if_neg h3]; exact ⟨rfl, R, fun _ _ => rfl⟩
theorem op_undo {n : Int32} (R : RR hi u nb ns) (hc : if n < hi 17 1 ∨ ¬ n ≤ hi 5 1 then r9 = some (.int (-1)) ∧ H = hi else r9 = some (.int (hi 5 1 - n)) ∧ (if hi 5 1 - n ≤ 0 then H = hi else gbOk hi H 5 n.toNatClampNeg)) : opR r9 (some (.int (uUndo u n).1)) H (uUndo u n).2 ∧ ∀ c, 114 ≤ c → H c = hi c := by
  have hm := R.min
  have hb := R.2.2.2.1
  have hb1 := hb.2.1
  have hb2 := hb.2.2.1
  have hnb := R.mo.1.2.1
  have hns := R.mo.1.2.2.2
  unfold uUndo
  rw [hm.1, ← hb.1]
  have ev : (n < hi 17 1 ∨ ¬ n ≤ hi 5 1) ↔ uIn n (hi 17 1) (hi 5 1) = false := by
    rw [← Bool.not_eq_true, uIn_zz, Int32.lt_iff_toInt_lt, Int32.le_iff_toInt_le]
    omega
  by_cases h1 : uIn n (hi 17 1) (hi 5 1) = false
  · rw [if_pos (ev.mpr h1)] at hc
    rw [if_pos h1]
    obtain ⟨rfl, rfl⟩ := hc
    exact ⟨⟨_, rfl, rfl, nb, ns, R⟩, fun _ _ => rfl⟩
  · rw [if_neg (fun w => h1 (ev.mp w))] at hc
    rw [if_neg h1]
    obtain ⟨rfl, hc⟩ := hc
    by_cases h2 : hi 5 1 - n ≤ 0
    · rw [if_pos h2] at hc ⊢
      subst hc
      exact ⟨⟨_, rfl, rfl, nb, ns, R⟩, fun _ _ => rfl⟩
    · rw [if_neg h2] at hc ⊢
      have hn := uIn_zz.mp (tru h1)
      have en : n = nI n.toInt.toNat := z_of (by omega)
      have wn : n.toNatClampNeg = n.toInt.toNat := rfl
      have hlt : n.toInt < (hi 5 1).toInt := by
        rw [Int32.le_iff_toInt_le, zsub (by omega), show (0 : Int32).toInt = 0 by decide] at h2
        omega
      rw [wn] at hc ⊢
      generalize hq : n.toInt.toNat = m at *
      subst en
      obtain ⟨g1, g2, g3⟩ := hc
      have hB := hb.2.2.2 m (by omega) (by omega)
      have hnz : (nI m).toInt = m := nI_toInt (by omega)
      have r8 := fun i (h : i < 6) => uRd_8 (u := u) (cc := 15) (at_ := 24 * m) h
      have st : mSt (cP H) (cP hi) := by
        refine ⟨⟨?_, ?_, ?_⟩, fun c hc i _ => ?_, fun i _ => ?_⟩
        · show H 5 0 = hi 5 0
          rw [g2, pk_un (by decide)]
        · show H 5 2 = hi 5 2
          rw [g2, pk_un (by decide)]
        · show H 5 3 = hi 5 3
          rw [g2, pk_un (by decide)]
        · show H (5 + c) i = hi (5 + c) i
          rw [g1 (5 + c) (by omega) (by omega) (by omega) (by omega) (by omega)]
        · show H (5 + 10) i = hi (5 + 10) i
          rw [g1 (5 + 10) (by omega) (by omega) (by omega) (by omega) (by omega)]
      have vc : ∀ c, c ≠ 0 → c ≠ 8 → c ≠ 9 → c ≠ 10 → c ≠ 14 → va_up (uRd u 15 (24 * m)) 0 (upd (u 0) 19 (nI m)) c = u c := fun c a0 a8 a9 a10 a14 => by rw [va_up_ne _ _ a0, uRd_c ⟨a8, a9, a10, a14⟩]
      have v0 : ∀ j, j ≠ 19 → va_up (uRd u 15 (24 * m)) 0 (upd (u 0) 19 (nI m)) 0 j = u 0 j := fun j hj => by rw [va_up_self, pk_un hj]
      have hc5 : ∀ c, c ≠ 5 → c ≠ 9 → c ≠ 11 → c ≠ 12 → c ≠ 13 → H c = hi c := fun c a b e f g => g1 c (by omega) (by omega) (by omega) (by omega) (by omega)
      have g5 : H 5 1 = nI m := by rw [g2, pk_us]
      try dsimp only
      refine ⟨⟨_, rfl, rfl, nb, ns, ⟨R.1.1.fr (fun c h1 h2 => hc5 c (by omega) (by omega) (by omega) (by omega) (by omega)) (vc 2 (by decide) (by decide) (by decide) (by decide) (by decide)) (vc 3 (by decide) (by decide) (by decide) (by decide) (by decide)), R.1.2.fr (fun c h1 h2 => hc5 c (by omega) (by omega) (by omega) (by omega) (by omega)) (vc 5 (by decide) (by decide) (by decide) (by decide) (by decide)) (vc 6 (by decide) (by decide) (by decide) (by decide) (by decide))⟩, ⟨?_, ?_, fun f hf => ?_⟩, ⟨R.m.mv st (fun j hj => v0 j (by omega)) (fun c hc i _ => by rw [vc c (by omega) (by omega) (by omega) (by omega) (by omega)]) ?_ (fun i hi9 => ?_) (fun k hk => ?_) (fun i hi9 => ?_), fun i hi9 => ?_, fun k hk => ?_⟩, ⟨?_, ?_, ?_, fun t h1 h2 => ?_⟩, R.2.2.2.2.fr (fun c h1 h2 => hc5 c (by omega) (by omega) (by omega) (by omega) (by omega)) (fun j hj => v0 j (by omega)) (vc 16 (by decide) (by decide) (by decide) (by decide) (by decide)) (fun c hc i _ => by rw [vc c (by omega) (by omega) (by omega) (by omega) (by omega)])⟩, fun c hc => hc5 c (by omega) (by omega) (by omega) (by omega) (by omega)⟩
      · rw [hc5 2 (by decide) (by decide) (by decide) (by decide) (by decide), v0 0 (by decide)]; exact R.2.1.1
      · rw [hc5 2 (by decide) (by decide) (by decide) (by decide) (by decide), v0 2 (by decide)]; exact R.2.1.2.1
      · rw [hc5 60 (by decide) (by decide) (by decide) (by decide) (by decide), vc 1 (by decide) (by decide) (by decide) (by decide) (by decide)]; exact R.2.1.2.2 f hf
      · rw [va_up_self, pk_us]
        refine ⟨g5.symm, ?_⟩
        show 0 ≤ (H 5 1).toInt ∧ (H 5 1).toInt ≤ 60
        rw [g5]
        omega
      · have b := hB.1 i hi9
        dsimp only at b
        have x := g3 i (by omega)
        have y := r8 i (by omega)
        rw [va_up_ne _ _ (by decide), va_up_ne _ _ (by decide), va_up_ne _ _ (by decide), y.1, y.2.1, y.2.2.1]
        show (_ = H 11 i ∧ _ = H 12 i ∧ _ = H 13 i) ∧ (0 ≤ (H 11 i).toInt ∧ (H 11 i).toInt < 20) ∧ 0 ≤ (H 12 i).toInt ∧ (H 12 i).toInt < 5
        rw [show H 11 i = _ from x.1, show H 12 i = _ from x.2.1, show H 13 i = _ from x.2.2.1, Nat.add_assoc, Nat.add_assoc]
        exact ⟨⟨b.1.symm, b.2.1.symm, b.2.2.1.symm⟩, b.2.2.2.1, b.2.2.2.2.1⟩
      · have x := g3 k (by omega)
        have y := r8 k (by omega)
        rw [va_up_ne _ _ (by decide), y.2.2.2]
        show _ = H 9 k
        rw [show H 9 k = _ from x.2.2.2, Nat.add_assoc]
        exact (hB.2.1 k hk).symm
      · show (H 11 i).toInt < (H 11 (i + 1)).toInt
        rw [show H 11 i = _ from (g3 i (by omega)).1, show H 11 (i + 1) = _ from (g3 (i + 1) (by omega)).1]
        exact hB.2.2 i hi9
      · show 0 ≤ (H 13 i).toInt ∧ (H 13 i).toInt ≤ 99 * (H 5 1).toInt
        rw [show H 13 i = _ from (g3 i (by omega)).2.2.1, Nat.add_assoc, g5, hnz]
        exact (hB.1 i hi9).2.2.2.2.2
      · show 0 ≤ (H 8 k).toInt ∧ (H 8 k).toInt ≤ 99
        rw [hc5 8 (by decide) (by decide) (by decide) (by decide) (by decide)]
        exact R.2.2.1.2.2 k hk
      · rw [hc5 17 (by decide) (by decide) (by decide) (by decide) (by decide), v0 20 (by decide)]; exact hb.1
      · rw [hc5 17 (by decide) (by decide) (by decide) (by decide) (by decide)]; exact hb.2.1
      · rw [hc5 17 (by decide) (by decide) (by decide) (by decide) (by decide), g5]; exact hn.1
      · rw [hc5 17 (by decide) (by decide) (by decide) (by decide) (by decide)] at h1
        rw [g5] at h2
        rw [hc5 18 (by decide) (by decide) (by decide) (by decide) (by decide), vc 15 (by decide) (by decide) (by decide) (by decide) (by decide)]
        exact hb.2.2.2 t h1 (by omega)
theorem op_turn {way : Int32} (R : RR hi u nb ns) : opOk hi nb ns (cTurn hi nb way).1 (uTurn u nb way).1 (cTurn hi nb way).2 (uTurn u nb way).2 := by
  obtain ⟨b1, b2, b3, -⟩ := R.ns0
  unfold cTurn uTurn
  rw [b1, b2]
  have z0 : (0 : Int32).toInt = 0 := by decide
  have z1 : (1 : Int32).toInt = 1 := by decide
  have ev : (¬ way = 0 ∧ ¬ way = 1) ↔ uIn way 0 1 = false := by
    rw [← Bool.not_eq_true, uIn_zz, ← Int32.toInt_inj, ← Int32.toInt_inj, z0, z1]
    omega
  by_cases h1 : uIn way 0 1 = false
  · rw [if_pos h1, if_pos (ev.mpr h1)]; exact ⟨rfl, R, fun _ _ => rfl⟩
  · rw [if_neg h1, if_neg (fun w => h1 (ev.mp w))]
    by_cases h2 : nI nb = 0
    · rw [if_pos h2, if_pos h2]; exact ⟨rfl, R, fun _ _ => rfl⟩
    · rw [if_neg h2, if_neg h2]
      have h0 : 0 < nb := Nat.pos_of_ne_zero (fun w => h2 (by rw [w]; rfl))
      have hby : -1 ≤ (if way = 0 then (-1 : Int32) else 1).toInt ∧ (if way = 0 then (-1 : Int32) else 1).toInt ≤ 1 := by split <;> decide
      generalize (if way = 0 then (-1 : Int32) else 1) = by_ at hby
      have s0 := R.mo.2.1 0 h0
      have s1 := R.mo.2.1 (nb - 1) (by omega)
      have mn := R.mo.mono (nb - 1) 0 (by omega)
      rw [Nat.zero_add] at mn
      have y0 : (hi 11 0 + by_).toInt = (hi 11 0).toInt + by_.toInt := zadd (by have h9 : 0 ≤ (hi 11 0).toInt ∧ (hi 11 0).toInt < 20 := s0; omega)
      have y1 : (hi 11 (nb - 1) + by_).toInt = (hi 11 (nb - 1)).toInt + by_.toInt := zadd (by have h9 : 0 ≤ (hi 11 (nb - 1)).toInt ∧ (hi 11 (nb - 1)).toInt < 20 := s1; omega)
      have z20 : (20 : Int32).toInt = 20 := by decide
      have s0' : 0 ≤ (hi 11 0).toInt ∧ (hi 11 0).toInt < 20 := s0
      have s1' : 0 ≤ (hi 11 (nb - 1)).toInt ∧ (hi 11 (nb - 1)).toInt < 20 := s1
      have mn' : (hi 11 0).toInt + ((nb - 1 : Nat) : Int) ≤ (hi 11 (nb - 1)).toInt := mn
      have es : cShift (cP hi) nb by_ = true ↔ (uIn (u 8 0 + by_) 0 19 = true ∧ uIn (u 8 (nb - 1) + by_) 0 19 = true) := by
        unfold cShift mCan
        rw [(R.b (i := 0) h0).2.1, (R.b (i := nb - 1) (by omega)).2.1, uIn_iff, uIn_iff, y0, y1]
        simp only [Bool.and_eq_true, Bool.not_eq_true', decide_eq_false_iff_not, decide_eq_true_eq, Int32.lt_iff_toInt_lt, Int32.le_iff_toInt_le]
        rw [show (cP hi 6 0 + by_).toInt = _ from y0, show (cP hi 6 (nb - 1) + by_).toInt = _ from y1, z0, z20]
        omega
      cases hq : cShift (cP hi) nb by_ with
      | false =>
        rw [if_neg (by decide), if_neg (fun w => by rw [es.mpr w] at hq; cases hq)]
        exact ⟨rfl, R, fun _ _ => rfl⟩
      | true =>
        rw [if_pos rfl, if_pos (es.mp hq)]
        have hin := es.mp hq
        rw [(R.b (i := 0) h0).2.1, (R.b (i := nb - 1) (by omega)).2.1, uIn_iff, uIn_iff, y0, y1] at hin
        have mo := R.mo.mv (f := 0) (t := nb - 1) (way := by_) hby (by omega) (by omega) (by show 0 ≤ (hi 11 0).toInt + _; omega) (by show (hi 11 (nb - 1)).toInt + _ < 20; omega) (Or.inl rfl) (Or.inl (by omega))
        rw [show nb - 1 + 1 = nb by omega] at mo
        have hH : ∀ c, c ≠ 11 → cm_us hi 5 (mMv (cP hi) 0 nb by_) c = hi c := fun c hc => by
          unfold cm_us
          split
          · rw [mMv_c (by omega)]
            show hi (5 + (c - 5)) = hi c
            rw [show 5 + (c - 5) = c by omega]
          · rfl
        have hP : cP (cm_us hi 5 (mMv (cP hi) 0 nb by_)) = mMv (cP hi) 0 nb by_ := cm_sf_us _ _ _
        try dsimp only
        have uo : uOk (va_up u 8 (fun x => if x < nb then u 8 x + by_ else u 8 x)) nb ns := by
          refine ⟨by rw [va_up_ne _ _ (by decide)]; exact R.uo.1, fun i hi9 => ?_, fun k hk => by rw [va_up_ne _ _ (by decide)]; exact R.uo.2.2 k hk⟩
          have := mo.2.1 i hi9
          rw [mMv_in (by omega)] at this
          rw [va_up_self]
          try dsimp only
          rw [if_pos hi9, (R.b hi9).2.1]
          exact this
        refine ⟨rfl, ⟨⟨R.1.1.fr (fun c h1 h2 => hH c (by omega)) (va_up_ne _ _ (by decide)) (va_up_ne _ _ (by decide)), R.1.2.fr (fun c h1 h2 => hH c (by omega)) (va_up_ne _ _ (by decide)) (va_up_ne _ _ (by decide))⟩, R.2.1.eq (hH 2 (by decide)) (hH 60 (by decide)) (va_up_ne _ _ (by decide)) (va_up_ne _ _ (by decide)), ⟨?_, ?_⟩, R.2.2.2.1.fr (by rw [hH 17 (by decide)]) (by rw [hH 5 (by decide)]) (hH 18 (by decide)) (by rw [va_up_ne _ _ (by decide)]) (va_up_ne _ _ (by decide)), R.2.2.2.2.fr (fun c h1 h2 => hH c (by omega)) (fun j hj => by rw [va_up_ne _ _ (by decide)]) (va_up_ne _ _ (by decide)) (fun c hc i _ => by rw [va_up_ne _ _ (by omega)])⟩, fun c hc => hH c (by omega)⟩
        · rw [hP]
          refine R.m.spots (fun c hc => mMv_c hc) (fun c hc => va_up_ne _ _ hc) (fun x hx => ?_) mo uo
          rw [va_up_self, mMv_in (by omega)]
          try dsimp only
          rw [if_pos hx, (R.b hx).2.1]
          rfl
        · rw [hP]
          exact ⟨fun i hi9 => by rw [mMv_c (by decide), mMv_c (by decide)]; exact R.2.2.1.2.1 i hi9, fun k hk => by rw [mMv_c (by decide)]; exact R.2.2.1.2.2 k hk⟩
theorem kp_blk {j y : Nat} (hy : y < 31) : uKp u j 16 (32 * j + y) = if y = 0 then u 0 19 else if y < 25 then uBk u (y - 1) else u 13 (y - 25) := by
  unfold uKp
  rw [va_up_self]
  try dsimp only
  by_cases q1 : y < 25
  · rw [if_neg (by omega)]
    by_cases q0 : y = 0
    · subst q0
      rw [if_pos rfl]
      unfold uWr
      rw [va_up_self]
      try dsimp only
      rw [if_neg (by omega), va_up_self, show 32 * j + 0 = 32 * j by omega, pk_us]
    · rw [if_neg q0, if_pos q1, show 32 * j + y = 32 * j + 1 + (y - 1) by omega, uWr_bk (by omega)]
      unfold uBk
      rw [va_up_ne _ _ (by decide), va_up_ne _ _ (by decide), va_up_ne _ _ (by decide), va_up_ne _ _ (by decide)]
  · rw [if_pos (by omega), if_neg (by omega), if_neg q1, show 32 * j + y - (32 * j + 25) = y - 25 by omega]
theorem kp_out {j x : Nat} (h : ¬ (32 * j ≤ x ∧ x < 32 * j + 31)) : uKp u j 16 x = u 16 x := by
  unfold uKp
  rw [va_up_self]
  try dsimp only
  rw [if_neg (by omega)]
  unfold uWr
  rw [va_up_self]
  try dsimp only
  rw [if_neg (by omega), va_up_self, pk_un (by omega)]
theorem kp_c {j c : Nat} (h : c ≠ 16) : uKp u j c = u c := by
  unfold uKp
  rw [va_up_ne _ _ h, uWr_c h, va_up_ne _ _ h]
theorem uLd_em2 {k : Nat} (h0 : ∀ j, j = 8 ∨ j = 9 ∨ j = 10 → v 0 j = u 0 j) (h16 : ∀ y, y < 31 → v 16 (32 * k + y) = u 16 (32 * k + y)) (hc : ∀ c, c = 7 ∨ c = 11 ∨ c = 12 → ∀ i, i < 6 → v c i = u c i) : uEm (uLd u k) (uLd v k) := by
  have a := uLd_at (u := u) (k := k)
  have b := uLd_at (u := v) (k := k)
  refine ⟨fun j hj => ?_, fun c h1 h2 i hi => ?_⟩
  · by_cases q : j = 19
    · subst q; rw [a.2.2.1.1, b.2.2.1.1]; exact h16 0 (by omega)
    · rw [a.2.1 j q (by omega), b.2.1 j q (by omega)]; exact h0 j (by omega)
  · have a4 := a.2.2.2 i hi
    have b4 := b.2.2.2 i hi
    by_cases q8 : c = 8
    · subst q8; rw [a4.1, b4.1, Nat.add_assoc]; exact h16 _ (by omega)
    · by_cases q9 : c = 9
      · subst q9; rw [a4.2.1, b4.2.1, Nat.add_assoc, Nat.add_assoc]; exact h16 _ (by omega)
      · by_cases q10 : c = 10
        · subst q10; rw [a4.2.2.1, b4.2.2.1, Nat.add_assoc, Nat.add_assoc]; exact h16 _ (by omega)
        · by_cases q14 : c = 14
          · subst q14; rw [a4.2.2.2.1, b4.2.2.2.1, Nat.add_assoc, Nat.add_assoc]; exact h16 _ (by omega)
          · by_cases q13 : c = 13
            · subst q13; rw [a4.2.2.2.2, b4.2.2.2.2, Nat.add_assoc]; exact h16 _ (by omega)
            · rw [a.1 c (by omega) q8 q9 q10 q13 q14, b.1 c (by omega) q8 q9 q10 q13 q14]
              exact hc c (by omega) i hi
theorem uLd_kp {j : Nat} : uEm u (uLd (uKp u j) j) := by
  have b := uLd_at (u := uKp u j) (k := j)
  refine ⟨fun x hx => ?_, fun c h1 h2 i hi => ?_⟩
  · by_cases q : x = 19
    · subst q
      rw [b.2.2.1.1]
      have := kp_blk (u := u) (j := j) (y := 0) (by omega)
      rw [if_pos rfl] at this
      exact this
    · rw [b.2.1 x q (by omega), kp_c (by decide)]
  · have b4 := b.2.2.2 i hi
    by_cases q8 : c = 8
    · subst q8
      rw [b4.1, Nat.add_assoc, kp_blk (by omega), if_neg (by omega), if_pos (by omega), show 1 + i - 1 = i by omega]
      unfold uBk; rw [if_pos hi]
    · by_cases q9 : c = 9
      · subst q9
        rw [b4.2.1, Nat.add_assoc, Nat.add_assoc, kp_blk (by omega), if_neg (by omega), if_pos (by omega), show 1 + (6 + i) - 1 = 6 + i by omega]
        unfold uBk; rw [if_neg (by omega), if_pos (by omega), show 6 + i - 6 = i by omega]
      · by_cases q10 : c = 10
        · subst q10
          rw [b4.2.2.1, Nat.add_assoc, Nat.add_assoc, kp_blk (by omega), if_neg (by omega), if_pos (by omega), show 1 + (12 + i) - 1 = 12 + i by omega]
          unfold uBk; rw [if_neg (by omega), if_neg (by omega), if_pos (by omega), show 12 + i - 12 = i by omega]
        · by_cases q14 : c = 14
          · subst q14
            rw [b4.2.2.2.1, Nat.add_assoc, Nat.add_assoc, kp_blk (by omega), if_neg (by omega), if_pos (by omega), show 1 + (18 + i) - 1 = 18 + i by omega]
            unfold uBk; rw [if_neg (by omega), if_neg (by omega), if_neg (by omega), show 18 + i - 18 = i by omega]
          · by_cases q13 : c = 13
            · subst q13
              rw [b4.2.2.2.2, Nat.add_assoc, kp_blk (by omega), if_neg (by omega), if_neg (by omega), show 25 + i - 25 = i by omega]
            · rw [b.1 c (by omega) q8 q9 q10 q13 q14, kp_c (by omega)]
theorem wU2 {x : Int32} : isW x 3 = uIn x 0 2 := wU (n := 2) (by decide)
theorem op_keep {k : Int32} (R : RR hi u nb ns) (hc : if isW k 3 = false then r9 = some (.int (-1)) ∧ H = hi else if hi 5 3 = 0 then r9 = some (.int (-4)) ∧ H = hi else r9 = some (.int (hi 5 1)) ∧ tkOk hi (81 + 11 * k.toNatClampNeg) 5 H) : opR r9 (some (.int (uKeep u k).1)) H (uKeep u k).2 ∧ ∀ c, 114 ≤ c → H c = hi c := by
  obtain ⟨b1, b2, b3, b4, b5, b6⟩ := R.ns0
  unfold uKeep
  rw [wU2, b1] at hc
  rw [b2]
  by_cases h1 : uIn k 0 2 = false
  · rw [if_pos h1] at hc ⊢
    obtain ⟨rfl, rfl⟩ := hc
    exact ⟨⟨_, rfl, rfl, nb, ns, R⟩, fun _ _ => rfl⟩
  · rw [if_neg h1] at hc ⊢
    by_cases h2 : nI nb = 0
    · rw [if_pos h2] at hc ⊢
      obtain ⟨rfl, rfl⟩ := hc
      exact ⟨⟨_, rfl, rfl, nb, ns, R⟩, fun _ _ => rfl⟩
    · rw [if_neg h2] at hc ⊢
      have h0 : 0 < nb := Nat.pos_of_ne_zero (fun w => h2 (by rw [w]; rfl))
      obtain ⟨j, hj, rfl, hjc⟩ := n_ex (m := 2) (by omega) (tru h1)
      rw [hjc] at hc ⊢
      obtain ⟨rfl, T⟩ := hc
      have em := T.eq
      have hT : ∀ c, c < 81 + 11 * j ∨ 81 + 11 * j + 10 < c → H c = hi c := T.1
      try dsimp only
      refine ⟨⟨.int (hi 5 1), rfl, by rw [R.min.1], nb, ns, ⟨R.1.1.fr (fun c h1 h2 => hT c (by omega)) (kp_c (by decide)) (kp_c (by decide)), R.1.2.fr (fun c h1 h2 => hT c (by omega)) (kp_c (by decide)) (kp_c (by decide))⟩, R.2.1.eq (hT 2 (by omega)) (hT 60 (by omega)) (kp_c (by decide)) (kp_c (by decide)), R.2.2.1.fr ?_ ⟨fun x _ => by rw [kp_c (by decide)], fun c h1 h2 i _ => by rw [kp_c (by omega)]⟩, R.2.2.2.1.fr (by rw [hT 17 (by omega)]) (by rw [hT 5 (by omega)]) (hT 18 (by omega)) (by rw [kp_c (by decide)]) (kp_c (by decide)), fun i hi9 => ?_⟩, fun c hc => hT c (by omega)⟩
      · refine ⟨fun x _ => ?_, fun c h1 h2 i _ => ?_, fun i _ => ?_⟩
        · show H (5 + 0) x = hi (5 + 0) x
          rw [hT _ (by omega)]
        · show H (5 + c) i = hi (5 + c) i
          rw [hT _ (by omega)]
        · show H (5 + 10) i = hi (5 + 10) i
          rw [hT _ (by omega)]
      · by_cases q : i = j
        · subst q
          exact Or.inr ⟨h0, R.m.cgm em uLd_kp, R.2.2.1.2.cg em b3 b6⟩
        · have e9 : ∀ c, 81 + 11 * i ≤ c → c ≤ 81 + 11 * i + 10 → H c = hi c := fun c h1 h2 => hT c (by omega)
          rw [e9 _ (Nat.le_refl _) (by omega), kp_out (by omega)]
          rcases R.2.2.2.2 i hi9 with w | ⟨w1, w2, w3⟩
          · exact Or.inl w
          · have em2 : mEq (cm_sf H (81 + 11 * i)) (cm_sf hi (81 + 11 * i)) := by
              refine ⟨fun x _ => ?_, fun c h1 h2 y _ => ?_, fun y _ => ?_⟩
              · show H (81 + 11 * i + 0) x = hi (81 + 11 * i + 0) x
                rw [e9 _ (by omega) (by omega)]
              · show H (81 + 11 * i + c) y = hi (81 + 11 * i + c) y
                rw [e9 _ (by omega) (by omega)]
              · show H (81 + 11 * i + 10) y = hi (81 + 11 * i + 10) y
                rw [e9 _ (by omega) (by omega)]
            exact Or.inr ⟨w1, w2.cgm em2 (uLd_em2 (fun x _ => by rw [kp_c (by decide)]) (fun y hy => kp_out (by omega)) (fun c hc x _ => by rw [kp_c (by omega)])), w3.cg em2 w2.1.1.2.1 w2.1.1.2.2.2⟩
theorem op_on {k : Int32} (R : RR hi u nb ns) (hc : if isW k 3 = false then r9 = some (.int (-1)) ∧ H = hi else if 0 < hi (81 + 11 * k.toNatClampNeg) 3 then (∃ H0, tkOk hi 5 (81 + 11 * k.toNatClampNeg) H0 ∧ (∀ c, c ≠ 17 → H c = H0 c) ∧ H 17 = upd (H0 17) 1 (H0 5 1) ∧ r9 = some (.int (H0 5 1))) else r9 = some (.int (-3)) ∧ H = kRef hi 1) : opR r9 (some (.int (uOnK u k).1)) H (uOnK u k).2 ∧ ∀ c, 114 ≤ c → H c = hi c := by
  obtain ⟨b1, b2, b3, b4, b5, b6⟩ := R.ns0
  unfold uOnK
  rw [wU2] at hc
  by_cases h1 : uIn k 0 2 = false
  · rw [if_pos h1] at hc ⊢
    obtain ⟨rfl, rfl⟩ := hc
    exact ⟨⟨_, rfl, rfl, nb, ns, R⟩, fun _ _ => rfl⟩
  · rw [if_neg h1] at hc ⊢
    obtain ⟨j, hj, rfl, hjc⟩ := n_ex (m := 2) (by omega) (tru h1)
    rw [hjc] at hc ⊢
    rcases R.2.2.2.2 j (by omega) with ⟨w1, w2⟩ | ⟨w1, w2, w3⟩
    · rw [if_neg (by rw [w1]; decide)] at hc
      obtain ⟨rfl, rfl⟩ := hc
      rw [if_pos w2]
      exact ⟨⟨_, rfl, rfl, nb, ns, R.ref⟩, fun c hc => kRef_c (by omega)⟩
    · have ln := uLd_at (u := u) (k := j)
      have n3 : hi (81 + 11 * j) 3 = nI nb := w2.1.1.1
      have tm := w2.2.2.2.1
      rw [ln.2.2.1.1] at tm
      have tm0 : u 16 (32 * j) = hi (81 + 11 * j) 1 := tm.1
      have tm1 : 0 ≤ (hi (81 + 11 * j) 1).toInt ∧ (hi (81 + 11 * j) 1).toInt ≤ 60 := tm.2
      have z0 : (0 : Int32).toInt = 0 := by decide
      have z9 : (-9 : Int32).toInt = -9 := by decide
      rw [if_pos (by rw [n3, Int32.lt_iff_toInt_lt, z0, nI_toInt (by omega)]; omega)] at hc
      rw [if_neg (fun w => by rw [tm0] at w; rw [w, z9] at tm1; omega)]
      obtain ⟨H0, T, e1, e2, rfl⟩ := hc
      have em := T.eq
      have emH : mEq (cP H) (cm_sf hi (81 + 11 * j)) := by
        refine mEq.trans ⟨fun x _ => ?_, fun c h1 h2 i _ => ?_, fun i _ => ?_⟩ em
        · show H (5 + 0) x = H0 (5 + 0) x
          rw [e1 _ (by omega)]
        · show H (5 + c) i = H0 (5 + c) i
          rw [e1 _ (by omega)]
        · show H (5 + 10) i = H0 (5 + 10) i
          rw [e1 _ (by omega)]
      have hT : ∀ c, c < 5 ∨ 15 < c → H0 c = hi c := fun c hc => T.1 c (by omega)
      have hm : H0 5 1 = u 16 (32 * j) := by rw [tm0]; exact T.2.1.2.1
      have h17 : H 17 1 = H0 5 1 := by rw [e2, pk_us]
      have h5 : H 5 1 = H0 5 1 := by rw [e1 5 (by decide)]
      try dsimp only
      refine ⟨⟨_, rfl, by rw [hm], nb, ns, ⟨R.1.1.fr (fun c h1 h2 => by rw [e1 c (by omega), hT c (by omega)]) (ln.1 2 (by decide) (by decide) (by decide) (by decide) (by decide) (by decide)) (ln.1 3 (by decide) (by decide) (by decide) (by decide) (by decide) (by decide)), R.1.2.fr (fun c h1 h2 => by rw [e1 c (by omega), hT c (by omega)]) (ln.1 5 (by decide) (by decide) (by decide) (by decide) (by decide) (by decide)) (ln.1 6 (by decide) (by decide) (by decide) (by decide) (by decide) (by decide))⟩, ⟨?_, ?_, fun f hf => ?_⟩, ⟨w2.cg emH uEq.refl, w3.cg emH w2.1.1.2.1 w2.1.1.2.2.2⟩, ⟨?_, ?_, ?_, fun t h1 h2 => ?_⟩, R.2.2.2.2.fr (fun c h1 h2 => by rw [e1 c (by omega), hT c (by omega)]) (fun x hx => ln.2.1 x (by omega) (by omega)) (ln.1 16 (by decide) (by decide) (by decide) (by decide) (by decide) (by decide)) (fun c hc i _ => by rw [ln.1 c (by omega) (by omega) (by omega) (by omega) (by omega) (by omega)])⟩, fun c hc => by rw [e1 c (by omega), hT c (by omega)]⟩
      · rw [e1 2 (by decide), hT 2 (by omega), ln.2.1 0 (by decide) (by decide)]; exact R.2.1.1
      · rw [e1 2 (by decide), hT 2 (by omega), ln.2.1 2 (by decide) (by decide)]; exact R.2.1.2.1
      · rw [e1 60 (by decide), hT 60 (by omega), ln.1 1 (by decide) (by decide) (by decide) (by decide) (by decide) (by decide)]; exact R.2.1.2.2 f hf
      · rw [h17, hm, ln.2.2.1.2]
      · rw [h17, hm, tm0]; exact tm1.1
      · rw [h17, h5]; exact Int.le_refl _
      · rw [h17] at h1
        rw [h5] at h2
        omega
theorem txt_run {m : Nat} {p f : Nat → Int32} (h : ∀ i, i < m → p i = f i) : pRun (pC p m) m m 0 pA0 = pRun (pC f m) m m 0 pA0 := by
  have e : pC p m = pC f m := by
    funext i
    unfold pC
    by_cases q : i < m
    · rw [if_pos q, if_pos q, h i q]
    · rw [if_neg q, if_neg q]
  rw [e]
theorem op_fault {t : Int32} (R : RR hi u nb ns) (hc : if isW t 4 = false then r9 = some (.int (-1)) ∧ H = hi else if hi (sT t) 1 = -1 then r9 = some (.int (-3)) ∧ H = kRef hi 1 else (∀ c, c < 19 ∨ 30 < c → H c = hi c) ∧ rFin (hi (sT t) 1).toNatClampNeg H r9 (pRun (pC (hi (sT t + 1)) (hi (sT t) 1).toNatClampNeg) (hi (sT t) 1).toNatClampNeg (hi (sT t) 1).toNatClampNeg 0 pA0)) (hu : if 0 ≤ (uAT u t).1 then uFr u v ∧ (match pRun (pC (fun i => u 6 (80 * t.toNatClampNeg + i)) (u 5 t.toNatClampNeg).toNatClampNeg) (u 5 t.toNatClampNeg).toNatClampNeg (u 5 t.toNatClampNeg).toNatClampNeg 0 pA0 with | .error q => r9' = some (.int (nI q)) ∧ q ≤ (u 5 t.toNatClampNeg).toNatClampNeg | .ok B => r9' = some (.int (-9)) ∧ uRep B v) else r9' = some (.int (uAT u t).1) ∧ v = (uAT u t).2) : opR r9 r9' H v ∧ ∀ c, 114 ≤ c → H c = hi c := by
  rw [wU3] at hc
  by_cases h1 : uIn t 0 3 = false
  · rw [if_pos h1] at hc
    rw [uAT_no h1, if_neg (show ¬ (0 : Int32) ≤ -1 by decide)] at hu
    obtain ⟨rfl, rfl⟩ := hc
    obtain ⟨rfl, rfl⟩ := hu
    exact ⟨⟨_, rfl, rfl, nb, ns, R⟩, fun _ _ => rfl⟩
  · rw [if_neg h1] at hc
    obtain ⟨j, hj, rfl, hjc⟩ := n_ex (m := 3) (by omega) (tru h1)
    simp only [sT, hjc] at hc hu
    rcases R.1.2 j (by omega) with ⟨w1, w2⟩ | ⟨m, hm, w1, w2, w3⟩
    · rw [if_pos w1] at hc
      rw [uAT_ms (by omega) w2, if_neg (show ¬ (0 : Int32) ≤ -3 by decide)] at hu
      obtain ⟨rfl, rfl⟩ := hc
      obtain ⟨rfl, rfl⟩ := hu
      exact ⟨⟨_, rfl, rfl, nb, ns, R.ref⟩, fun c hc => kRef_c (by omega)⟩
    · rw [w1, if_neg (nI_ne1 (by omega)), nI_clamp (by omega)] at hc
      rw [uAT_ok (by omega) hm w2, if_pos (show (0 : Int32) ≤ 0 by decide), w2, nI_clamp (by omega)] at hu
      obtain ⟨F, hc⟩ := hc
      obtain ⟨U, hu⟩ := hu
      rw [txt_run w3] at hc
      have RR9 : RR H v nb ns := R.still (fun c hc => F c (by omega)) (fr_es U)
      cases hq : pRun (pC (fun i => u 6 (80 * j + i)) m) m m 0 pA0 with
      | error q =>
        rw [hq] at hc hu
        exact ⟨⟨_, hc.2, hu.1, nb, ns, RR9⟩, fun c hc => F c (by omega)⟩
      | ok B =>
        rw [hq] at hc hu
        exact ⟨⟨_, hc.1, hu.1, nb, ns, RR9⟩, fun c hc => F c (by omega)⟩
theorem op_market {t : Int32} (R : RR hi u nb ns) (hc : if isW t 4 = false then r9 = some (.int (-1)) ∧ H = hi else if hi (sT t) 1 = -1 then r9 = some (.int (-3)) ∧ H = kRef hi 1 else match pRun (pC (hi (sT t + 1)) (hi (sT t) 1).toNatClampNeg) (hi (sT t) 1).toNatClampNeg (hi (sT t) 1).toNatClampNeg 0 pA0 with | .error _ => r9 = some (.int (-4)) ∧ ∀ c, c < 19 ∨ 30 < c → H c = hi c | .ok A => r9 = some (.int (nI A.2.2.1)) ∧ mkOk hi H A) (hu : if 0 ≤ (uAT u t).1 then (match pRun (pC (fun i => u 6 (80 * t.toNatClampNeg + i)) (u 5 t.toNatClampNeg).toNatClampNeg) (u 5 t.toNatClampNeg).toNatClampNeg (u 5 t.toNatClampNeg).toNatClampNeg 0 pA0 with | .error _ => r9' = some (.int (-4)) ∧ uFr u v | .ok B => r9' = some (.int (nI B.2.2.1)) ∧ uMk u v B) else r9' = some (.int (uAT u t).1) ∧ v = (uAT u t).2) : opR r9 r9' H v ∧ ∀ c, 114 ≤ c → H c = hi c := by
  rw [wU3] at hc
  by_cases h1 : uIn t 0 3 = false
  · rw [if_pos h1] at hc
    rw [uAT_no h1, if_neg (show ¬ (0 : Int32) ≤ -1 by decide)] at hu
    obtain ⟨rfl, rfl⟩ := hc
    obtain ⟨rfl, rfl⟩ := hu
    exact ⟨⟨_, rfl, rfl, nb, ns, R⟩, fun _ _ => rfl⟩
  · rw [if_neg h1] at hc
    obtain ⟨j, hj, rfl, hjc⟩ := n_ex (m := 3) (by omega) (tru h1)
    simp only [sT, hjc] at hc hu
    rcases R.1.2 j (by omega) with ⟨w1, w2⟩ | ⟨m, hm, w1, w2, w3⟩
    · rw [if_pos w1] at hc
      rw [uAT_ms (by omega) w2, if_neg (show ¬ (0 : Int32) ≤ -3 by decide)] at hu
      obtain ⟨rfl, rfl⟩ := hc
      obtain ⟨rfl, rfl⟩ := hu
      exact ⟨⟨_, rfl, rfl, nb, ns, R.ref⟩, fun c hc => kRef_c (by omega)⟩
    · rw [w1, if_neg (nI_ne1 (by omega)), nI_clamp (by omega)] at hc
      rw [uAT_ok (by omega) hm w2, if_pos (show (0 : Int32) ≤ 0 by decide), w2, nI_clamp (by omega)] at hu
      rw [txt_run w3] at hc
      cases hq : pRun (pC (fun i => u 6 (80 * j + i)) m) m m 0 pA0 with
      | error q =>
        rw [hq] at hc hu
        exact ⟨⟨_, hc.1, hu.1, nb, ns, R.still (fun c hc9 => hc.2 c (by omega)) (fr_es hu.2)⟩, fun c hc9 => hc.2 c (by omega)⟩
      | ok A =>
        rw [hq] at hc hu
        obtain ⟨rfl, K1, K2, K3, K4, K5⟩ := hc
        obtain ⟨rfl, U1, U2, U3, U4, U5, U6, U7, U8, U9⟩ := hu
        obtain ⟨ao, ao0⟩ := pRun_ok m 0 pA0 pA0_ok hq
        obtain ⟨A1, A2, A3, A4, A5, A6⟩ := ao
        obtain ⟨g1, g2, g3, g4⟩ := K1
        have z0 : (0 : Int32).toInt = 0 := by decide
        have n5 : H 5 1 = 0 := g1.2.1
        have st2 : ∀ k, k < A.2.1.1 → 0 ≤ (cP H 2 k).toInt ∧ (cP H 2 k).toInt < 4 := fun k hk => by rw [(g2 k hk).2.1]; exact (A1 k hk).2.1
        have st1 : ∀ k, k < A.2.1.1 → 0 ≤ (cP H 1 k).toInt ∧ (cP H 1 k).toInt < 20 := fun k hk => by rw [(g2 k hk).1]; exact (A1 k hk).1
        refine ⟨⟨_, rfl, rfl, A.2.2.1, A.2.1.1, ⟨R.1.1.fr (fun c h1 h2 => K5 c (by omega)) U6 U7, R.1.2.fr (fun c h1 h2 => K5 c (by omega)) U8 U9⟩, ⟨?_, ?_, fun f hf => ?_⟩, ⟨⟨⟨⟨g1.2.2.2.1, A6, g1.2.2.1, A5⟩, fun i hi9 => ?_, fun i hi9 => ?_, fun i hi9 => ?_, K2.in⟩, ⟨⟨U1.1, A6, U1.2.1, A5⟩, fun i hi9 => ?_, fun k hk => ?_⟩, ⟨?_, ?_⟩, ⟨?_, ?_, ?_⟩, fun i hi9 => ?_, fun k hk => ?_, st2, fun i h0 hi9 => ?_, tab_m K2 st2 st1⟩, fun i hi9 => ?_, fun k hk => ?_⟩, ⟨?_, ?_, ?_, fun t h1 h2 => ?_⟩, fun k hk => Or.inl ⟨K4 k hk, U4 k hk⟩⟩, fun c hc => K5 c (by omega)⟩
        · rw [K5 2 (by omega), U1.2.2.2.2.2.1]; exact R.2.1.1
        · rw [K5 2 (by omega), U1.2.2.2.2.2.2]; exact R.2.1.2.1
        · rw [K5 60 (by omega), U5]; exact R.2.1.2.2 f hf
        · rw [(g3 i hi9).2.1]; exact (A2 i hi9).1
        · rw [(g3 i hi9).2.2.1]; exact (A2 i hi9).2
        · rw [(g3 i (by omega)).2.1, (g3 (i + 1) hi9).2.1]; exact A3 i hi9
        · rw [(U3 i hi9).2.1]; exact (A2 i hi9).1
        · rw [(U2 k hk).1]; exact (A1 k hk).1
        · rw [U1.2.2.1, g1.1]
        · rw [g1.1]; exact A4
        · rw [U1.2.2.2.1]; exact n5.symm
        · show 0 ≤ (H 5 1).toInt
          rw [n5, z0]; exact Int.le_refl _
        · show (H 5 1).toInt ≤ 60
          rw [n5, z0]; decide
        · rw [(U3 i hi9).1, (U3 i hi9).2.1, (U3 i hi9).2.2.1, (U3 i hi9).2.2.2, (g3 i hi9).1, (g3 i hi9).2.1, (g3 i hi9).2.2.1, (g3 i hi9).2.2.2]
          exact ⟨rfl, rfl, rfl, rfl⟩
        · rw [(U2 k hk).1, (U2 k hk).2.1, (U2 k hk).2.2.1, (U2 k hk).2.2.2, (g2 k hk).1, (g2 k hk).2.1, (g2 k hk).2.2.1, (g2 k hk).2.2.2]
          exact ⟨rfl, rfl, rfl, rfl⟩
        · rw [g4 i h0 hi9, (g3 i hi9).1, (g3 (i - 1) (by omega)).1, g1.1]
        · rw [(g3 i hi9).2.2.2, z0]
          show (0 : Int) ≤ 0 ∧ (0 : Int) ≤ 99 * (H 5 1).toInt
          rw [n5, z0]; decide
        · rw [(g2 k hk).2.2.1]
          have := (A1 k hk).2.2
          omega
        · rw [K3, U1.2.2.2.2.1]
        · rw [K3, z0]; exact Int.le_refl _
        · rw [K3, n5]; exact Int.le_refl _
        · rw [K3] at h1
          rw [n5] at h2
          omega
end OP5
