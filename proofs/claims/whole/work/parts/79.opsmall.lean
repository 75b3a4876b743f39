/-! PART opsmall: buyers, stalls, marks, wants, shade: both sides -/
theorem sf_up {hi : cm_g2} {a c : Nat} {f : Nat → Int32} : cm_sf (va_up hi (a + c) f) a = va_up (cm_sf hi a) c f := by
  funext x
  show va_up hi (a + c) f (a + x) = _
  by_cases q : x = c
  · subst q; rw [va_up_self, va_up_self]
  · rw [va_up_ne _ _ (by omega), va_up_ne _ _ q]; rfl
theorem sumP_cg {f g : Nat → Int32} : ∀ n, (∀ i, i < n → f i = g i) → sumP f n = sumP g n
  | 0, _ => rfl
  | n + 1, h => by
    unfold sumP
    rw [sumP_cg n (fun i hi9 => h i (by omega)), h n (by omega)]
theorem cAbs_u (v : Int32) : cAbs v = uAbs v := by
  unfold cAbs uAbs
  rw [show (0 : Int32) - v = -v from Int32.zero_sub v]
/-- the nearest STALL, as the class and as the reference say it -/
theorem near_same {g : cm_g2} {fr goods gd ot : Int32} : ∀ n, (∀ k, k < n → (isI goods (g 2 k) = true ↔ (g 2 k = gd ∨ g 2 k = ot))) → cNear g fr goods n = tNear g fr gd ot n
  | 0, _ => rfl
  | n + 1, h => by
    have ih := near_same (g := g) (fr := fr) n (fun k hk => h k (by omega))
    unfold cNear tNear
    rw [ih]
    have e : (∀ b, tNear g fr gd ot n = some b → cNearer g fr n b = true) ↔ tNearer g fr n (tNear g fr gd ot n) = true := by
      cases hq : tNear g fr gd ot n with
      | none => exact ⟨fun _ => rfl, fun _ b hb => by cases hb⟩
      | some b =>
        have e9 : cNearer g fr n b = tNearer g fr n (some b) := by
          unfold cNearer tNearer
          dsimp only
          rw [cAbs_u, cAbs_u]
        exact ⟨fun w => by rw [← e9]; exact w b rfl, fun w c hc => by cases hc; rw [e9]; exact w⟩
    by_cases q : isI goods (g 2 n) = true ∧ ∀ b, tNear g fr gd ot n = some b → cNearer g fr n b = true
    · rw [if_pos q, if_pos ⟨(h n (by omega)).mp q.1, e.mp q.2⟩]
    · rw [if_neg q, if_neg (fun w => q ⟨(h n (by omega)).mpr w.1, e.mpr w.2⟩)]
theorem isI_8 : ∀ k, k < 4 → (isI 8 (nI k) = true ↔ k < 4 ∧ nI k = 3) := by decide +kernel
theorem isI_w : ∀ w, w < 5 → ∀ k, k < 4 → (isI (1 <<< (nI w &&& 31)) (nI k) = true ↔ nI k = nI w) := by decide +kernel
theorem isI_w8 : ∀ w, w < 5 → ∀ k, k < 4 → (isI ((1 <<< (nI w &&& 31)) ||| 8) (nI k) = true ↔ nI k = nI w ∨ nI k = 3) := by decide +kernel
theorem goers_can {g u : cm_g2} {nb ns B i : Nat} {way : Int32} (h : mR g u nb ns B) (hi : i < nb) (hw : -1 ≤ way.toInt ∧ way.toInt ≤ 1) : (mCan g (mFirst g way i) (mLast g nb way nb i) way = true → ∃ f t, mFirst g way i = some f ∧ mLast g nb way nb i = some t ∧ f ≤ i ∧ i ≤ t ∧ t < nb ∧ isSet (uGo u nb i way) ∧ ∀ k, k < 6 → uHas (uGo u nb i way) (nI k) = (decide (f ≤ k) && decide (k ≤ t))) ∧ (mCan g (mFirst g way i) (mLast g nb way nb i) way = false → uGo u nb i way = 0) := by
  have hm := h.1
  have hnb := hm.1.2.1
  have hset := uSet_spec (u := u) (nb := nb) (i := i) (way := way) hnb hi
  have hF := mFirst_uF h hw i hi
  have hT := mLast_uT h hw nb i hi
  have lF := uF_le (u := u) (way := way) i
  have lT := uT_ge (u := u) (nb := nb) (way := way) nb i
  have bad : ∀ k, k < nb → uBad u i way (uSet u nb i way) k = (decide (uF u way i ≤ k) && decide (k ≤ uT u nb way nb i) && (!uIn (g 6 k + way) 0 19 || (!decide (k = i) && mRich g k))) := by
    intro k hk
    unfold uBad
    rw [hset k (by omega), mRich_eq h hk, (h.2.2.2.2.1 k hk).2.1]
  have hsp : ∀ k, k < nb → (g 6 k + way).toInt = (g 6 k).toInt + way.toInt := fun k hk => by
    have := hm.2.1 k hk
    exact zadd (by omega)
  refine ⟨fun hc => ?_, fun hc => ?_⟩
  · cases hf : mFirst g way i with
    | none => rw [hf] at hc; cases hc
    | some f =>
      cases ht : mLast g nb way nb i with
      | none => rw [hf, ht] at hc; cases hc
      | some t =>
        rw [hf, ht] at hc
        have f1 := hF.1 f hf
        have t1 := hT.1 t ht
        unfold mCan at hc
        simp only [Bool.and_eq_true, Bool.not_eq_true', decide_eq_false_iff_not, Int32.lt_iff_toInt_lt, Int32.le_iff_toInt_le] at hc
        have z0 : (0 : Int32).toInt = 0 := by decide
        have z20 : (20 : Int32).toInt = 20 := by decide
        rw [z0, z20, hsp f (by omega), hsp t (by omega)] at hc
        have hgo : uGo u nb i way = uSet u nb i way := by
          unfold uGo
          refine uChk_all (fun k _ hk => ?_)
          rw [bad k (by omega)]
          by_cases hin : uF u way i ≤ k ∧ k ≤ uT u nb way nb i
          · have m1 := hm.mono (k - f) f (by omega)
            have m2 := hm.mono (t - k) k (by omega)
            rw [show f + (k - f) = k by omega] at m1
            rw [show k + (t - k) = t by omega] at m2
            have hi9 : uIn (g 6 k + way) 0 19 = true := uIn_iff.mpr (by rw [hsp k (by omega)]; omega)
            rw [hi9]
            by_cases e : k = i
            · simp [e]
            · have hr : mRich g k = false := by
                by_cases e2 : k < i
                · exact f1.2 k (by omega) e2
                · exact t1.2 k (by omega) (by omega)
              simp [hr]
          · by_cases e3 : uF u way i ≤ k
            · have : ¬ k ≤ uT u nb way nb i := fun q => hin ⟨e3, q⟩
              simp [this]
            · simp [e3]
        refine ⟨f, t, rfl, rfl, by omega, by omega, by omega, ?_, fun k hk => by rw [hgo, hset k hk, f1.1, t1.1]⟩
        rw [hgo]
        have h1 := bit_one i (by omega)
        have h2 := uDown_spec (u := u) (way := way) i _ (by omega) h1.1
        exact (uUp_spec (u := u) (nb := nb) (way := way) hnb nb i _ hi (by omega) h2.1).1
  · unfold uGo
    have mk : ∀ k, k < nb → uF u way i ≤ k → k ≤ uT u nb way nb i → (uIn (g 6 k + way) 0 19 = false ∨ (k ≠ i ∧ mRich g k = true)) → uChk u i way (uSet u nb i way) nb 0 = 0 := by
      intro k hk h1 h2 h3
      refine uChk_bad k (by omega) (by omega) ?_
      rw [bad k hk]
      rcases h3 with h3 | ⟨h3, h4⟩
      · simp [h1, h2, h3]
      · simp [h1, h2, h3, h4]
    cases hf : mFirst g way i with
    | none =>
      obtain ⟨j, a1, a2, a3⟩ := hF.2 hf
      exact mk j (by omega) a1 (by omega) (Or.inr ⟨by omega, a3⟩)
    | some f =>
      cases ht : mLast g nb way nb i with
      | none =>
        obtain ⟨j, a1, a2, a3⟩ := hT.2 ht
        exact mk j (by omega) (by omega) a2 (Or.inr ⟨by omega, a3⟩)
      | some t =>
        rw [hf, ht] at hc
        have f1 := hF.1 f hf
        have t1 := hT.1 t ht
        have ff := hm.2.1 f (by omega)
        have tt := hm.2.1 t (by omega)
        have m1 := hm.mono (t - f) f (by omega)
        rw [show f + (t - f) = t by omega] at m1
        unfold mCan at hc
        rw [Bool.and_eq_false_iff] at hc
        simp only [Bool.not_eq_false', decide_eq_true_eq, Int32.lt_iff_toInt_lt, Int32.le_iff_toInt_le] at hc
        have z0 : (0 : Int32).toInt = 0 := by decide
        have z20 : (20 : Int32).toInt = 20 := by decide
        rw [z0, z20, hsp f (by omega), hsp t (by omega)] at hc
        rcases hc with hc | hc
        · refine mk f (by omega) (by omega) (by omega) (Or.inl ?_)
          rw [Bool.eq_false_iff]
          intro q
          have := uIn_iff.mp q
          rw [hsp f (by omega)] at this
          omega
        · refine mk t (by omega) (by omega) (by omega) (Or.inl ?_)
          rw [Bool.eq_false_iff]
          intro q
          have := uIn_iff.mp q
          rw [hsp t (by omega)] at this
          omega
theorem run_sz : ∀ n, n < 64 → ∀ f, f < 6 → ∀ t, t < 6 → f ≤ t → (∀ k, k < 6 → n.testBit k = (decide (f ≤ k) && decide (k ≤ t))) → uSz (nI n) 10 - (if nI n = 0 then 0 else 1) = nI t - nI f := by decide +kernel
section OP2
variable {hi u : cm_g2} {nb ns : Nat}
theorem RR.ns0 (R : RR hi u nb ns) : hi 5 3 = nI nb ∧ u 0 9 = nI nb ∧ nb ≤ 6 ∧ hi 5 2 = nI ns ∧ u 0 10 = nI ns ∧ ns ≤ 6 := ⟨R.mo.1.1, R.uo.1.1, R.mo.1.2.1, R.mo.1.2.2.1, R.uo.1.2.2.1, R.mo.1.2.2.2⟩
theorem RR.b (R : RR hi u nb ns) {i : Nat} (h : i < nb) : u 7 i = hi 10 i ∧ u 8 i = hi 11 i ∧ u 9 i = hi 12 i ∧ u 10 i = hi 13 i := R.m.2.2.2.2.1 i h
theorem RR.s (R : RR hi u nb ns) {k : Nat} (h : k < ns) : u 11 k = hi 6 k ∧ u 12 k = hi 7 k ∧ u 13 k = hi 8 k ∧ u 14 k = hi 9 k := R.m.2.2.2.2.2.1 k h
theorem op_buyer {i w : Int32} (R : RR hi u nb ns) : opOk hi nb ns (cBuyer hi i w).1 (uBuyer u i w).1 (cBuyer hi i w).2 (uBuyer u i w).2 := by
  obtain ⟨b1, b2, b3, -⟩ := R.ns0
  unfold cBuyer uBuyer
  rw [b1, b2, wUm (by omega), wU3]
  by_cases h1 : uIn i 0 (nI nb - 1) = false ∨ uIn w 0 3 = false
  · rw [if_pos h1, if_pos h1]; exact ⟨rfl, R, fun _ _ => rfl⟩
  · rw [if_neg h1, if_neg h1]
    obtain ⟨j, hj, rfl⟩ := uIn_ix (tru (fun w => h1 (Or.inl w))) (by omega)
    have e : cFB (cP hi) (nI j).toNatClampNeg w = uFB u (nI j).toNatClampNeg w := by
      rw [nI_clamp (by omega)]
      have q := R.b hj
      unfold cFB uFB
      rw [q.1, q.2.1, q.2.2.1, q.2.2.2]
      rfl
    rw [e]
    exact ⟨rfl, R.tell, fun c hc => kTell_c (by omega)⟩
theorem op_stall {i w : Int32} (R : RR hi u nb ns) : opOk hi nb ns (cStall hi i w).1 (uStall u i w).1 (cStall hi i w).2 (uStall u i w).2 := by
  obtain ⟨-, -, -, b1, b2, b3⟩ := R.ns0
  unfold cStall uStall
  rw [b1, b2, wUm (by omega), wU3]
  by_cases h1 : uIn i 0 (nI ns - 1) = false ∨ uIn w 0 3 = false
  · rw [if_pos h1, if_pos h1]; exact ⟨rfl, R, fun _ _ => rfl⟩
  · rw [if_neg h1, if_neg h1]
    obtain ⟨j, hj, rfl⟩ := uIn_ix (tru (fun w => h1 (Or.inl w))) (by omega)
    have e : cFS (cP hi) (nI j).toNatClampNeg w = uFS u (nI j).toNatClampNeg w := by
      rw [nI_clamp (by omega)]
      have q := R.s hj
      unfold cFS uFS
      rw [q.1, q.2.1, q.2.2.1, q.2.2.2]
      rfl
    rw [e]
    exact ⟨rfl, R.tell, fun c hc => kTell_c (by omega)⟩
theorem op_wish {i : Int32} (R : RR hi u nb ns) : opOk hi nb ns (cWish hi i).1 (uWishC u ns i).1 (cWish hi i).2 (uWishC u ns i).2 := by
  obtain ⟨b1, b2, b3, -⟩ := R.ns0
  unfold cWish uWishC
  rw [b1, b2, wUm (by omega)]
  by_cases h1 : uIn i 0 (nI nb - 1) = false
  · rw [if_pos h1, if_pos h1]; exact ⟨rfl, R, fun _ _ => rfl⟩
  · rw [if_neg h1, if_neg h1]
    obtain ⟨j, hj, rfl⟩ := uIn_ix (tru h1) (by omega)
    rw [nI_clamp (by omega), way_same R.m hj]
    exact ⟨rfl, R.tell, fun c hc => kTell_c (by omega)⟩
theorem in4_ex {gd : Int32} (h : uIn gd 0 4 = true) : 0 ≤ gd.toInt ∧ gd.toInt < 5 := by
  have := uIn_zz.mp h
  have z0 : (0 : Int32).toInt = 0 := by decide
  have z4 : (4 : Int32).toInt = 4 := by decide
  omega
theorem mR.want {g u : cm_g2} {B j : Nat} {gd : Int32} (h : mR g u nb ns B) (hg : 0 ≤ gd.toInt ∧ gd.toInt < 5) : mR (va_up g 7 (upd (g 7) j gd)) (va_up u 9 (upd (u 9) j gd)) nb ns B := by
  obtain ⟨h1, h2, h3, h4, h5, h6, h7, h8, h9⟩ := h
  refine ⟨⟨h1.1, h1.2.1, fun i hi9 => ?_, h1.2.2.2⟩, h2.w9, h3, h4, fun i hi9 => ⟨(h5 i hi9).1, (h5 i hi9).2.1, ?_, (h5 i hi9).2.2.2⟩, h6, h7, h8, h9.keep rfl rfl rfl⟩
  · rw [va_up_self]
    unfold upd
    split
    · exact hg
    · exact h1.2.2.1 i hi9
  · rw [va_up_self, va_up_self]
    unfold upd
    split
    · rfl
    · exact (h5 i hi9).2.2.1
theorem wU4 {v : Int32} : isW v 5 = uIn v 0 4 := wU (n := 4) (by decide)
theorem op_want {i gd : Int32} (R : RR hi u nb ns) : opOk hi nb ns (cWant hi i gd).1 (uWantC u i gd).1 (cWant hi i gd).2 (uWantC u i gd).2 := by
  obtain ⟨b1, b2, b3, -⟩ := R.ns0
  unfold cWant uWantC
  rw [b1, b2, wUm (by omega), wU4]
  by_cases h1 : uIn i 0 (nI nb - 1) = false ∨ uIn gd 0 4 = false
  · rw [if_pos h1, if_pos h1]; exact ⟨rfl, R, fun _ _ => rfl⟩
  · rw [if_neg h1, if_neg h1]
    obtain ⟨j, hj, rfl⟩ := uIn_ix (tru (fun w => h1 (Or.inl w))) (by omega)
    rw [nI_clamp (by omega)]
    dsimp only
    have hg := in4_ex (tru (fun w => h1 (Or.inr w)))
    have m9 := R.m.want (j := j) hg
    refine ⟨(R.b hj).2.2.1.symm, ⟨⟨R.1.1.fr (fun c h1 h2 => va_up_ne _ _ (by omega)) (va_up_ne _ _ (by decide)) (va_up_ne _ _ (by decide)), R.1.2.fr (fun c h1 h2 => va_up_ne _ _ (by omega)) (va_up_ne _ _ (by decide)) (va_up_ne _ _ (by decide))⟩, R.2.1.eq (va_up_ne _ _ (by decide)) (va_up_ne _ _ (by decide)) (va_up_ne _ _ (by decide)) (va_up_ne _ _ (by decide)), ⟨?_, ?_⟩, R.2.2.2.1.fr (by rw [va_up_ne _ _ (by decide)]) (by rw [va_up_ne _ _ (by decide)]) (va_up_ne _ _ (by decide)) (by rw [va_up_ne _ _ (by decide)]) (va_up_ne _ _ (by decide)), R.2.2.2.2.fr (fun c h1 h2 => va_up_ne _ _ (by omega)) (fun j hj => by rw [va_up_ne _ _ (by decide)]) (va_up_ne _ _ (by decide)) (fun c hc i hi9 => by rw [va_up_ne _ _ (by omega)])⟩, fun c hc => va_up_ne _ _ (by omega)⟩
    · rw [show cP (va_up hi 12 (upd (hi 12) j gd)) = va_up (cP hi) 7 (upd (cP hi 7) j gd) from sf_up (a := 5) (c := 7)]
      exact m9
    · rw [show cP (va_up hi 12 (upd (hi 12) j gd)) = va_up (cP hi) 7 (upd (cP hi 7) j gd) from sf_up (a := 5) (c := 7)]
      exact R.2.2.1.2
theorem op_price {k v : Int32} (R : RR hi u nb ns) : opOk hi nb ns (cPrice hi k v).1 (uPrice u k v).1 (cPrice hi k v).2 (uPrice u k v).2 := by
  obtain ⟨-, -, -, b1, b2, b3⟩ := R.ns0
  unfold cPrice uPrice
  rw [b1, b2, wUm (by omega)]
  have z0 : (0 : Int32).toInt = 0 := by decide
  have z99 : (99 : Int32).toInt = 99 := by decide
  have ev : (v < 0 ∨ ¬ v ≤ 99) ↔ uIn v 0 99 = false := by
    rw [← Bool.not_eq_true, uIn_zz, Int32.lt_iff_toInt_lt, Int32.le_iff_toInt_le, z0, z99]
    omega
  by_cases h1 : uIn k 0 (nI ns - 1) = false ∨ uIn v 0 99 = false
  · rw [if_pos h1, if_pos (h1.elim Or.inl (fun w => Or.inr (ev.mpr w)))]; exact ⟨rfl, R, fun _ _ => rfl⟩
  · rw [if_neg h1, if_neg (fun w => h1 (w.elim Or.inl (fun w => Or.inr (ev.mp w))))]
    obtain ⟨j, hj, rfl⟩ := uIn_ix (tru (fun w => h1 (Or.inl w))) (by omega)
    rw [nI_clamp (by omega)]
    dsimp only
    have hv := uIn_zz.mp (tru (fun w => h1 (Or.inr w)))
    rw [z0, z99] at hv
    have e9 : cP (va_up hi 8 (upd (hi 8) j v)) = va_up (cP hi) 3 (upd (cP hi 3) j v) := sf_up (a := 5) (c := 3)
    obtain ⟨h1, h2, h3, h4, h5, h6, h7, h8, h9⟩ := R.m
    refine ⟨(R.s hj).2.2.1.symm, ⟨⟨R.1.1.fr (fun c h1 h2 => va_up_ne _ _ (by omega)) (va_up_ne _ _ (by decide)) (va_up_ne _ _ (by decide)), R.1.2.fr (fun c h1 h2 => va_up_ne _ _ (by omega)) (va_up_ne _ _ (by decide)) (va_up_ne _ _ (by decide))⟩, R.2.1.eq (va_up_ne _ _ (by decide)) (va_up_ne _ _ (by decide)) (va_up_ne _ _ (by decide)) (va_up_ne _ _ (by decide)), ⟨?_, ?_⟩, R.2.2.2.1.fr (by rw [va_up_ne _ _ (by decide)]) (by rw [va_up_ne _ _ (by decide)]) (va_up_ne _ _ (by decide)) (by rw [va_up_ne _ _ (by decide)]) (va_up_ne _ _ (by decide)), R.2.2.2.2.fr (fun c h1 h2 => va_up_ne _ _ (by omega)) (fun j hj => by rw [va_up_ne _ _ (by decide)]) (va_up_ne _ _ (by decide)) (fun c hc i hi9 => by rw [va_up_ne _ _ (by omega)])⟩, fun c hc => va_up_ne _ _ (by omega)⟩
    · rw [e9]
      refine ⟨h1, ⟨by rw [va_up_ne _ _ (by decide)]; exact h2.1, fun i hi9 => by rw [va_up_ne _ _ (by decide)]; exact h2.2.1 i hi9, fun k hk => by rw [va_up_ne _ _ (by decide)]; exact h2.2.2 k hk⟩, h3, h4, h5, fun x hx => ⟨(h6 x hx).1, (h6 x hx).2.1, ?_, (h6 x hx).2.2.2⟩, h7, h8, h9.keep rfl rfl rfl⟩
      rw [va_up_self, va_up_self]
      unfold upd
      split
      · rfl
      · exact (h6 x hx).2.2.1
    · rw [e9]
      refine ⟨R.2.2.1.2.1, fun x hx => ?_⟩
      rw [va_up_self]
      unfold upd
      split
      · exact hv
      · exact R.2.2.1.2.2 x hx
theorem good_ex (R : RR hi u nb ns) {k : Nat} (h : k < ns) : ∃ x, x < 4 ∧ cP hi 2 k = nI x := by
  have := R.m.2.2.2.2.2.2.1 k h
  exact ⟨(cP hi 2 k).toInt.toNat, by omega, z_of this.1⟩
theorem far_same (R : RR hi u nb ns) {j : Nat} {goods gd : Int32} (hj : j < nb) (h : ∀ k, k < ns → (isI goods (cP hi 2 k) = true ↔ (cP hi 2 k = gd ∨ cP hi 2 k = gd))) : cFar (cP hi) ns (cP hi 6 j) goods = uFar u ns j gd := by
  unfold cFar uFar
  rw [uNear_eq R.m hj ns (Nat.le_refl _), near_same ns h]
  cases hb : tNear (cP hi) (cP hi 6 j) gd gd ns with
  | none => rfl
  | some k =>
    have hk := tNear_lt hb
    dsimp only
    rw [(R.s hk).1, (R.b hj).2.1, cAbs_u]
    rfl
theorem op_mark {i kd : Int32} (R : RR hi u nb ns) : opOk hi nb ns (cMark hi nb ns i kd).1 (uMark u nb ns i kd).1 (cMark hi nb ns i kd).2 (uMark u nb ns i kd).2 := by
  obtain ⟨b1, b2, b3, -, -, b6⟩ := R.ns0
  unfold cMark uMark
  rw [b1, b2, wUm (by omega)]
  have z1 : (1 : Int32).toInt = 1 := by decide
  have z5 : (5 : Int32).toInt = 5 := by decide
  have ev : (kd < 1 ∨ ¬ kd ≤ 5) ↔ uIn kd 1 5 = false := by
    rw [← Bool.not_eq_true, uIn_zz, Int32.lt_iff_toInt_lt, Int32.le_iff_toInt_le, z1, z5]
    omega
  by_cases h1 : uIn i 0 (nI nb - 1) = false ∨ uIn kd 1 5 = false
  · rw [if_pos h1, if_pos (h1.elim Or.inl (fun w => Or.inr (ev.mpr w)))]; exact ⟨rfl, R, fun _ _ => rfl⟩
  · rw [if_neg h1, if_neg (fun w => h1 (w.elim Or.inl (fun w => Or.inr (ev.mp w))))]
    obtain ⟨j, hj, rfl⟩ := uIn_ix (tru (fun w => h1 (Or.inl w))) (by omega)
    rw [nI_clamp (by omega)]
    have q := R.b hj
    have eA : uA u j kd = mOf (cP hi) j kd := by
      unfold uA mOf
      rw [q.1]
      rfl
    rw [eA]
    cases hA : mOf (cP hi) j kd with
    | false =>
      rw [if_neg (by decide), if_neg (by decide)]
      exact ⟨rfl, R.ref, fun c hc => kRef_c (by omega)⟩
    | true =>
      rw [if_pos rfl, if_pos rfl]
      refine ⟨?_, R, fun _ _ => rfl⟩
      show cMarkV (cP hi) nb ns j kd = uMarkV u nb ns j kd
      unfold cMarkV uMarkV
      by_cases k1 : kd = 1
      · rw [if_pos k1, if_pos k1]
        have gc := goers_can (way := 1) R.m hj (by rw [z1]; decide)
        cases hc : mCan (cP hi) (mFirst (cP hi) 1 j) (mLast (cP hi) nb 1 nb j) 1 with
        | false =>
          rw [gc.2 hc, if_neg (by decide), if_pos rfl]
          decide
        | true =>
          obtain ⟨f, t, hf, ht, c1, c2, c3, ⟨s, hs, hse⟩, c4⟩ := gc.1 hc
          rw [if_pos rfl, hf, ht, hse]
          show nI t - nI f = _
          exact (run_sz s hs f (by omega) t (by omega) (by omega) (fun k hk => by rw [← uHas_bit s hs k hk, ← hse]; exact c4 k hk)).symm
      · rw [if_neg k1, if_neg k1]
        by_cases k2 : kd = 2
        · rw [if_pos k2, if_pos k2]
          by_cases w : 0 < j ∧ j + 1 < nb
          · rw [if_pos w, if_neg (by omega), (R.b (i := j + 1) (by omega)).2.1, (R.b (i := j - 1) (by omega)).2.1]
            rfl
          · rw [if_neg w, if_pos (by omega)]
        · rw [if_neg k2, if_neg k2]
          by_cases k3 : kd = 3
          · rw [if_pos k3, if_pos k3]
            refine far_same R hj (fun k hk => ?_)
            obtain ⟨x, hx, hxe⟩ := good_ex R hk
            rw [hxe, isI_8 x hx]
            exact ⟨fun w => Or.inl w.2, fun w => ⟨hx, w.elim id id⟩⟩
          · rw [if_neg k3, if_neg k3]
            by_cases k4 : kd = 4
            · rw [if_pos k4, if_pos k4]
              refine sumP_cg ns (fun x hx => ?_)
              rw [(R.s hx).1, q.2.1, R.m.2.2.1.1, cAbs_u]
              rfl
            · rw [if_neg k4, if_neg k4, q.2.2.1]
              refine far_same R hj (fun k hk => ?_)
              obtain ⟨x, hx, hxe⟩ := good_ex R hk
              have hw := R.mo.2.2.1 j hj
              have ew : hi 12 j = nI (hi 12 j).toInt.toNat := z_of hw.1
              rw [hxe, show cP hi 7 j = hi 12 j from rfl, ew, isI_w _ (by have := hw.2; show (hi 12 j).toInt.toNat < 5; have h9 : (hi 12 j).toInt < 5 := this; omega) x hx]
              exact ⟨Or.inl, fun w => w.elim id id⟩
theorem RR.sun (R : RR hi u nb ns) : uSun u = mSun (cP hi) := uSun_eq R.m
theorem op_shade (R : RR hi u nb ns) : opOk hi nb ns (cShade hi nb).1 (uShade u nb).1 (cShade hi nb).2 (uShade u nb).2 := by
  obtain ⟨b1, b2, b3, -⟩ := R.ns0
  unfold cShade uShade
  rw [b1, b2]
  by_cases h1 : nI nb = 0
  · rw [if_pos h1, if_pos h1]; exact ⟨rfl, R, fun _ _ => rfl⟩
  · have h0 : 0 < nb := Nat.pos_of_ne_zero (fun w => h1 (by rw [w]; rfl))
    rw [if_neg h1, if_neg h1, R.sun, (R.b (i := 0) h0).2.1, (R.b (i := nb - 1) (by omega)).2.1]
    unfold mLastSpot
    rw [if_neg (by omega)]
    exact ⟨rfl, R.tell, fun c hc => kTell_c (by omega)⟩
theorem shs_same {g u : cm_g2} {B : Nat} {mv : Int32} (h : mR g u nb ns B) (hmv : -50 ≤ mv.toInt ∧ mv.toInt ≤ 50) : ∀ k, k ≤ ns → uShs u nb mv k = mShs g nb mv k
  | 0, _ => rfl
  | k + 1, hk => by
    unfold uShs mShs
    have e := (h.2.2.2.2.2.1 k (by omega)).1
    have b := h.2.1.2.2 k (by omega)
    rw [e] at b ⊢
    rw [shs_same h hmv k (by omega), shaded_same h b hmv]
    cases mShaded g nb (g 1 k) mv with
    | true => rw [if_pos rfl, if_pos rfl]
    | false => rw [if_neg (by decide), if_neg (by decide), Int32.or_zero]
theorem RR.sunz (R : RR hi u nb ns) : -3 ≤ (mSun (cP hi)).toInt ∧ (mSun (cP hi)).toInt ≤ 3 := mSun_z R.min.2.1
theorem op_shaded (R : RR hi u nb ns) : opOk hi nb ns (mShs (cP hi) nb (mSun (cP hi)) ns) (uShs u nb (uSun u) ns) hi u := by
  have := R.sunz
  rw [R.sun]
  exact ⟨(shs_same R.m (by omega) ns (Nat.le_refl _)).symm, R, fun _ _ => rfl⟩
theorem op_asked (R : RR hi u nb ns) : opOk hi nb ns (hi 2 10) (u 0 2) hi u := ⟨R.2.1.2.1, R, fun _ _ => rfl⟩
theorem op_finding (R : RR hi u nb ns) : opOk hi nb ns (hi 2 9) (u 0 0) hi u := ⟨R.2.1.1, R, fun _ _ => rfl⟩
theorem op_findings {f : Int32} (R : RR hi u nb ns) : opOk hi nb ns (if f < 1 ∨ ¬ f ≤ 5 then -1 else hi 60 f.toNatClampNeg) (if uIn f 1 5 = false then -1 else u 1 f.toNatClampNeg) hi u := by
  have z1 : (1 : Int32).toInt = 1 := by decide
  have z5 : (5 : Int32).toInt = 5 := by decide
  have ev : (f < 1 ∨ ¬ f ≤ 5) ↔ uIn f 1 5 = false := by
    rw [← Bool.not_eq_true, uIn_zz, Int32.lt_iff_toInt_lt, Int32.le_iff_toInt_le, z1, z5]
    omega
  refine ⟨?_, R, fun _ _ => rfl⟩
  by_cases h1 : uIn f 1 5 = false
  · rw [if_pos h1, if_pos (ev.mpr h1)]
  · rw [if_neg h1, if_neg (fun w => h1 (ev.mp w))]
    have hf := uIn_zz.mp (tru h1)
    rw [z1, z5] at hf
    have w : f.toNatClampNeg = f.toInt.toNat := rfl
    exact R.2.1.2.2 _ (by omega)
end OP2
