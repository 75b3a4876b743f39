/-! PART opaside2: rest, track, spot, missed: both sides -/
def pkN (g : cm_g2) : Nat → Nat
  | 0 => 0
  | k + 1 => (pkN g k * 20 + (g 6 k).toInt.toNat) * 5 + (g 7 k).toInt.toNat
theorem pk_lN {g : cm_g2} {nb ns : Nat} (h : mOk g nb ns) : ∀ k, k ≤ nb → cPack g k = lN (pkN g k) ∧ pkN g k < 100 ^ k
  | 0, _ => ⟨rfl, (by show 0 < 1; decide)⟩
  | k + 1, hk => by
    obtain ⟨i1, i2⟩ := pk_lN h k (by omega)
    have s := h.2.1 k (by omega)
    have w := h.2.2.1 k (by omega)
    have es : (g 6 k).toInt64 = lN (g 6 k).toInt.toNat := by
      conv => lhs; rw [show g 6 k = nI (g 6 k).toInt.toNat from z_of s.1]
      exact nI_l (by omega)
    have ew : (g 7 k).toInt64 = lN (g 7 k).toInt.toNat := by
      conv => lhs; rw [show g 7 k = nI (g 7 k).toInt.toNat from z_of w.1]
      exact nI_l (by omega)
    refine ⟨?_, ?_⟩
    · show (cPack g k * 20 + (g 6 k).toInt64) * 5 + (g 7 k).toInt64 = _
      rw [i1, es, ew, show (20 : Int64) = lN 20 from rfl, show (5 : Int64) = lN 5 from rfl, lN_mul, lN_add, lN_mul, lN_add]
      rfl
    · show (pkN g k * 20 + (g 6 k).toInt.toNat) * 5 + (g 7 k).toInt.toNat < 100 ^ (k + 1)
      rw [Nat.pow_succ]
      omega
theorem pk_inj {g g' : cm_g2} {nb ns : Nat} (h : mOk g nb ns) (h' : mOk g' nb ns) : ∀ k, k ≤ nb → (pkN g k = pkN g' k ↔ ∀ i, i < k → g 6 i = g' 6 i ∧ g 7 i = g' 7 i)
  | 0, _ => ⟨fun _ i hi => absurd hi (Nat.not_lt_zero _), fun _ => rfl⟩
  | k + 1, hk => by
    have ih := pk_inj h h' k (by omega)
    have s := h.2.1 k (by omega)
    have w := h.2.2.1 k (by omega)
    have s' := h'.2.1 k (by omega)
    have w' := h'.2.2.1 k (by omega)
    show (pkN g k * 20 + (g 6 k).toInt.toNat) * 5 + (g 7 k).toInt.toNat = (pkN g' k * 20 + (g' 6 k).toInt.toNat) * 5 + (g' 7 k).toInt.toNat ↔ _
    constructor
    · intro q i hi
      have a1 : pkN g k = pkN g' k := by omega
      by_cases e : i = k
      · subst e
        refine ⟨?_, ?_⟩
        · rw [z_of s.1, z_of s'.1, show (g 6 i).toInt.toNat = (g' 6 i).toInt.toNat by omega]
        · rw [z_of w.1, z_of w'.1, show (g 7 i).toInt.toNat = (g' 7 i).toInt.toNat by omega]
      · exact ih.mp a1 i (by omega)
    · intro q
      rw [ih.mpr (fun i hi => q i (by omega)), (q k (by omega)).1, (q k (by omega)).2]
theorem pack_eq {g g' : cm_g2} {nb ns : Nat} (h : mOk g nb ns) (h' : mOk g' nb ns) : cPack g nb = cPack g' nb ↔ ∀ i, i < nb → g 6 i = g' 6 i ∧ g 7 i = g' 7 i := by
  have a := pk_lN h nb (Nat.le_refl _)
  have b := pk_lN h' nb (Nat.le_refl _)
  have hp : 100 ^ nb ≤ 100 ^ 6 := Nat.pow_le_pow_right (by decide) h.1.2.1
  have h6 : 100 ^ 6 = 1000000000000 := by decide
  rw [a.1, b.1, pk_lEQ (by omega) (by omega), pk_inj h h' nb (Nat.le_refl _)]
theorem isP_iff {v : cm_g2} {a : Nat} : ∀ k, uIsP v a k = true ↔ ∀ i, i < k → v 18 (a + i) = v 8 i ∧ v 18 (a + 6 + i) = v 9 i
  | 0 => ⟨fun _ i hi => absurd hi (Nat.not_lt_zero _), fun _ => rfl⟩
  | k + 1 => by
    unfold uIsP
    rw [Bool.and_eq_true, isP_iff k, Bool.and_eq_true, decide_eq_true_eq, decide_eq_true_eq]
    constructor
    · rintro ⟨a1, a2⟩ i hi
      by_cases e : i = k
      · subst e; exact a2
      · exact a1 i (by omega)
    · intro q
      exact ⟨fun i hi => q i (by omega), q k (by omega)⟩
theorem uSP_em {v : cm_g2} {a nb : Nat} : uEq v (uSP v a nb) := ⟨fun j _ => by rw [uSP_c (by decide)], fun c hc => uSP_c (by omega), fun c h1 h2 i _ => by rw [uSP_c (by omega)]⟩
theorem rs_past {g u : cm_g2} {nb ns : Nat} (h : mR g (uPA u) nb ns 60) : ∀ m, m ≤ 1000 → mR (mIt g nb ns m).1 (uRs u nb ns m) nb ns (60 + m) ∧ ∀ t, t ≤ m → m < t + 7 → ∀ i, i < nb → uRs u nb ns m 18 (12 * (t % 7) + i) = (mIt g nb ns t).1 6 i ∧ uRs u nb ns m 18 (12 * (t % 7) + 6 + i) = (mIt g nb ns t).1 7 i
  | 0, _ => by
    have hnb := h.1.1.2.1
    refine ⟨h.cg mEq.refl uSP_em, fun t h1 h2 i hi => ?_⟩
    have : t = 0 := by omega
    subst this
    have b := h.2.2.2.2.1 i hi
    show uSP (uPA u) 0 nb 18 _ = g 6 i ∧ uSP (uPA u) 0 nb 18 _ = g 7 i
    unfold uSP
    rw [va_up_self]
    refine ⟨?_, ?_⟩
    · rw [if_pos (by omega), if_pos (by omega), ← b.2.1]
      congr 1
      omega
    · rw [if_pos (by omega), if_neg (by omega), ← b.2.2.1]
      congr 1
      omega
  | m + 1, hm => by
    have hnb := h.1.1.2.1
    obtain ⟨i1, i2⟩ := rs_past h m (by omega)
    have p1 := i1.pass (w := 0) (lk := -9) (by omega) z01
    refine ⟨p1.cg mEq.refl uSP_em, fun t h1 h2 i hi => ?_⟩
    have b := p1.2.2.2.2.1 i hi
    show uSP (uPass (uRs u nb ns m) nb ns 0 (-9)) (12 * ((m + 1) % 7)) nb 18 _ = _ ∧ uSP (uPass (uRs u nb ns m) nb ns 0 (-9)) (12 * ((m + 1) % 7)) nb 18 _ = _
    have e18 : uPass (uRs u nb ns m) nb ns 0 (-9) 18 = uRs u nb ns m 18 := uPass_c (by decide)
    unfold uSP
    rw [va_up_self]
    by_cases q : t = m + 1
    · subst q
      refine ⟨?_, ?_⟩
      · rw [if_pos (by omega), if_pos (by omega), show 12 * ((m + 1) % 7) + i - 12 * ((m + 1) % 7) = i by omega]
        exact b.2.1
      · rw [if_pos (by omega), if_neg (by omega), show 12 * ((m + 1) % 7) + 6 + i - 12 * ((m + 1) % 7) - 6 = i by omega]
        exact b.2.2.1
    · have i3 := i2 t (by omega) (by omega) i hi
      refine ⟨?_, ?_⟩
      · rw [if_neg (by omega), e18]; exact i3.1
      · rw [if_neg (by omega), e18]; exact i3.2
theorem rs_fs {g u : cm_g2} {nb ns : Nat} (h : mR g (uPA u) nb ns 60) : ∀ q k, k + q ≤ 1000 → cRs g nb ns q k = uFs (uRb u nb ns) q k
  | 0, _, _ => rfl
  | q + 1, k, hk => by
    unfold cRs uFs
    rw [rs_fs h q (k + 1) (by omega)]
    have e : (7 ≤ k + 1 ∧ cPack (mIt g nb ns (k + 1 - 7)).1 nb = cPack (mIt g nb ns (k + 1)).1 nb) ↔ uRb u nb ns (k + 1) = true := by
      show _ ↔ (decide (7 ≤ k + 1) && uIsP (uPass (uRs u nb ns k) nb ns 0 (-9)) (12 * ((k + 1) % 7)) nb) = true
      rw [Bool.and_eq_true, decide_eq_true_eq]
      refine and_congr_right (fun h7 => ?_)
      obtain ⟨i1, i2⟩ := rs_past h k (by omega)
      have p1 := i1.pass (w := 0) (lk := -9) (by omega) z01
      have e18 : uPass (uRs u nb ns k) nb ns 0 (-9) 18 = uRs u nb ns k 18 := uPass_c (by decide)
      rw [pack_eq (h.1.it _) (h.1.it _), isP_iff nb]
      refine forall_congr' (fun i => forall_congr' (fun hi => ?_))
      have i3 := i2 (k + 1 - 7) (by omega) (by omega) i hi
      rw [show (k + 1 - 7) % 7 = (k + 1) % 7 by omega] at i3
      have b := p1.2.2.2.2.1 i hi
      rw [e18, i3.1, i3.2, b.2.1, b.2.2.1]
      rfl
    by_cases w : uRb u nb ns (k + 1) = true
    · rw [if_pos w, if_pos (e.mpr w)]
    · rw [if_neg w, if_neg (fun w2 => w (e.mp w2))]
section OP4
variable {hi u H v : cm_g2} {nb ns : Nat} {r9 r9' : Option Value}
theorem op_rest (R : RR hi u nb ns) (hc : if hi 5 3 = 0 then r9 = some (.int (-4)) ∧ H = hi else ∃ g, mEq g (cP hi) ∧ fr33 hi H ∧ (match cRs g nb ns 200 0 with | none => r9 = some (.int (-9)) ∧ H 2 = hi 2 | some m => r9 = some (.int (nI m)) ∧ H 2 = cUps hi (sumP (fun i => if (mIt g nb ns m).1 7 i = 4 then 0 else 1) nb))) (hu : uRest u nb ns r9' v) : opR r9 r9' H v := by
  obtain ⟨b1, b2, b3, -⟩ := R.ns0
  unfold uRest at hu
  rw [b1] at hc
  rw [b2] at hu
  by_cases h2 : nI nb = 0
  · rw [if_pos h2] at hc hu
    obtain ⟨rfl, rfl⟩ := hc
    obtain ⟨rfl, rfl⟩ := hu
    exact ⟨_, rfl, rfl, nb, ns, R⟩
  · rw [if_neg h2] at hc hu
    obtain ⟨g, eg, F, hm⟩ := hc
    have M := R.pa eg
    rw [rs_fs M 200 0 (by omega)] at hm
    cases hq : uFs (uRb u nb ns) 200 0 with
    | none =>
      rw [hq] at hm hu
      obtain ⟨rfl, e2⟩ := hm
      obtain ⟨rfl, ev⟩ := hu
      exact ⟨_, rfl, rfl, nb, ns, R.still (F.still e2) ev⟩
    | some m =>
      rw [hq] at hm hu
      obtain ⟨rfl, e2⟩ := hm
      obtain ⟨rfl, v', ev, rfl⟩ := hu
      have hm := uFs_hit hq
      have i1 := (rs_past M m (by omega)).1
      have ew : uWantN (uRs u nb ns m) nb = sumP (fun i => if (mIt g nb ns m).1 7 i = 4 then 0 else 1) nb := sumP_cg nb (fun i hi9 => by rw [(i1.2.2.2.2.1 i hi9).2.2.1])
      rw [← ew] at e2
      exact ⟨_, rfl, rfl, nb, ns, R.aside e2 F.c ev⟩
theorem RR.rowed {j : Nat} {x : Int32} {f : Nat → Int32} {v' : cm_g2} (R : RR hi u nb ns) (hj : j < 6) (e : ∀ c, c ≠ 2 → c ≠ 61 + 2 * j → c ≠ 61 + 2 * j + 1 → ((5 ≤ c ∧ c ≤ 15) ∨ c = 17 ∨ c = 18 ∨ (60 ≤ c ∧ c ≤ 113)) → H c = hi c) (z : H (61 + 2 * j) 1 = nI nb) (p : ∀ i, i < nb → H (61 + 2 * j + 1) i = f i) (ev : uEq (uPR u j nb f) v') (f0 : ∀ k, k = 8 ∨ k = 9 ∨ k = 10 ∨ k = 19 ∨ k = 20 → v 0 k = v' 0 k) (fc : ∀ c, c ≠ 0 → c ≠ 1 → v c = v' c) (r3 : R3 H v) : RR H v nb ns := by
  have hnb := R.mo.1.2.1
  refine R.row (j := j) hj (fun c h1 h2 hc => e c (by omega) h1 h2 (by omega)) r3 (fun r hr => ?_) (fun y hy => ?_) (Or.inr ⟨nb, by omega, z, ?_, fun i hi9 => ?_⟩) (fun k hk => ?_) (fun c hc => ?_) (fun c h1 h2 i hi9 => ?_)
  · rw [fc 2 (by decide) (by decide), ev.2.1 2 (by decide), uPR_2, pk_un hr]
  · rw [fc 3 (by decide) (by decide), ev.2.1 3 (by decide), uPR_3]
    exact if_neg hy
  · rw [fc 2 (by decide) (by decide), ev.2.1 2 (by decide), uPR_2, pk_us]
  · rw [p i hi9, fc 3 (by decide) (by decide), ev.2.1 3 (by decide), uPR_3]
    unfold rowF
    dsimp only
    rw [if_pos (by omega), if_pos (by omega), show 40 * j + i - 40 * j = i by omega]
  · rw [f0 k hk, ev.1 k (by omega), uPR_c (by decide)]
  · rw [fc c (by omega) (by omega), ev.2.1 c (by omega), uPR_c (by omega)]
  · rw [fc c (by omega) (by omega), ev.2.2 c h1 h2 i hi9, uPR_c (by omega)]
theorem op_track {n r : Int32} (R : RR hi u nb ns) (hc : if isU n 60 = false ∨ isW r 6 = false then r9 = some (.int (-1)) ∧ H = hi else ∃ g, mEq g (cP hi) ∧ (∀ c, c ≠ 2 → c < 33 ∨ 44 < c → c ≠ sR r → c ≠ sR r + 1 → H c = hi c) ∧ H (sR r) 1 = nI nb ∧ (∀ x, x < nb → H (sR r + 1) x = (mIt g nb ns n.toNatClampNeg).1 6 x) ∧ r9 = some (.int 1) ∧ H 2 = cUps hi (mSun (mIt g nb ns n.toNatClampNeg).1)) (hu : uTrack u nb ns n r r9' v) : opR r9 r9' H v := by
  unfold uTrack at hu
  rw [show isU n 60 = uIn n 0 60 from rfl, wU5] at hc
  by_cases h1 : uIn n 0 60 = false ∨ uIn r 0 5 = false
  · rw [if_pos h1] at hc hu
    obtain ⟨rfl, rfl⟩ := hc
    obtain ⟨rfl, rfl⟩ := hu
    exact ⟨_, rfl, rfl, nb, ns, R⟩
  · rw [if_neg h1] at hc hu
    obtain ⟨k, hk, rfl, hkc⟩ := n_ex (m := 60) (by omega) (tru (fun w => h1 (Or.inl w)))
    obtain ⟨j, hj, rfl⟩ := uIn_ex 5 (tru (fun w => h1 (Or.inr w)))
    have hjc : (nI j).toNatClampNeg = j := nI_clamp (by omega)
    simp only [sR, hjc, hkc] at hc hu
    obtain ⟨g, eg, F, z, p, rfl, e2⟩ := hc
    obtain ⟨rfl, v', ev, rfl⟩ := hu
    have M := (R.pa eg).itw (w := fun _ => 0) (lk := -9) (fun _ => z01) k (by omega)
    rw [← uSun_eq M] at e2
    refine ⟨_, rfl, rfl, nb, ns, R.rowed (j := j) (x := uSun (uItW (uPA u) nb ns (fun _ => 0) (-9) k)) (f := uItW (uPA u) nb ns (fun _ => 0) (-9) k 8) (by omega) (fun c h1 h2 h3 hc => F c h1 (by omega) h2 h3) z (fun i hi9 => by rw [p i hi9]; exact (M.2.2.2.2.1 i hi9).2.1.symm) ev (fun k hk => by unfold uAsk; rw [va_up_self, pk_un (by omega)]) (fun c h0 h1 => va_up_ne _ _ h0) (R.2.1.tell e2 (F 60 (by decide) (by decide) (by omega) (by omega)) ?_ ?_)⟩
    · rw [ev.1 0 (by decide), uPR_c (by decide)]
    · rw [ev.2.1 1 (by decide), uPR_c (by decide)]
theorem way_tab : ∀ y, y < 20 → ∀ s, s < 20 → (if nI y = nI s then (0 : Int32) else if nI s ≤ nI y then 1 else -1) = uSgn (nI y - nI s) := by decide +kernel
/-- the class's table of ways is the table that mR asks for -/
theorem tab_m {g : cm_g2} (h : tabOk g ns (g 10) 5 0) (h2 : ∀ k, k < ns → 0 ≤ (g 2 k).toInt ∧ (g 2 k).toInt < 4) (h1 : ∀ k, k < ns → 0 ≤ (g 1 k).toInt ∧ (g 1 k).toInt < 20) : mTab g ns := by
  intro w s hw hs
  have hx : ∀ k, k < ns → ∃ x, x < 4 ∧ g 2 k = nI x := fun k hk => ⟨(g 2 k).toInt.toNat, by have := h2 k hk; omega, z_of (h2 k hk).1⟩
  have key : ∀ (goods gd ot : Int32), (∀ k, k < ns → (isI goods (g 2 k) = true ↔ (g 2 k = gd ∨ g 2 k = ot))) → cWay g ns (nI s) goods = tWay g ns (nI s) gd ot := by
    intro goods gd ot hq
    unfold cWay tWay
    rw [near_same ns hq]
    cases hb : tNear g (nI s) gd ot ns with
    | none => rfl
    | some k =>
      have hk := tNear_lt hb
      have a := h1 k hk
      dsimp only
      have ez := z_of a.1
      have hy : (g 1 k).toInt.toNat < 20 := by omega
      generalize (g 1 k).toInt.toNat = y at ez hy
      rw [ez]
      exact way_tab y hy s hs
  obtain ⟨t1, t2⟩ := h w s hw hs (Or.inl hw)
  refine ⟨?_, ?_⟩
  · rw [t1]
    refine key _ _ _ (fun k hk => ?_)
    obtain ⟨x, hx4, hxe⟩ := hx k hk
    rw [hxe, isI_w w hw x hx4]
    exact ⟨Or.inl, fun q => q.elim id id⟩
  · rw [t2]
    refine key _ _ _ (fun k hk => ?_)
    obtain ⟨x, hx4, hxe⟩ := hx k hk
    rw [hxe, isI_w8 w hw x hx4]
theorem spot_mR {g V : cm_g2} {k s : Nat} (R : RR hi u nb ns) (hk : k < ns) (hs : s < 20) (b : bpOk g (cP hi) ns k s) (ev : uEq u V) : mR g (va_up V 11 (upd (V 11) k (nI s))) nb ns 60 := by
  have h := R.m.cg mEq.refl ev
  have hnb := h.1.1.2.1
  have hns := h.1.1.2.2.2
  obtain ⟨h1, h2, h3, h4, h5, h6, h7, h8, -⟩ := h
  have g2 : ∀ k, k < ns → 0 ≤ (g 2 k).toInt ∧ (g 2 k).toInt < 4 := fun k hk => by rw [b.2.1 2 (by decide) (by decide) k (by omega)]; exact h7 k hk
  have g1 : ∀ k, k < ns → 0 ≤ (g 1 k).toInt ∧ (g 1 k).toInt < 20 := fun x hx => by
    rw [b.2.2.1 x (by omega)]
    split
    · rw [nI_toInt (by omega)]; omega
    · rw [← (h6 x hx).1]; exact h2.2.2 x hx
  refine ⟨h1.bp b, h2.w11 hs, ?_, ?_, fun i hi9 => ?_, fun x hx => ?_, g2, fun i h0 hi9 => ?_, tab_m b.2.2.2 g2 g1⟩
  · rw [va_up_ne _ _ (by decide), b.1 0 (by decide)]; exact h3
  · rw [va_up_ne _ _ (by decide), b.1 1 (by decide)]; exact h4
  · rw [va_up_ne _ _ (by decide), va_up_ne _ _ (by decide), va_up_ne _ _ (by decide), va_up_ne _ _ (by decide), b.2.1 5 (by decide) (by decide) i (by omega), b.2.1 6 (by decide) (by decide) i (by omega), b.2.1 7 (by decide) (by decide) i (by omega), b.2.1 8 (by decide) (by decide) i (by omega)]
    exact h5 i hi9
  · rw [va_up_self, va_up_ne _ _ (by decide), va_up_ne _ _ (by decide), va_up_ne _ _ (by decide), b.2.1 2 (by decide) (by decide) x (by omega), b.2.1 3 (by decide) (by decide) x (by omega), b.2.1 4 (by decide) (by decide) x (by omega), b.2.2.1 x (by omega)]
    refine ⟨?_, (h6 x hx).2⟩
    unfold upd
    by_cases q : x = k
    · rw [if_pos q, if_pos q]
    · rw [if_neg q, if_neg q]; exact (h6 x hx).1
  · rw [b.2.1 9 (by decide) (by decide) i (by omega), b.2.1 5 (by decide) (by decide) i (by omega), b.2.1 5 (by decide) (by decide) (i - 1) (by omega), b.1 0 (by decide)]; exact h8 i h0 hi9
theorem upd_own {f : Nat → Int32} {k : Nat} : upd f k (f k) = f := by
  funext j
  unfold upd
  split
  · next q => rw [q]
  · rfl
theorem sq_own {n k s : Nat} : uEq u (va_up (uSq u nb ns n k s) 11 (upd (uSq u nb ns n k s 11) k (u 11 k))) := by
  have := uSq_eq (u := u) (nb := nb) (ns := ns) (n := n) (k := k) s
  rw [upd_own, va_up_own] at this
  exact this
theorem op_spot {k n : Int32} (R : RR hi u nb ns) (hc : if isW k (hi 5 2) = false ∨ isU n 20 = false then r9 = some (.int (-1)) ∧ H = hi else if hi 5 3 = 0 then r9 = some (.int (-4)) ∧ H = hi else ∃ F, fr33 hi H ∧ (∀ i, i < 20 → bpVal (cP hi) nb ns n.toNatClampNeg k.toNatClampNeg i (F i)) ∧ r9 = some (.int (nI (cMax F 20).2)) ∧ H 2 = cUps hi (cMax F 20).1) : opR r9 (some (.int (uSpot u nb ns k n).1)) H (uSpot u nb ns k n).2 := by
  obtain ⟨b1, b2, b3, b4, b5, b6⟩ := R.ns0
  unfold uSpot
  rw [b4, wUm (by omega), b1, show isU n 20 = uIn n 0 20 from rfl] at hc
  rw [b5, b2]
  by_cases h1 : uIn k 0 (nI ns - 1) = false ∨ uIn n 0 20 = false
  · rw [if_pos h1] at hc ⊢
    obtain ⟨rfl, rfl⟩ := hc
    exact ⟨_, rfl, rfl, nb, ns, R⟩
  · rw [if_neg h1] at hc ⊢
    by_cases h2 : nI nb = 0
    · rw [if_pos h2] at hc ⊢
      obtain ⟨rfl, rfl⟩ := hc
      exact ⟨_, rfl, rfl, nb, ns, R⟩
    · rw [if_neg h2] at hc ⊢
      obtain ⟨m, hm, rfl, hmc⟩ := n_ex (m := 20) (by omega) (tru (fun w => h1 (Or.inr w)))
      obtain ⟨j, hj, rfl⟩ := uIn_ix (tru (fun w => h1 (Or.inl w))) (by omega)
      have hjc : (nI j).toNatClampNeg = j := nI_clamp (by omega)
      rw [hmc, hjc] at hc ⊢
      obtain ⟨F, Fr, hF, rfl, e2⟩ := hc
      have eF : cMax F 20 = cMax (uSF u nb ns m j) 20 := by
        refine cMax_congr 20 (fun s hs => ?_)
        obtain ⟨g, bg, hv⟩ := hF s hs
        have ov := sq_own (u := u) (nb := nb) (ns := ns) (n := m) (k := j) (s := s)
        have M := spot_mR R hj hs bg ov
        rw [va_up_self, bx_uu, upd2] at M
        have M2 := (M.cg mEq.refl uPA_uEq).itw (w := fun _ => 0) (lk := -9) (fun _ => z01) m (by omega)
        have e14 := (M2.2.2.2.2.2.1 j hj).2.2.2
        rw [hv]
        show _ = uSqI u nb ns m j s 14 j - uSq u nb ns m j (s + 1) 14 j
        rw [show uSqI u nb ns m j s 14 j = (mIt g nb ns m).1 4 j from e14]
        have o2 := sq_own (u := u) (nb := nb) (ns := ns) (n := m) (k := j) (s := s + 1)
        have o3 := o2.2.2 14 (by decide) (by decide) j (by omega)
        rw [va_up_ne _ _ (by decide)] at o3
        rw [o3, (R.s hj).2.2.2]
        rfl
      rw [eF] at e2 ⊢
      exact ⟨_, rfl, rfl, nb, ns, R.aside e2 Fr.c (sq_own (s := 20))⟩
theorem who_bits {P T : cm_g2} : ∀ k, k ≤ 6 → ∃ n, n < 2 ^ k ∧ cWho P T k = nI n ∧ ∀ j, j < 6 → (n.testBit j = true ↔ j < k ∧ ¬ P 7 j = T 7 j)
  | 0, _ => ⟨0, by decide, rfl, fun j _ => by simp⟩
  | k + 1, hk => by
    obtain ⟨n, hn, e, hb⟩ := who_bits (P := P) (T := T) k (by omega)
    unfold cWho
    by_cases q : P 7 k = T 7 k
    · rw [if_pos q]
      refine ⟨n, by rw [Nat.pow_succ]; omega, e, fun j hj => ?_⟩
      rw [hb j hj]
      constructor
      · rintro ⟨a, b⟩; exact ⟨by omega, b⟩
      · rintro ⟨a, b⟩
        refine ⟨?_, b⟩
        rcases Nat.lt_or_ge j k with w | w
        · exact w
        · exact absurd (by rw [show j = k by omega]; exact q) b
    · rw [if_neg q, e]
      obtain ⟨p1, p2, p3, p4⟩ := pc6_or k (by omega) n hn
      refine ⟨n ||| 2 ^ k, p2, p3, fun j hj => ?_⟩
      rw [p4 j hj, Bool.or_eq_true, hb j hj, decide_eq_true_eq]
      constructor
      · rintro (⟨a, b⟩ | a)
        · exact ⟨by omega, b⟩
        · exact ⟨by omega, by rw [a]; exact q⟩
      · rintro ⟨a, b⟩
        by_cases w : j = k
        · exact Or.inr w
        · exact Or.inl ⟨by omega, b⟩
theorem bits_eq : ∀ a, a < 64 → ∀ b, b < 64 → (∀ j, j < 6 → a.testBit j = b.testBit j) → a = b := by decide +kernel
theorem isI_bit : ∀ n, n < 64 → ∀ j, j < 6 → isI (nI n) (nI j) = n.testBit j := by decide +kernel
theorem sz_less : ∀ n, n < 64 → ∀ i, i < 6 → uSz (nI n &&& ((1 <<< (nI i &&& 31)) ^^^ -1)) 10 = nI (pc6 n) - cm_bi (n.testBit i) := by decide +kernel
theorem op_missed {n : Int32} (R : RR hi u nb ns) (hc : if isU n 20 = false then r9 = some (.int (-1)) ∧ H = hi else if hi 5 3 = 0 then r9 = some (.int (-4)) ∧ H = hi else ∃ F g0, fr33 hi H ∧ mEq g0 (cP hi) ∧ (∀ i, i < nb → lmVal (cP hi) nb ns n.toNatClampNeg (mIt g0 nb ns n.toNatClampNeg).2 (cWho (cP hi) (mIt g0 nb ns n.toNatClampNeg).1 nb) i (F i)) ∧ r9 = some (.int (nI (cMin F nb).2)) ∧ H 2 = cUps hi (cMin F nb).1) : opR r9 (some (.int (uMissed u nb ns n).1)) H (uMissed u nb ns n).2 := by
  obtain ⟨b1, b2, b3, b4, b5, b6⟩ := R.ns0
  unfold uMissed
  rw [b1, show isU n 20 = uIn n 0 20 from rfl] at hc
  rw [b2]
  by_cases h1 : uIn n 0 20 = false
  · rw [if_pos h1] at hc ⊢
    obtain ⟨rfl, rfl⟩ := hc
    exact ⟨_, rfl, rfl, nb, ns, R⟩
  · rw [if_neg h1] at hc ⊢
    by_cases h2 : nI nb = 0
    · rw [if_pos h2] at hc ⊢
      obtain ⟨rfl, rfl⟩ := hc
      exact ⟨_, rfl, rfl, nb, ns, R⟩
    · rw [if_neg h2] at hc ⊢
      have h0 : 0 < nb := Nat.pos_of_ne_zero (fun w => h2 (by rw [w]; rfl))
      obtain ⟨m, hm, rfl, hmc⟩ := n_ex (m := 20) (by omega) (tru h1)
      rw [hmc] at hc ⊢
      obtain ⟨F, g0, Fr, eg, hF, rfl, e2⟩ := hc
      have h64 := p2_64 b3
      obtain ⟨-, ⟨s, hs, s32, spc, sb⟩, -⟩ := la_same (R.pa eg) m (by omega)
      obtain ⟨w, hw, we, wb⟩ := who_bits (P := cP hi) (T := (mIt g0 nb ns m).1) nb b3
      have hws : w = s := bits_eq w (by omega) s (by omega) (fun j hj => by
        rw [Bool.eq_iff_iff, wb j hj, sb j hj]
        refine and_congr_right (fun hj2 => ?_)
        rw [← eg.2.1 7 (by decide) (by decide) j (by omega)]
        exact ⟨fun a b => a b.symm, fun a b => a b.symm⟩)
      have eF : cMin F nb = cMin (uMF u nb ns m) nb := by
        refine cMin_congr nb (fun i hi9 => ?_)
        obtain ⟨g, e9, hv⟩ := hF i hi9
        have M := (R.m.cg e9 (uMq_eq (nb := nb) (ns := ns) (n := m) i)).want (j := i) (gd := 4) (by decide)
        obtain ⟨-, ⟨p, hp, p32, ppc, -⟩, -⟩ := la_same (M.cg mEq.refl uPA_uEq) m (by omega)
        rw [hv]
        show _ = uSz (uCB (uLA u nb ns m) 0 32 &&& ((1 <<< (nI i &&& 31)) ^^^ -1)) 10 - uSz (uCB (uLA (va_up (uMq u nb ns m i) 9 (upd (uMq u nb ns m i 9) i 4)) nb ns m) 0 32) 10
        rw [uCB_0 (by decide), uCB_0 (by decide), s32, p32, sz_less s (by omega) i (by omega), (uSz_pc p (by omega)).1, ppc, spc, we, hws, isI_bit s (by omega) i (by omega)]
      rw [eF] at e2 ⊢
      refine ⟨_, rfl, ?_, nb, ns, R.aside e2 Fr.c (uMq_eq nb)⟩
      dsimp only
      unfold uMb
      rw [if_neg (by omega)]
end OP4
