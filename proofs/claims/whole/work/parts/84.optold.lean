/-! PART optold: fewest, turns, upper, lower, count, digest: both sides -/
theorem pc_all : ∀ nb, nb ≤ 6 → ∀ s, s < 2 ^ nb - 1 → pc6 s < pc6 (2 ^ nb - 1) := by decide +kernel
theorem ends_same : ∀ s, s < 64 → ∀ m, m < 6 → (isI (nI s) 0 && isI (nI s) (nI m)) = decide (nI s &&& ((1 : Int32) ||| ((1 : Int32) <<< (nI m &&& 31))) = (1 : Int32) ||| ((1 : Int32) <<< (nI m &&& 31))) := by decide +kernel
theorem bitC_nI {s : Nat} (h : s < 64) : bitC (nI s) = nI (pc6 s) ∧ pc6 s ≤ 6 := by
  rw [bitC_sz s h]
  exact uSz_pc s h
theorem cGcd_ok : ∀ f q a b : Nat, 2 * f + 1 ≤ q → b < 2 ^ f → a < 2 ^ 62 → b < 2 ^ 62 → cGcd q (lN a) (lN b) = lN (Nat.gcd a b)
  | 0, q, a, b, hq, hb, _, _ => by
    have : b = 0 := by rw [Nat.pow_zero] at hb; omega
    subst this
    obtain ⟨k, rfl⟩ : ∃ k, q = k + 1 := ⟨q - 1, by omega⟩
    unfold cGcd
    rw [if_pos (show lN 0 = 0 from rfl), Nat.gcd_zero_right]
  | f + 1, q, a, b, hq, hb, ha2, hb2 => by
    obtain ⟨k, rfl⟩ : ∃ k, q = k + 2 := ⟨q - 2, by omega⟩
    have l0 : ∀ x, x < 2 ^ 62 → (lN x = 0 ↔ x = 0) := fun x hx => by
      rw [show (0 : Int64) = lN 0 from rfl, pk_lEQ (by omega) (by omega)]
    show (if lN b = 0 then lN a else cGcd (k + 1) (lN b) (lN a - lN a / lN b * lN b)) = _
    by_cases q0 : b = 0
    · rw [if_pos ((l0 b hb2).mpr q0), q0, Nat.gcd_zero_right]
    · rw [if_neg (fun w => q0 ((l0 b hb2).mp w)), pk_lRem (by omega) (by omega) (by omega)]
      have hr : a % b < b := Nat.mod_lt _ (by omega)
      show (if lN (a % b) = 0 then lN b else cGcd k (lN (a % b)) (lN b - lN b / lN (a % b) * lN (a % b))) = _
      rw [gcd_step]
      by_cases q1 : a % b = 0
      · rw [if_pos ((l0 _ (by omega)).mpr q1), q1, Nat.gcd_zero_right]
      · rw [if_neg (fun w => q1 ((l0 _ (by omega)).mp w)), pk_lRem (by omega) (by omega) (by omega), gcd_step]
        have h1 : b % (a % b) < a % b := Nat.mod_lt _ (by omega)
        have h2 := Nat.mod_add_div b (a % b)
        have h3 : 1 ≤ b / (a % b) := (Nat.one_le_div_iff (by omega)).mpr (by omega)
        have h4 : (a % b) * 1 ≤ (a % b) * (b / (a % b)) := Nat.mul_le_mul_left _ h3
        rw [Nat.pow_succ] at hb
        exact cGcd_ok f k (a % b) (b % (a % b)) (by omega) (by omega) (by omega) (by omega)
theorem cCd_ok {a b : Nat} (ha : a < 2 ^ 31) (hb : b < 2 ^ 31) (h0 : 0 < a) : cCd (lN a) (lN b) = lN (Nat.gcd a b) := by
  unfold cCd
  rw [cGcd_ok 40 100 a b (by decide) (by omega) (by omega) (by omega)]
  have hg : 0 < Nat.gcd a b := Nat.gcd_pos_of_pos_left b h0
  have hl : Nat.gcd a b ≤ a := Nat.gcd_le_left b h0
  by_cases q : 1 < Nat.gcd a b
  · rw [if_pos]
    rw [show (1 : Int64) = lN 1 from rfl, pk_lLT (by omega) (by omega)]
    exact q
  · rw [if_neg]
    · rw [show Nat.gcd a b = 1 by omega]; rfl
    · rw [show (1 : Int64) = lN 1 from rfl, pk_lLT (by omega) (by omega)]
      exact q
theorem sumP_nn {f : Nat → Int32} {M : Nat} (hM : M ≤ 100000) : ∀ n, n ≤ 6 → (∀ i, i < n → 0 ≤ (f i).toInt ∧ (f i).toInt ≤ M) → ∃ S, S ≤ n * M ∧ sumP f n = nI S
  | 0, _, _ => ⟨0, by omega, rfl⟩
  | n + 1, hn, h => by
    obtain ⟨S, hS, e⟩ := sumP_nn hM n (by omega) (fun i hi => h i (by omega))
    have a := h n (by omega)
    refine ⟨S + (f n).toInt.toNat, ?_, ?_⟩
    · rw [Nat.add_mul, Nat.one_mul]
      omega
    · show sumP f n + f n = _
      rw [e]
      conv => lhs; rw [show f n = nI (f n).toInt.toNat from z_of a.1]
      rw [nI_add]
theorem sumP_ext {f g : Nat → Int32} {n : Nat} (h : ∀ i, i < n → f i = g i) : ∀ m, (∀ i, n ≤ i → i < n + m → g i = 0) → sumP f n = sumP g (n + m)
  | 0, _ => sumP_cg n h
  | m + 1, h0 => by
    rw [sumP_ext h m (fun i a b => h0 i a (by omega))]
    show _ = sumP g (n + m) + g (n + m)
    rw [h0 (n + m) (by omega) (by omega), Int32.add_zero]
theorem digF_cg {f g : Int32 → Int32} {h : Int64} : ∀ n, (∀ w, w < n → f (nI w) = g (nI w)) → cDigF f h n = cDigF g h n
  | 0, _ => rfl
  | n + 1, e => by
    unfold cDigF
    rw [digF_cg n (fun w hw => e w (by omega)), e n (by omega)]
theorem stDig_cg {f g : Nat → Int32} {h : Int64} : ∀ n, (∀ i, i < n → f i = g i) → stDig f h n = stDig g h n
  | 0, _ => rfl
  | n + 1, e => by
    unfold stDig
    rw [stDig_cg n (fun w hw => e w (by omega)), e n (by omega)]
section OP7
variable {hi u H v : cm_g2} {nb ns : Nat} {r9 r9' : Option Value}
theorem hd_same {set : Int32} (R : RR hi u nb ns) : ∀ n i b, i + n = nb → b < i → cHd (cP hi) set n i b = uHd u set n i b
  | 0, _, _, _, _ => rfl
  | n + 1, i, b, hn, hb => by
    unfold cHd uHd
    have e1 : isI set (nI i) = uHas set (nI i) := congrFun (sb_same set) i
    rw [e1, hd_same R n (i + 1) i (by omega) (by omega), hd_same R n (i + 1) b (by omega) (by omega)]
    have xi := R.b (i := i) (by omega)
    have xb := R.b (i := b) (by omega)
    have si : 0 ≤ (hi 11 i).toInt ∧ (hi 11 i).toInt < 20 := R.mo.2.1 i (by omega)
    have sb : 0 ≤ (hi 11 b).toInt ∧ (hi 11 b).toInt < 20 := R.mo.2.1 b (by omega)
    have er : u 0 8 = hi 5 0 := R.m.2.2.1.1
    have ec : mSlack (cP hi) b (cP hi 5 i) < cP hi 6 i - cP hi 6 b ↔ (¬ u 8 i - u 8 b ≤ u 0 8 ∧ ¬ u 7 i = 4 ∧ ¬ u 7 b = 4) := by
      rw [xi.1, xi.2.1, xb.1, xb.2.1, er]
      unfold mSlack
      show (if hi 10 b = 4 ∨ hi 10 i = 4 then (20 : Int32) else hi 5 0) < hi 11 i - hi 11 b ↔ _
      by_cases q : hi 10 b = 4 ∨ hi 10 i = 4
      · rw [if_pos q, Int32.lt_iff_toInt_lt, zsub (by omega), show (20 : Int32).toInt = 20 by decide]
        constructor
        · intro w; omega
        · intro w; exact absurd q (fun q => q.elim w.2.2 w.2.1)
      · rw [if_neg q, Int32.not_le]
        exact ⟨fun w => ⟨w, fun w2 => q (Or.inr w2), fun w2 => q (Or.inl w2)⟩, fun w => w.1⟩
    by_cases q1 : uHas set (nI i) = true
    · rw [if_pos q1, if_pos q1]
      by_cases q2 : mSlack (cP hi) b (cP hi 5 i) < cP hi 6 i - cP hi 6 b
      · rw [if_pos q2, if_pos (ec.mp q2)]
      · rw [if_neg q2, if_neg (fun w => q2 (ec.mpr w))]
    · rw [if_neg q1, if_neg q1]
theorem fc_iff {b s : Nat} (R : RR hi u nb ns) (h0 : 0 < nb) (hs : s < 64) (hb : b < 64) : uFc u nb (nI b) (nI s) = true ↔ (pc6 s ≤ pc6 b ∧ cDoHold (cP hi) nb (nI s) = true) := by
  have hnb := R.mo.1.2.1
  unfold uFc cDoHold
  have e1 := ends_same s hs (nb - 1) (by omega)
  have e2 := hd_same (set := nI s) R (nb - 1) 1 0 (by omega) (by omega)
  have p1 := uSz_pc s hs
  have p2 := uSz_pc b hb
  rw [← e1, ← e2, p1.1, p2.1]
  simp only [Bool.and_eq_true, decide_eq_true_eq]
  rw [nI_leI (by omega) (by omega)]
  constructor
  · rintro ⟨⟨a, b⟩, c, e⟩; exact ⟨c, a, b, e⟩
  · rintro ⟨c, a, b, e⟩; exact ⟨⟨a, b⟩, c, e⟩
def fwBest (P : Nat → Prop) (N lo hi_ b : Nat) : Prop := (b = N ∨ (lo < b ∧ b ≤ hi_ ∧ P b)) ∧ ∀ s, lo < s → s ≤ hi_ → P s → (pc6 b < pc6 s ∨ (pc6 b = pc6 s ∧ b ≤ s))
theorem few_c (R : RR hi u nb ns) (h0 : 0 < nb) : ∀ k, k < 2 ^ nb - 1 → ∃ b, b < 64 ∧ cFew (cP hi) nb k = nI b ∧ fwBest (fun s => cDoHold (cP hi) nb (nI s) = true) (2 ^ nb - 1) 0 k b
  | 0, _ => by
    have h64 := p2_64 R.mo.1.2.1
    exact ⟨2 ^ nb - 1, by omega, rfl, Or.inl rfl, fun s a b => absurd a (by omega)⟩
  | k + 1, hk => by
    obtain ⟨b, hb, e, b1, b2⟩ := few_c R h0 k (by omega)
    have h64 := p2_64 R.mo.1.2.1
    have q1 := bitC_nI (s := k + 1) (by omega)
    have q2 := bitC_nI hb
    have qa := pc_all nb R.mo.1.2.1
    unfold cFew
    rw [e, q1.1, q2.1]
    by_cases c : nI (pc6 (k + 1)) < nI (pc6 b) ∧ cDoHold (cP hi) nb (nI (k + 1)) = true
    · rw [if_pos c]
      have c1 := (nI_ltI (by omega) (by omega)).mp c.1
      refine ⟨k + 1, by omega, rfl, Or.inr ⟨by omega, Nat.le_refl _, c.2⟩, fun s a1 a2 a3 => ?_⟩
      by_cases w : s = k + 1
      · exact Or.inr ⟨by rw [w], by omega⟩
      · have := b2 s a1 (by omega) a3
        exact Or.inl (by omega)
    · rw [if_neg c]
      refine ⟨b, hb, rfl, b1.imp id (fun w => ⟨w.1, by omega, w.2.2⟩), fun s a1 a2 a3 => ?_⟩
      by_cases w : s = k + 1
      · subst w
        have c1 : ¬ pc6 (k + 1) < pc6 b := fun w => c ⟨(nI_ltI (by omega) (by omega)).mpr w, a3⟩
        rcases b1 with w | w
        · have := qa (k + 1) (by omega)
          rw [w] at c1 ⊢
          omega
        · by_cases w2 : pc6 b < pc6 (k + 1)
          · exact Or.inl w2
          · exact Or.inr ⟨by omega, by omega⟩
      · exact b2 s a1 (by omega) a3
theorem few_u (R : RR hi u nb ns) (h0 : 0 < nb) : ∀ j, j ≤ 2 ^ nb - 1 → ∃ b, b < 64 ∧ uFw u nb j = nI b ∧ fwBest (fun s => cDoHold (cP hi) nb (nI s) = true) (2 ^ nb - 1) (2 ^ nb - 1 - j) (2 ^ nb - 2) b
  | 0, _ => by
    have h64 := p2_64 R.mo.1.2.1
    exact ⟨2 ^ nb - 1, by omega, rfl, Or.inl rfl, fun s a b => absurd a (by omega)⟩
  | j + 1, hj => by
    obtain ⟨b, hb, e, b1, b2⟩ := few_u R h0 j (by omega)
    have h64 := p2_64 R.mo.1.2.1
    rw [uFw_s (u := u) (nb := nb) (k := j) rfl, e]
    have fi := fc_iff (b := b) (s := 2 ^ nb - 1 - j) R h0 (by omega) hb
    by_cases c : uFc u nb (nI b) (nI (2 ^ nb - 1 - j)) = true
    · rw [if_pos c]
      obtain ⟨c1, c2⟩ := fi.mp c
      refine ⟨2 ^ nb - 1 - j, by omega, rfl, ?_, fun s a1 a2 a3 => ?_⟩
      · by_cases w : j = 0
        · exact Or.inl (by omega)
        · exact Or.inr ⟨by omega, by omega, c2⟩
      · by_cases w : s = 2 ^ nb - 1 - j
        · exact Or.inr ⟨by rw [w], by omega⟩
        · have := b2 s (by omega) a2 a3
          omega
    · rw [if_neg c]
      refine ⟨b, hb, rfl, b1.imp id (fun w => ⟨by omega, w.2⟩), fun s a1 a2 a3 => ?_⟩
      by_cases w : s = 2 ^ nb - 1 - j
      · subst w
        have : ¬ pc6 (2 ^ nb - 1 - j) ≤ pc6 b := fun w => c (fi.mpr ⟨w, a3⟩)
        exact Or.inl (by omega)
      · exact b2 s (by omega) a2 a3
theorem few_same (R : RR hi u nb ns) (h0 : 0 < nb) : ∃ b, b < 64 ∧ cFew (cP hi) nb (2 ^ nb - 2) = nI b ∧ uFw u nb (2 ^ nb - 1) = nI b := by
  have hnb := R.mo.1.2.1
  have h64 := p2_64 hnb
  have h2 : 2 ≤ 2 ^ nb := by
    have := Nat.pow_le_pow_right (n := 2) (by decide) h0
    rw [Nat.pow_one] at this
    exact this
  obtain ⟨b, hb, e1, b1, b2⟩ := few_c R h0 (2 ^ nb - 2) (by omega)
  obtain ⟨c, hc, e2, c1, c2⟩ := few_u R h0 (2 ^ nb - 1) (Nat.le_refl _)
  have qa := pc_all nb hnb
  refine ⟨b, hb, e1, ?_⟩
  rw [e2]
  have : c = b := by
    rw [show 2 ^ nb - 1 - (2 ^ nb - 1) = 0 by omega] at c1 c2
    rcases b1 with w | w
    · rcases c1 with w2 | w2
      · omega
      · have x := b2 c w2.1 w2.2.1 w2.2.2
        have y := qa c (by omega)
        rw [w] at x
        omega
    · rcases c1 with w2 | w2
      · have x := c2 b w.1 w.2.1 w.2.2
        have y := qa b (by omega)
        rw [w2] at x
        omega
      · have x := c2 b w.1 w.2.1 w.2.2
        have y := b2 c w2.1 w2.2.1 w2.2.2
        omega
  rw [this]
theorem op_fewest (R : RR hi u nb ns) : opOk hi nb ns (cFewest hi nb).1 (uFewest u nb).1 (cFewest hi nb).2 (uFewest u nb).2 := by
  obtain ⟨b1, b2, b3, -⟩ := R.ns0
  unfold cFewest uFewest
  rw [b1, b2]
  by_cases h1 : nI nb = 0
  · rw [if_pos h1, if_pos h1]; exact ⟨rfl, R, fun _ _ => rfl⟩
  · have h0 : 0 < nb := Nat.pos_of_ne_zero (fun w => h1 (by rw [w]; rfl))
    rw [if_neg h1, if_neg h1]
    obtain ⟨b, hb, e1, e2⟩ := few_same R h0
    rw [e1, e2]
    exact ⟨bitC_sz b hb, R.tell, fun c hc => kTell_c (by omega)⟩
/-- how many STALLS are shaded, all moved by x -/
theorem shs_set {g : cm_g2} {mv : Int32} : ∀ k, k ≤ 6 → ∃ s, s < 2 ^ k ∧ mShs g nb mv k = nI s
  | 0, _ => ⟨0, by decide, rfl⟩
  | k + 1, hk => by
    obtain ⟨s, hs, e⟩ := shs_set (g := g) (mv := mv) k (by omega)
    unfold mShs
    rw [e]
    split
    · obtain ⟨p1, p2, p3, -⟩ := pc6_or k (by omega) s hs
      exact ⟨s ||| 2 ^ k, p2, p3⟩
    · exact ⟨s, by rw [Nat.pow_succ]; omega, rfl⟩
def cN (hi : cm_g2) (nb ns : Nat) (x : Int32) : Nat := (bitC (mShs (cP hi) nb (mSun (cP hi) + x) ns)).toInt.toNat
theorem cN_ok (R : RR hi u nb ns) (x : Int32) : bitC (mShs (cP hi) nb (mSun (cP hi) + x) ns) = nI (cN hi nb ns x) ∧ cN hi nb ns x ≤ 6 := by
  have hns := R.mo.1.2.2.2
  have h64 := p2_64 hns
  obtain ⟨s, hs, e⟩ := shs_set (nb := nb) (g := cP hi) (mv := mSun (cP hi) + x) ns hns
  have b := bitC_nI (s := s) (by omega)
  unfold cN
  rw [e, b.1, nI_toInt (by omega)]
  exact ⟨rfl, b.2⟩
theorem cN_u (R : RR hi u nb ns) {x : Int32} (hx : -40 ≤ x.toInt ∧ x.toInt ≤ 40) : uSz (uShs u nb (uSun u + x) ns) 10 = nI (cN hi nb ns x) := by
  have hns := R.mo.1.2.2.2
  have h64 := p2_64 hns
  have hz := R.sunz
  rw [R.sun, shs_same R.m (by rw [zadd (by omega)]; omega) ns (Nat.le_refl _), ← (cN_ok R x).1]
  obtain ⟨s, hs, e⟩ := shs_set (nb := nb) (g := cP hi) (mv := mSun (cP hi) + x) ns hns
  rw [e]
  exact (bitC_sz s (by omega)).symm
def adm (hi : cm_g2) (nb : Nat) (x : Int32) : Prop := 0 ≤ (hi 11 0).toInt + x.toInt ∧ (hi 11 (nb - 1)).toInt + x.toInt ≤ 19
def lex (hi : cm_g2) (nb ns : Nat) (x y : Int32) : Prop := cN hi nb ns y < cN hi nb ns x ∨ (cN hi nb ns y = cN hi nb ns x ∧ x.toInt.natAbs ≤ y.toInt.natAbs)
theorem cAbs_lt {x y : Int32} (hx : -100 ≤ x.toInt ∧ x.toInt ≤ 100) (hy : -100 ≤ y.toInt ∧ y.toInt ≤ 100) : cAbs x < cAbs y ↔ x.toInt.natAbs < y.toInt.natAbs := by
  rw [cAbs_u, cAbs_u, Int32.lt_iff_toInt_lt, uAbs_z (by omega), uAbs_z (by omega)]
  split <;> split <;> omega
theorem cAbs_nI {x : Int32} (hx : -100 ≤ x.toInt ∧ x.toInt ≤ 100) : cAbs x = nI x.toInt.natAbs := by
  refine Int32.toInt_inj.mp ?_
  rw [cAbs_u, uAbs_z (by omega), nI_toInt (by omega)]
  split <;> omega
theorem bs_c (R : RR hi u nb ns) (h0 : 0 < nb) : ∀ k, k + (hi 11 (nb - 1)).toInt.toNat ≤ 20 + (hi 11 0).toInt.toNat → ∃ x, cBS (cP hi) nb ns k = (x, nI (cN hi nb ns x)) ∧ adm hi nb x ∧ ∀ y : Int32, (y.toInt = 0 ∨ (-(hi 11 0).toInt ≤ y.toInt ∧ y.toInt < (k : Int) - (hi 11 0).toInt)) → lex hi nb ns x y
  | 0, _ => by
    have s0 : 0 ≤ (hi 11 0).toInt ∧ (hi 11 0).toInt < 20 := R.mo.2.1 0 h0
    have s1 : 0 ≤ (hi 11 (nb - 1)).toInt ∧ (hi 11 (nb - 1)).toInt < 20 := R.mo.2.1 (nb - 1) (by omega)
    have z0 : (0 : Int32).toInt = 0 := by decide
    refine ⟨0, ?_, ⟨by rw [z0]; omega, by rw [z0]; omega⟩, fun y hy => ?_⟩
    · show ((0 : Int32), bitC (mShs (cP hi) nb (mSun (cP hi)) ns)) = _
      rw [← (cN_ok R 0).1, Int32.add_zero]
    · have : y = 0 := Int32.toInt_inj.mp (by rw [z0]; omega)
      rw [this]
      exact Or.inr ⟨rfl, Nat.le_refl _⟩
  | k + 1, hk => by
    have s0 : 0 ≤ (hi 11 0).toInt ∧ (hi 11 0).toInt < 20 := R.mo.2.1 0 h0
    have s1 : 0 ≤ (hi 11 (nb - 1)).toInt ∧ (hi 11 (nb - 1)).toInt < 20 := R.mo.2.1 (nb - 1) (by omega)
    obtain ⟨x, e, ax, lx⟩ := bs_c R h0 k (by omega)
    have hx : -100 ≤ x.toInt ∧ x.toInt ≤ 100 := by unfold adm at ax; omega
    have ey : (nI k - hi 11 0).toInt = (k : Int) - (hi 11 0).toInt := by rw [zsub (by rw [nI_toInt (by omega)]; omega), nI_toInt (by omega)]
    have o1 := cN_ok R x
    have o2 := cN_ok R (nI k - hi 11 0)
    unfold cBS
    rw [e, show cP hi 6 0 = hi 11 0 from rfl, o2.1]
    try dsimp only
    by_cases c : nI (cN hi nb ns x) < nI (cN hi nb ns (nI k - hi 11 0)) ∨ (nI (cN hi nb ns (nI k - hi 11 0)) = nI (cN hi nb ns x) ∧ cAbs (nI k - hi 11 0) < cAbs x)
    · rw [if_pos c, nI_ltI (by omega) (by omega), nI_eq (by omega) (by omega), cAbs_lt (by omega) hx] at *
      refine ⟨nI k - hi 11 0, rfl, ⟨by rw [ey]; omega, by rw [ey]; omega⟩, fun y hy => ?_⟩
      by_cases w : y.toInt = (k : Int) - (hi 11 0).toInt
      · have : y = nI k - hi 11 0 := Int32.toInt_inj.mp (by rw [w, ey])
        rw [this]
        exact Or.inr ⟨rfl, Nat.le_refl _⟩
      · have l := lx y (by omega)
        unfold lex at l ⊢
        omega
    · rw [if_neg c, nI_ltI (by omega) (by omega), nI_eq (by omega) (by omega), cAbs_lt (by omega) hx] at *
      refine ⟨x, rfl, ax, fun y hy => ?_⟩
      by_cases w : y.toInt = (k : Int) - (hi 11 0).toInt
      · have : y = nI k - hi 11 0 := Int32.toInt_inj.mp (by rw [w, ey])
        rw [this]
        unfold lex
        omega
      · exact lx y (by omega)
theorem tn_u (R : RR hi u nb ns) (h0 : 0 < nb) : ∀ j, j ≤ 19 → ∃ x, uTn u nb ns j = (nI x.toInt.natAbs, nI (cN hi nb ns x)) ∧ adm hi nb x ∧ x.toInt.natAbs ≤ j ∧ ∀ y : Int32, adm hi nb y → y.toInt.natAbs ≤ j → lex hi nb ns x y
  | 0, _ => by
    have s0 : 0 ≤ (hi 11 0).toInt ∧ (hi 11 0).toInt < 20 := R.mo.2.1 0 h0
    have s1 : 0 ≤ (hi 11 (nb - 1)).toInt ∧ (hi 11 (nb - 1)).toInt < 20 := R.mo.2.1 (nb - 1) (by omega)
    have z0 : (0 : Int32).toInt = 0 := by decide
    refine ⟨0, ?_, ⟨by rw [z0]; omega, by rw [z0]; omega⟩, by rw [z0]; decide, fun y _ hy => ?_⟩
    · show ((0 : Int32), uSz (uShs u nb (uSun u) ns) 10) = _
      rw [← cN_u R (by rw [z0]; decide), Int32.add_zero, z0]
      rfl
    · have : y = 0 := Int32.toInt_inj.mp (by rw [z0]; omega)
      rw [this]
      exact Or.inr ⟨rfl, Nat.le_refl _⟩
  | j + 1, hj => by
    have s0 : 0 ≤ (hi 11 0).toInt ∧ (hi 11 0).toInt < 20 := R.mo.2.1 0 h0
    have s1 : 0 ≤ (hi 11 (nb - 1)).toInt ∧ (hi 11 (nb - 1)).toInt < 20 := R.mo.2.1 (nb - 1) (by omega)
    have mn := R.mo.mono (nb - 1) 0 (by omega)
    rw [Nat.zero_add] at mn
    have mn' : (hi 11 0).toInt + ((nb - 1 : Nat) : Int) ≤ (hi 11 (nb - 1)).toInt := mn
    obtain ⟨x, e, ax, ex, lx⟩ := tn_u R h0 j (by omega)
    have z0 : (0 : Int32).toInt = 0 := by decide
    have z20 : (20 : Int32).toInt = 20 := by decide
    have zj : (nI (j + 1)).toInt = (j : Int) + 1 := by rw [nI_toInt (by omega)]; omega
    have zm : (-(nI (j + 1))).toInt = -((j : Int) + 1) := by
      rw [← Int32.zero_sub, zsub (by rw [z0, zj]; omega), z0, zj]
      omega
    have o1 := (cN_ok R x).2
    have oP := (cN_ok R (nI (j + 1))).2
    have oM := (cN_ok R (-(nI (j + 1)))).2
    have el : uTlf u nb ns (j + 1) = if (hi 11 0).toInt < (j : Int) + 1 then -1 else nI (cN hi nb ns (-(nI (j + 1)))) := by
      unfold uTlf
      rw [(R.b (i := 0) h0).2.1, Int32.sub_eq_add_neg, Int32.sub_eq_add_neg, cN_u R (by omega)]
      by_cases q : (hi 11 0).toInt < (j : Int) + 1
      · rw [if_pos q, if_pos]
        rw [Int32.lt_iff_toInt_lt, zadd (by omega), z0]
        omega
      · rw [if_neg q, if_neg]
        rw [Int32.lt_iff_toInt_lt, zadd (by omega), z0]
        omega
    have er : uTrt u nb ns (j + 1) = if 20 ≤ (hi 11 (nb - 1)).toInt + ((j : Int) + 1) then -1 else nI (cN hi nb ns (nI (j + 1))) := by
      unfold uTrt
      rw [(R.b (i := nb - 1) (by omega)).2.1, cN_u R (by omega)]
      by_cases q : 20 ≤ (hi 11 (nb - 1)).toInt + ((j : Int) + 1)
      · rw [if_pos q, if_pos]
        rw [Int32.le_iff_toInt_le, zadd (by omega), z20]
        omega
      · rw [if_neg q, if_neg]
        rw [Int32.le_iff_toInt_le, zadd (by omega), z20]
        omega
    have two : ∀ y : Int32, y.toInt.natAbs = j + 1 → y = nI (j + 1) ∨ y = -(nI (j + 1)) := fun y hy => by
      by_cases q : 0 ≤ y.toInt
      · exact Or.inl (Int32.toInt_inj.mp (by rw [zj]; omega))
      · exact Or.inr (Int32.toInt_inj.mp (by rw [zm]; omega))
    have n1 : ∀ m : Nat, m ≤ 6 → (-1 : Int32) ≤ nI m := fun m hm => by
      rw [Int32.le_iff_toInt_le, nI_toInt (by omega), show (-1 : Int32).toInt = -1 by decide]
      omega
    have n2 : ∀ m : Nat, m ≤ 6 → ¬ nI m ≤ (-1 : Int32) := fun m hm => by
      rw [Int32.le_iff_toInt_le, nI_toInt (by omega), show (-1 : Int32).toInt = -1 by decide]
      omega
    show ∃ x, (if uTc u nb ns (j + 1) ≤ (uTn u nb ns j).2 then uTn u nb ns j else (nI (j + 1), uTc u nb ns (j + 1))) = _ ∧ _
    rw [e]
    try dsimp only
    unfold uTc
    rw [el, er]
    -- what stays when nothing better came
    have keep : (∀ y : Int32, y = nI (j + 1) ∨ y = -(nI (j + 1)) → adm hi nb y → cN hi nb ns y ≤ cN hi nb ns x) → ∀ y : Int32, adm hi nb y → y.toInt.natAbs ≤ j + 1 → lex hi nb ns x y := fun hk y ay hy => by
      by_cases w : y.toInt.natAbs = j + 1
      · have := hk y (two y w) ay
        unfold lex
        omega
      · exact lx y ay (by omega)
    have take : ∀ z : Int32, z.toInt.natAbs = j + 1 → cN hi nb ns x < cN hi nb ns z → (∀ y : Int32, y = nI (j + 1) ∨ y = -(nI (j + 1)) → adm hi nb y → cN hi nb ns y ≤ cN hi nb ns z) → ∀ y : Int32, adm hi nb y → y.toInt.natAbs ≤ j + 1 → lex hi nb ns z y := fun z hz hlt hk y ay hy => by
      by_cases w : y.toInt.natAbs = j + 1
      · have := hk y (two y w) ay
        unfold lex
        omega
      · have := lx y ay (by omega)
        unfold lex at this ⊢
        omega
    have aP : adm hi nb (nI (j + 1)) ↔ ¬ 20 ≤ (hi 11 (nb - 1)).toInt + ((j : Int) + 1) := by unfold adm; rw [zj]; omega
    have aM : adm hi nb (-(nI (j + 1))) ↔ ¬ (hi 11 0).toInt < (j : Int) + 1 := by unfold adm; rw [zm]; omega
    by_cases qm : (hi 11 0).toInt < (j : Int) + 1
    · rw [if_pos qm]
      by_cases qp : 20 ≤ (hi 11 (nb - 1)).toInt + ((j : Int) + 1)
      · rw [if_pos qp, if_pos (Int32.le_refl _), if_pos (n1 _ o1)]
        exact ⟨x, rfl, ax, by omega, keep (fun y hy ay => hy.elim (fun w => by rw [w, aP] at ay; exact absurd qp ay) (fun w => by rw [w, aM] at ay; exact absurd qm ay))⟩
      · rw [if_neg qp, if_pos (n1 _ oP)]
        by_cases c : nI (cN hi nb ns (nI (j + 1))) ≤ nI (cN hi nb ns x)
        · rw [if_pos c]
          rw [nI_leI (by omega) (by omega)] at c
          exact ⟨x, rfl, ax, by omega, keep (fun y hy ay => hy.elim (fun w => by rw [w]; exact c) (fun w => by rw [w, aM] at ay; exact absurd qm ay))⟩
        · rw [if_neg c]
          rw [nI_leI (by omega) (by omega)] at c
          exact ⟨nI (j + 1), by rw [show (nI (j + 1)).toInt.natAbs = j + 1 by omega], aP.mpr qp, by omega, take _ (by omega) (by omega) (fun y hy ay => hy.elim (fun w => by rw [w]; exact Nat.le_refl _) (fun w => by rw [w, aM] at ay; exact absurd qm ay))⟩
    · rw [if_neg qm]
      by_cases qp : 20 ≤ (hi 11 (nb - 1)).toInt + ((j : Int) + 1)
      · rw [if_pos qp, if_neg (n2 _ oM)]
        by_cases c : nI (cN hi nb ns (-(nI (j + 1)))) ≤ nI (cN hi nb ns x)
        · rw [if_pos c]
          rw [nI_leI (by omega) (by omega)] at c
          exact ⟨x, rfl, ax, by omega, keep (fun y hy ay => hy.elim (fun w => by rw [w, aP] at ay; exact absurd qp ay) (fun w => by rw [w]; exact c))⟩
        · rw [if_neg c]
          rw [nI_leI (by omega) (by omega)] at c
          exact ⟨-(nI (j + 1)), by rw [show (-(nI (j + 1))).toInt.natAbs = j + 1 by omega], aM.mpr qm, by omega, take _ (by omega) (by omega) (fun y hy ay => hy.elim (fun w => by rw [w, aP] at ay; exact absurd qp ay) (fun w => by rw [w]; exact Nat.le_refl _))⟩
      · rw [if_neg qp]
        by_cases d : nI (cN hi nb ns (-(nI (j + 1)))) ≤ nI (cN hi nb ns (nI (j + 1)))
        · rw [if_pos d]
          rw [nI_leI (by omega) (by omega)] at d
          by_cases c : nI (cN hi nb ns (nI (j + 1))) ≤ nI (cN hi nb ns x)
          · rw [if_pos c]
            rw [nI_leI (by omega) (by omega)] at c
            exact ⟨x, rfl, ax, by omega, keep (fun y hy ay => hy.elim (fun w => by rw [w]; exact c) (fun w => by rw [w]; omega))⟩
          · rw [if_neg c]
            rw [nI_leI (by omega) (by omega)] at c
            exact ⟨nI (j + 1), by rw [show (nI (j + 1)).toInt.natAbs = j + 1 by omega], aP.mpr qp, by omega, take _ (by omega) (by omega) (fun y hy ay => hy.elim (fun w => by rw [w]; exact Nat.le_refl _) (fun w => by rw [w]; exact d))⟩
        · rw [if_neg d]
          rw [nI_leI (by omega) (by omega)] at d
          by_cases c : nI (cN hi nb ns (-(nI (j + 1)))) ≤ nI (cN hi nb ns x)
          · rw [if_pos c]
            rw [nI_leI (by omega) (by omega)] at c
            exact ⟨x, rfl, ax, by omega, keep (fun y hy ay => hy.elim (fun w => by rw [w]; omega) (fun w => by rw [w]; exact c))⟩
          · rw [if_neg c]
            rw [nI_leI (by omega) (by omega)] at c
            exact ⟨-(nI (j + 1)), by rw [show (-(nI (j + 1))).toInt.natAbs = j + 1 by omega], aM.mpr qm, by omega, take _ (by omega) (by omega) (fun y hy ay => hy.elim (fun w => by rw [w]; omega) (fun w => by rw [w]; exact Nat.le_refl _))⟩
theorem op_turns (R : RR hi u nb ns) : opOk hi nb ns (cTurns hi nb ns).1 (uTurns u nb ns).1 (cTurns hi nb ns).2 (uTurns u nb ns).2 := by
  obtain ⟨b1, b2, b3, -⟩ := R.ns0
  unfold cTurns uTurns
  rw [b1, b2]
  by_cases h1 : nI nb = 0
  · rw [if_pos h1, if_pos h1]; exact ⟨rfl, R, fun _ _ => rfl⟩
  · have h0 : 0 < nb := Nat.pos_of_ne_zero (fun w => h1 (by rw [w]; rfl))
    rw [if_neg h1, if_neg h1]
    have s0 : 0 ≤ (hi 11 0).toInt ∧ (hi 11 0).toInt < 20 := R.mo.2.1 0 h0
    have s1 : 0 ≤ (hi 11 (nb - 1)).toInt ∧ (hi 11 (nb - 1)).toInt < 20 := R.mo.2.1 (nb - 1) (by omega)
    obtain ⟨x, ex, ax, lx⟩ := bs_c R h0 (20 + (hi 11 0).toInt.toNat - (hi 11 (nb - 1)).toInt.toNat) (by omega)
    obtain ⟨y, ey, ay, ny, ly⟩ := tn_u R h0 19 (Nat.le_refl _)
    have e9 : cBShift (cP hi) nb ns = x := by
      unfold cBShift
      rw [show cP hi 6 0 = hi 11 0 from rfl, show cP hi 6 (nb - 1) = hi 11 (nb - 1) from rfl, ex]
    have l1 := lx y (by unfold adm at ay; omega)
    have l2 := ly x ax (by unfold adm at ax; omega)
    have hx : -100 ≤ x.toInt ∧ x.toInt ≤ 100 := by unfold adm at ax; omega
    unfold lex at l1 l2
    rw [e9, ey, (cN_ok R x).1, cAbs_nI hx, show x.toInt.natAbs = y.toInt.natAbs by omega, show cN hi nb ns x = cN hi nb ns y by omega]
    exact ⟨rfl, R.tell, fun c hc => kTell_c (by omega)⟩
theorem sums (R : RR hi u nb ns) : ∃ P S : Nat, P < 2 ^ 31 ∧ S < 2 ^ 31 ∧ sumP (u 10) nb = nI P ∧ sumP (hi 13) nb = nI P ∧ sumP (u 13) ns = nI S ∧ sumP (hi 8) ns = nI S := by
  have b3 := R.mo.1.2.1
  have b6 := R.mo.1.2.2.2
  have hm := R.min.2
  obtain ⟨P, hP, eP⟩ := sumP_nn (f := hi 13) (M := 5940) (by decide) nb b3 (fun i hi9 => by have h9 := R.2.2.1.2.1 i hi9; have h8 : 0 ≤ (hi 13 i).toInt ∧ (hi 13 i).toInt ≤ 99 * (hi 5 1).toInt := h9; omega)
  obtain ⟨S, hS, eS⟩ := sumP_nn (f := hi 8) (M := 99) (by decide) ns b6 (fun k hk => by have h9 : 0 ≤ (hi 8 k).toInt ∧ (hi 8 k).toInt ≤ 99 := R.2.2.1.2.2 k hk; omega)
  have hP2 : nb * 5940 ≤ 6 * 5940 := Nat.mul_le_mul_right _ b3
  have hS2 : ns * 99 ≤ 6 * 99 := Nat.mul_le_mul_right _ b6
  refine ⟨P, S, by omega, by omega, ?_, eP, ?_, eS⟩
  · rw [← eP]; exact sumP_cg nb (fun i hi9 => (R.b hi9).2.2.2)
  · rw [← eS]; exact sumP_cg ns (fun k hk => (R.s hk).2.2.1)
theorem up_low {P S : Nat} (hP : P < 2 ^ 31) (hS : S < 2 ^ 31) (e1 : sumP (hi 13) nb = nI P) (e2 : sumP (hi 8) ns = nI S) : cUp hi nb ns = (if S = 0 then 0 else (nI P / nI (Nat.gcd P S)).toInt64) ∧ cLow hi nb ns = (if S = 0 then 1 else (nI S / nI (Nat.gcd P S)).toInt64) := by
  unfold cUp cLow
  rw [e1, e2, nI_l hP, nI_l hS]
  by_cases q : S = 0
  · subst q
    exact ⟨rfl, rfl⟩
  · have n0 : ¬ lN S = 0 := fun w => q ((pk_lEQ (a := S) (b := 0) (by omega) (by omega)).mp w)
    have hg : 0 < Nat.gcd S P := Nat.gcd_pos_of_pos_left P (by omega)
    have hl : Nat.gcd S P ≤ S := Nat.gcd_le_left P (by omega)
    have d1 : P / Nat.gcd S P ≤ P := Nat.div_le_self _ _
    have d2 : S / Nat.gcd S P ≤ S := Nat.div_le_self _ _
    rw [if_neg n0, if_neg q, if_neg n0, if_neg q, cCd_ok hS hP (by omega), Nat.gcd_comm P S, pk_lDiv (by omega) hg (by omega), pk_lDiv (by omega) hg (by omega), pk_div hP hg (by omega), pk_div hS hg (by omega), nI_l (by omega), nI_l (by omega)]
    exact ⟨rfl, rfl⟩
theorem six {f g : Nat → Int32} {n : Nat} (hn : n ≤ 6) (h : ∀ i, i < n → f i = g i) (h0 : ∀ i, n ≤ i → i < 6 → g i = 0) : sumP f n = sumP g 6 := by
  have := sumP_ext h (6 - n) (fun i a b => h0 i a (by omega))
  rw [show n + (6 - n) = 6 by omega] at this
  exact this
theorem kept_iff (R : RR hi u nb ns) {k : Nat} (hk : k < 3) : (0 < hi (81 + 11 * k) 3 ↔ ¬ u 16 (32 * k) = -9) ∧ (0 < hi (81 + 11 * k) 3 → hi (81 + 11 * k) 1 = u 16 (32 * k)) := by
  have b3 := R.mo.1.2.1
  rcases R.2.2.2.2 k hk with ⟨w1, w2⟩ | ⟨w1, w2, w3⟩
  · rw [w1, w2]
    exact ⟨⟨fun w => absurd w (by decide), fun w => absurd rfl w⟩, fun w => absurd w (by decide)⟩
  · have ln := uLd_at (u := u) (k := k)
    have n3 : hi (81 + 11 * k) 3 = nI nb := w2.1.1.1
    have tm := w2.2.2.2.1
    rw [ln.2.2.1.1] at tm
    have tm0 : u 16 (32 * k) = hi (81 + 11 * k) 1 := tm.1
    have tm1 : 0 ≤ (hi (81 + 11 * k) 1).toInt := tm.2.1
    have z0 : (0 : Int32).toInt = 0 := by decide
    have z9 : (-9 : Int32).toInt = -9 := by decide
    have p : 0 < hi (81 + 11 * k) 3 := by rw [n3, Int32.lt_iff_toInt_lt, z0, nI_toInt (by omega)]; omega
    exact ⟨⟨fun _ w => by rw [tm0] at w; rw [w, z9] at tm1; omega, fun _ => p⟩, fun _ => tm0.symm⟩
theorem num_same (R : RR hi u nb ns) {w : Nat} (hw : w < 9) : cNum hi nb (nI w) = uTells u nb (nI w) := by
  obtain ⟨b1, b2, b3, b4, b5, b6⟩ := R.ns0
  have hmin := R.min
  have c : w = 0 ∨ w = 1 ∨ w = 2 ∨ w = 3 ∨ w = 4 ∨ w = 5 ∨ w = 6 ∨ w = 7 ∨ w = 8 := by omega
  have eA : ∀ kd i, i < nb → mOf (cP hi) i kd = uA u i kd := fun kd i hi9 => by
    unfold mOf uA
    rw [(R.b hi9).1]
    rfl
  rcases c with rfl | rfl | rfl | rfl | rfl | rfl | rfl | rfl | rfl
  · show hi 5 3 = u 0 9
    rw [b1, b2]
  · show hi 5 2 = u 0 10
    rw [b4, b5]
  · show hi 5 1 = u 0 19
    exact hmin.1.symm
  · show sumP (fun i => cm_bi (mOf (cP hi) i 1)) nb = sumP (fun k => cm_bi (uTb u nb 3 k)) 6
    refine six b3 (fun i hi9 => ?_) (fun i h1 h2 => ?_)
    · try dsimp only
      rw [eA 1 i hi9]
      simp [uTb, uT3, uT4, uT5, uT6, uT7, hi9]
    · have : ¬ i < nb := by omega
      simp [uTb, uT3, uT4, uT5, uT6, uT7, this, cm_bi]
  · show sumP (fun i => cm_bi (mOf (cP hi) i 2)) nb = sumP (fun k => cm_bi (uTb u nb 4 k)) 6
    refine six b3 (fun i hi9 => ?_) (fun i h1 h2 => ?_)
    · try dsimp only
      rw [eA 2 i hi9]
      simp [uTb, uT3, uT4, uT5, uT6, uT7, hi9]
    · have : ¬ i < nb := by omega
      simp [uTb, uT3, uT4, uT5, uT6, uT7, this, cm_bi]
  · show sumP (fun k => cm_bi (decide (0 < hi (81 + 11 * k) 3))) 3 = sumP (fun k => cm_bi (uTb u nb 5 k)) 6
    refine six (by decide) (fun i hi9 => ?_) (fun i h1 h2 => ?_)
    · have := (kept_iff R hi9).1
      by_cases q : 0 < hi (81 + 11 * i) 3
      · simp [uTb, uT3, uT4, uT5, uT6, uT7, hi9, q, this.mp q]
      · have q2 : u 16 (32 * i) = -9 := Decidable.byContradiction (fun w => q (this.mpr w))
        simp [uTb, uT3, uT4, uT5, uT6, uT7, hi9, q, q2]
    · have : ¬ i < 3 := by omega
      simp [uTb, uT3, uT4, uT5, uT6, uT7, this, cm_bi]
  · show sumP (fun k => cm_bi (!decide (hi (61 + 2 * k) 1 = -1))) 6 = sumP (fun k => cm_bi (uTb u nb 6 k)) 6
    refine sumP_cg 6 (fun i hi9 => ?_)
    rcases R.1.1 i hi9 with ⟨w1, w2⟩ | ⟨m, hm, w1, w2, -⟩
    · simp [uTb, uT3, uT4, uT5, uT6, uT7, w1, w2]
    · have a := nI_ne1 (m := m) (by omega)
      have b := nI_nn m (by omega)
      simp [uTb, uT3, uT4, uT5, uT6, uT7, w1, w2, a, b]
  · show sumP (fun k => cm_bi (!decide (hi (73 + 2 * k) 1 = -1))) 4 = sumP (fun k => cm_bi (uTb u nb 7 k)) 6
    refine six (by decide) (fun i hi9 => ?_) (fun i h1 h2 => ?_)
    · rcases R.1.2 i hi9 with ⟨w1, w2⟩ | ⟨m, hm, w1, w2, -⟩
      · simp [uTb, uT3, uT4, uT5, uT6, uT7, w1, w2, hi9]
      · have a := nI_ne1 (m := m) (by omega)
        have b := nI_nn m (by omega)
        simp [uTb, uT3, uT4, uT5, uT6, uT7, w1, w2, a, b, hi9]
    · have : ¬ i < 4 := by omega
      simp [uTb, uT3, uT4, uT5, uT6, uT7, this, cm_bi]
  · show sumP (fun i => if hi 12 i = 4 then 0 else 1) nb = uWantN u nb
    exact sumP_cg nb (fun i hi9 => by rw [(R.b hi9).2.2.1])
theorem wU8 {x : Int32} : isW x 9 = uIn x 0 8 := wU (n := 8) (by decide)
theorem op_count {w : Int32} (R : RR hi u nb ns) : opOk hi nb ns (if isW w 9 then cNum hi nb w else -1) (if uIn w 0 8 then uTells u nb w else -1) hi u := by
  refine ⟨?_, R, fun _ _ => rfl⟩
  rw [wU8]
  by_cases q : uIn w 0 8 = true
  · obtain ⟨x, hx, rfl⟩ := uIn_ex 8 q
    rw [if_pos q, if_pos q]
    exact num_same R (by omega)
  · rw [if_neg q, if_neg q]
theorem digB_same (R : RR hi u nb ns) {h : Int64} : ∀ k, k ≤ nb → cDigB (cP hi) h k = uDB u h k
  | 0, _ => rfl
  | k + 1, hk => by
    unfold cDigB uDB
    rw [digB_same R k (by omega)]
    refine digF_cg 4 (fun w hw => ?_)
    have q := R.b (i := k) (by omega)
    unfold cFB uFB
    rw [q.1, q.2.1, q.2.2.1, q.2.2.2]
    rfl
theorem digS_same (R : RR hi u nb ns) {h : Int64} : ∀ k, k ≤ ns → cDigS (cP hi) h k = uDS u h k
  | 0, _ => rfl
  | k + 1, hk => by
    unfold cDigS uDS
    rw [digS_same R k (by omega)]
    refine digF_cg 4 (fun w hw => ?_)
    have q := R.s (k := k) (by omega)
    unfold cFS uFS
    rw [q.1, q.2.1, q.2.2.1, q.2.2.2]
    rfl
theorem digk_same (R : RR hi u nb ns) {h : Int64} : ∀ k, k ≤ 3 → cDk hi h k = uDk u h k
  | 0, _ => rfl
  | k + 1, hk => by
    unfold cDk uDk
    rw [digk_same R k (by omega)]
    have q := kept_iff R (k := k) (by omega)
    by_cases w : 0 < hi (81 + 11 * k) 3
    · rw [if_pos w, if_neg (q.1.mp w), q.2 w]
    · rw [if_neg w, if_pos (Decidable.byContradiction (fun x => w (q.1.mpr x)))]
theorem dr_same {s N : Nat} {z : Int32} {f : Nat → Int32} {h : Int64} (R : stR (hi s 1) (hi (s + 1)) z f N) (hN : N ≤ 80) : cDs hi s h = uDr z f h := by
  unfold cDs uDr
  rcases R with ⟨w1, w2⟩ | ⟨m, hm, w1, w2, w3⟩
  · rw [w1, w2, if_pos rfl, if_neg (by decide)]
    rfl
  · rw [w1, w2, if_neg (nI_ne1 (by omega)), if_pos (nI_nn m (by omega)), nI_clamp (by omega)]
    exact stDig_cg m w3
theorem digR_same (R : RR hi u nb ns) {h : Int64} : ∀ k, k ≤ 6 → cDsN hi 61 h k = uDR u h k
  | 0, _ => rfl
  | k + 1, hk => by
    unfold cDsN uDR
    rw [digR_same R k (by omega)]
    exact dr_same (R.1.1 k (by omega)) (by decide)
theorem digT_same (R : RR hi u nb ns) {h : Int64} : ∀ k, k ≤ 4 → cDsN hi 73 h k = uDT u h k
  | 0, _ => rfl
  | k + 1, hk => by
    unfold cDsN uDT
    rw [digT_same R k (by omega)]
    exact dr_same (R.1.2 k (by omega)) (by decide)
theorem dig_same (R : RR hi u nb ns) : cDig hi nb ns = uDig u nb ns := by
  obtain ⟨b1, b2, b3, b4, b5, b6⟩ := R.ns0
  unfold cDig uDig uDM
  rw [digT_same R 4 (Nat.le_refl _), digR_same R 6 (Nat.le_refl _), digk_same R 3 (Nat.le_refl _), digS_same R ns (Nat.le_refl _), digB_same R nb (Nat.le_refl _), digF_cg (g := uTells u nb) 9 (fun w hw => num_same R hw), R.min.1, ← R.2.2.2.1.1, b1, b2, show u 0 8 = hi 5 0 from R.m.2.2.1.1]
end OP7
