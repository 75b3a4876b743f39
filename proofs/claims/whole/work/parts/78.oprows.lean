/-! PART oprows: rows and texts, both sides -/
theorem wU {v : Int32} {n : Nat} (h : n < 1000) : isW v (nI (n + 1)) = uIn v 0 (nI n) := by
  rw [Bool.eq_iff_iff, isW_z, uIn_zz, nI_toInt (by omega), nI_toInt (by omega)]
  have z0 : (0 : Int32).toInt = 0 := by decide
  omega
theorem wU5 {v : Int32} : isW v 6 = uIn v 0 5 := wU (n := 5) (by decide)
theorem wU3 {v : Int32} : isW v 4 = uIn v 0 3 := wU (n := 3) (by decide)
theorem wUm {v : Int32} {m : Nat} (h : m ≤ 80) : isW v (nI m) = uIn v 0 (nI m - 1) := by
  rw [Bool.eq_iff_iff, isW_z, uIn_zz, nI_toInt (by omega), uLast m h]
  have z0 : (0 : Int32).toInt = 0 := by decide
  omega
theorem tru {b : Bool} (h : ¬ b = false) : b = true := by cases b; exact absurd rfl h; rfl
theorem uAR_no {u : cm_g2} {r : Int32} (h : uIn r 0 5 = false) : uAR u r = (-1, u) := by unfold uAR; rw [if_pos h]
theorem in5 {j : Nat} (h : j < 6) : uIn (nI j) 0 5 = true := by
  have z0 : (0 : Int32).toInt = 0 := by decide
  have z5 : (5 : Int32).toInt = 5 := by decide
  exact uIn_zz.mpr (by rw [z0, z5, nI_toInt (by omega)]; omega)
theorem in3 {j : Nat} (h : j < 4) : uIn (nI j) 0 3 = true := by
  have z0 : (0 : Int32).toInt = 0 := by decide
  have z5 : (3 : Int32).toInt = 3 := by decide
  exact uIn_zz.mpr (by rw [z0, z5, nI_toInt (by omega)]; omega)
theorem nI_nn (m : Nat) (h : m < 2 ^ 31) : (0 : Int32) ≤ nI m := by
  have z0 : (0 : Int32).toInt = 0 := by decide
  rw [Int32.le_iff_toInt_le, z0, nI_toInt h]
  omega
theorem uAR_ms {u : cm_g2} {j : Nat} (h : j < 6) (hz : u 2 j = -9) : uAR u (nI j) = (-3, uMeet u 1) := by
  unfold uAR
  rw [if_neg (by rw [in5 h]; decide), nI_clamp (by omega), hz, if_neg (by decide)]
theorem uAR_ok {u : cm_g2} {j m : Nat} (h : j < 6) (hm : m ≤ 40) (hz : u 2 j = nI m) : uAR u (nI j) = (0, u) := by
  unfold uAR
  rw [if_neg (by rw [in5 h]; decide), nI_clamp (by omega), hz, if_pos (nI_nn m (by omega))]
theorem uAT_no {u : cm_g2} {r : Int32} (h : uIn r 0 3 = false) : uAT u r = (-1, u) := by unfold uAT; rw [if_pos h]
theorem uAT_ms {u : cm_g2} {j : Nat} (h : j < 4) (hz : u 5 j = -9) : uAT u (nI j) = (-3, uMeet u 1) := by
  unfold uAT
  rw [if_neg (by rw [in3 h]; decide), nI_clamp (by omega), hz, if_neg (by decide)]
theorem uAT_ok {u : cm_g2} {j m : Nat} (h : j < 4) (hm : m ≤ 80) (hz : u 5 j = nI m) : uAT u (nI j) = (0, u) := by
  unfold uAT
  rw [if_neg (by rw [in3 h]; decide), nI_clamp (by omega), hz, if_pos (nI_nn m (by omega))]
theorem uAt_no {u : cm_g2} {r i : Int32} (h : uIn r 0 5 = false) : uAt u r i = (-1, u) := by
  unfold uAt
  rw [uAR_no h, if_neg (show ¬ (0 : Int32) ≤ -1 by decide)]
theorem uAt_ms {u : cm_g2} {j : Nat} {i : Int32} (h : j < 6) (hz : u 2 j = -9) : uAt u (nI j) i = (-3, uMeet u 1) := by
  unfold uAt
  rw [uAR_ms h hz, if_neg (show ¬ (0 : Int32) ≤ -3 by decide)]
theorem uAt_out {u : cm_g2} {j m : Nat} {i : Int32} (h : j < 6) (hm : m ≤ 40) (hz : u 2 j = nI m) (hi : uIn i 0 (nI m - 1) = false) : uAt u (nI j) i = (-3, uMeet u 2) := by
  unfold uAt
  rw [uAR_ok h hm hz, if_pos (show (0 : Int32) ≤ 0 by decide), nI_clamp (by omega), hz, if_neg (by rw [hi]; decide)]
theorem uAt_in {u : cm_g2} {j m x : Nat} (h : j < 6) (hm : m ≤ 40) (hz : u 2 j = nI m) (hx : x < m) : uAt u (nI j) (nI x) = (1, uAsk u (u 3 (40 * j + x))) := by
  unfold uAt
  rw [uAR_ok h hm hz, if_pos (show (0 : Int32) ≤ 0 by decide), nI_clamp (by omega), nI_clamp (by omega), hz, if_pos]
  rw [← wUm (by omega), isW_z, nI_toInt (by omega), nI_toInt (by omega)]
  omega
theorem R1.put {hi u H v : cm_g2} {j : Nat} (h : R1 hi u) (hj : j < 6) (e : ∀ c, c ≠ 61 + 2 * j → c ≠ 61 + 2 * j + 1 → 61 ≤ c → c ≤ 72 → H c = hi c) (e2 : ∀ r, r ≠ j → v 2 r = u 2 r) (e3 : ∀ x, ¬ (40 * j ≤ x ∧ x < 40 * j + 40) → v 3 x = u 3 x) (n : stR (H (61 + 2 * j) 1) (H (61 + 2 * j + 1)) (v 2 j) (fun i => v 3 (40 * j + i)) 40) : R1 H v := fun r hr => by
  by_cases q : r = j
  · subst q; exact n
  · rw [e (61 + 2 * r) (by omega) (by omega) (by omega) (by omega), e (61 + 2 * r + 1) (by omega) (by omega) (by omega) (by omega), e2 r q]
    rcases h r hr with w | ⟨m, hm, w1, w2, w3⟩
    · exact Or.inl w
    · exact Or.inr ⟨m, hm, w1, w2, fun i hi9 => by dsimp only; rw [e3 _ (by omega)]; exact w3 i hi9⟩
theorem R2.put {hi u H v : cm_g2} {j : Nat} (h : R2 hi u) (hj : j < 4) (e : ∀ c, c ≠ 73 + 2 * j → c ≠ 73 + 2 * j + 1 → 73 ≤ c → c ≤ 80 → H c = hi c) (e2 : ∀ r, r ≠ j → v 5 r = u 5 r) (e3 : ∀ x, ¬ (80 * j ≤ x ∧ x < 80 * j + 80) → v 6 x = u 6 x) (n : stR (H (73 + 2 * j) 1) (H (73 + 2 * j + 1)) (v 5 j) (fun i => v 6 (80 * j + i)) 80) : R2 H v := fun r hr => by
  by_cases q : r = j
  · subst q; exact n
  · rw [e (73 + 2 * r) (by omega) (by omega) (by omega) (by omega), e (73 + 2 * r + 1) (by omega) (by omega) (by omega) (by omega), e2 r q]
    rcases h r hr with w | ⟨m, hm, w1, w2, w3⟩
    · exact Or.inl w
    · exact Or.inr ⟨m, hm, w1, w2, fun i hi9 => by dsimp only; rw [e3 _ (by omega)]; exact w3 i hi9⟩
/-- a row's change, what is told besides -/
theorem RR.row {hi u H v : cm_g2} {nb ns j : Nat} (R : RR hi u nb ns) (hj : j < 6) (e : ∀ c, c ≠ 61 + 2 * j → c ≠ 61 + 2 * j + 1 → ((5 ≤ c ∧ c ≤ 15) ∨ c = 17 ∨ c = 18 ∨ (61 ≤ c ∧ c ≤ 113)) → H c = hi c) (r3 : R3 H v) (e2 : ∀ r, r ≠ j → v 2 r = u 2 r) (e3 : ∀ x, ¬ (40 * j ≤ x ∧ x < 40 * j + 40) → v 3 x = u 3 x) (n : stR (H (61 + 2 * j) 1) (H (61 + 2 * j + 1)) (v 2 j) (fun i => v 3 (40 * j + i)) 40) (f0 : ∀ k, k = 8 ∨ k = 9 ∨ k = 10 ∨ k = 19 ∨ k = 20 → v 0 k = u 0 k) (fc : ∀ c, c = 5 ∨ c = 6 ∨ c = 15 ∨ c = 16 → v c = u c) (f7 : ∀ c, 7 ≤ c → c ≤ 14 → ∀ i, i < 6 → v c i = u c i) : RR H v nb ns := R.mk1 (R.1.1.put hj (fun c h1 h2 h3 h4 => e c h1 h2 (by omega)) e2 e3 n) (R.1.2.fr (fun c h1 h2 => e c (by omega) (by omega) (by omega)) (fc 5 (by omega)) (fc 6 (by omega))) r3 (fun c hc => e c (by omega) (by omega) (by omega)) f0 ⟨fc 15 (by omega), fc 16 (by omega)⟩ f7
theorem RR.txt {hi u H v : cm_g2} {nb ns j : Nat} (R : RR hi u nb ns) (hj : j < 4) (e : ∀ c, c ≠ 73 + 2 * j → c ≠ 73 + 2 * j + 1 → ((5 ≤ c ∧ c ≤ 15) ∨ c = 17 ∨ c = 18 ∨ (61 ≤ c ∧ c ≤ 113)) → H c = hi c) (r3 : R3 H v) (e2 : ∀ r, r ≠ j → v 5 r = u 5 r) (e3 : ∀ x, ¬ (80 * j ≤ x ∧ x < 80 * j + 80) → v 6 x = u 6 x) (n : stR (H (73 + 2 * j) 1) (H (73 + 2 * j + 1)) (v 5 j) (fun i => v 6 (80 * j + i)) 80) (f0 : ∀ k, k = 8 ∨ k = 9 ∨ k = 10 ∨ k = 19 ∨ k = 20 → v 0 k = u 0 k) (fc : ∀ c, c = 2 ∨ c = 3 ∨ c = 15 ∨ c = 16 → v c = u c) (f7 : ∀ c, 7 ≤ c → c ≤ 14 → ∀ i, i < 6 → v c i = u c i) : RR H v nb ns := R.mk1 (R.1.1.fr (fun c h1 h2 => e c (by omega) (by omega) (by omega)) (fc 2 (by omega)) (fc 3 (by omega))) (R.1.2.put hj (fun c h1 h2 h3 h4 => e c h1 h2 (by omega)) e2 e3 n) r3 (fun c hc => e c (by omega) (by omega) (by omega)) f0 ⟨fc 15 (by omega), fc 16 (by omega)⟩ f7
theorem us_st {hi g : cm_g2} {a : Nat} (h : ∀ c, 2 ≤ c → g c = hi (a + c)) : (cm_us hi a g a = g 0 ∧ cm_us hi a g (a + 1) = g 1) ∧ ∀ c, c ≠ a → c ≠ a + 1 → cm_us hi a g c = hi c := by
  refine ⟨⟨cm_us_0 _ _ _, cm_us_at _ _ _ _⟩, fun c h1 h2 => ?_⟩
  unfold cm_us
  split
  · rw [h (c - a) (by omega), show a + (c - a) = c by omega]
  · rfl
theorem stFill_at {hi : cm_g2} {a m : Nat} {w : Int32} : (cm_us hi a (stFill (cm_sf hi a) m w m) a = upd (hi a) 1 (nI m) ∧ cm_us hi a (stFill (cm_sf hi a) m w m) (a + 1) = fun x => if x < m then w else hi (a + 1) x) ∧ ∀ c, c ≠ a → c ≠ a + 1 → cm_us hi a (stFill (cm_sf hi a) m w m) c = hi c := by
  have h := us_st (hi := hi) (a := a) (g := stFill (cm_sf hi a) m w m) (fun c hc => by unfold stFill; rw [va_up_ne _ _ (by omega), va_up_ne _ _ (by omega)]; rfl)
  refine ⟨⟨?_, ?_⟩, h.2⟩
  · rw [h.1.1]; unfold stFill; rw [va_up_ne _ _ (by decide), va_up_self]; rfl
  · rw [h.1.2]; unfold stFill; rw [va_up_self]; rfl
theorem stPut_at {hi : cm_g2} {a m x : Nat} {w : Int32} (hz : hi a 1 = nI m) (hx : x < m) (hm : m ≤ 80) : (cm_us hi a (stPut (cm_sf hi a) (nI x) w) a = hi a ∧ cm_us hi a (stPut (cm_sf hi a) (nI x) w) (a + 1) = upd (hi (a + 1)) x w) ∧ ∀ c, c ≠ a → c ≠ a + 1 → cm_us hi a (stPut (cm_sf hi a) (nI x) w) c = hi c := by
  have e : stPut (cm_sf hi a) (nI x) w = va_up (cm_sf hi a) 1 (upd (cm_sf hi a 1) x w) := stPut_in (g := cm_sf hi a) (m := m) hz hx hm
  rw [e]
  have h := us_st (hi := hi) (a := a) (g := va_up (cm_sf hi a) 1 (upd (cm_sf hi a 1) x w)) (fun c hc => by rw [va_up_ne _ _ (by omega)]; rfl)
  refine ⟨⟨?_, ?_⟩, h.2⟩
  · rw [h.1.1, va_up_ne _ _ (by decide)]; rfl
  · rw [h.1.2, va_up_self]; rfl
section OP1
variable {hi u : cm_g2} {nb ns : Nat}
theorem R3.eq {H v : cm_g2} (h : R3 hi u) (e2 : H 2 = hi 2) (e60 : H 60 = hi 60) (f0 : v 0 = u 0) (f1 : v 1 = u 1) : R3 H v := by
  unfold R3
  rw [e2, e60, f0, f1]
  exact h
theorem op_row {r n : Int32} (R : RR hi u nb ns) : opOk hi nb ns (cRow hi r n).1 (uRow u r n).1 (cRow hi r n).2 (uRow u r n).2 := by
  unfold cRow uRow
  rw [wU5]
  by_cases h1 : uIn r 0 5 = false ∨ ¬ n ≤ 40
  · rw [if_pos h1, if_pos h1]; exact ⟨rfl, R, fun _ _ => rfl⟩
  · rw [if_neg h1, if_neg h1]
    by_cases h2 : 0 ≤ n
    · rw [if_pos h2, if_pos h2]
      obtain ⟨j, hj, rfl⟩ := uIn_ex 5 (tru (fun w => h1 (Or.inl w)))
      have hjc : (nI j).toNatClampNeg = j := nI_clamp (by omega)
      have h4 : n ≤ 40 := Decidable.byContradiction (fun w => h1 (Or.inr w))
      rw [Int32.le_iff_toInt_le] at h2 h4
      have z0 : (0 : Int32).toInt = 0 := by decide
      have z40 : (40 : Int32).toInt = 40 := by decide
      rw [z0] at h2
      rw [z40] at h4
      have en : n = nI n.toNatClampNeg := z_of h2
      have wn : n.toNatClampNeg = n.toInt.toNat := rfl
      generalize hm : n.toNatClampNeg = m at *
      subst en
      have f := stFill_at (hi := hi) (a := sR (nI j)) (m := m) (w := 0)
      simp only [sR, hjc] at f ⊢
      try dsimp only
      refine ⟨rfl, R.row (j := j) (by omega) (fun c a b _ => f.2 c a b) (R.2.1.eq (f.2 2 (by omega) (by omega)) (f.2 60 (by omega) (by omega)) ?_ ?_) (fun r hr => ?_) (fun x hx => ?_) (Or.inr ⟨m, by omega, ?_, ?_, fun i hi9 => ?_⟩) (fun k hk => ?_) (fun c hc => ?_) (fun c c1 c2 i hi9 => ?_), fun c hc => f.2 c (by omega) (by omega)⟩
      · rw [va_up_ne _ _ (by decide), va_up_ne _ _ (by decide)]
      · rw [va_up_ne _ _ (by decide), va_up_ne _ _ (by decide)]
      · rw [va_up_ne _ _ (by decide), va_up_self, pk_un hr]
      · rw [va_up_self]; exact if_neg hx
      · rw [f.1.1, pk_us]
      · rw [va_up_ne _ _ (by decide), va_up_self, pk_us]
      · rw [f.1.2, va_up_self]
        dsimp only
        rw [if_pos hi9, if_pos (by omega)]
      · rw [va_up_ne _ _ (by decide), va_up_ne _ _ (by decide)]
      · rw [va_up_ne _ _ (by omega), va_up_ne _ _ (by omega)]
      · rw [va_up_ne _ _ (by omega), va_up_ne _ _ (by omega)]
    · rw [if_neg h2, if_neg h2]; exact ⟨rfl, R.ref, fun c hc => kRef_c (by omega)⟩
theorem op_text {r n : Int32} (R : RR hi u nb ns) : opOk hi nb ns (cText hi r n).1 (uText u r n).1 (cText hi r n).2 (uText u r n).2 := by
  unfold cText uText
  rw [wU3]
  by_cases h1 : uIn r 0 3 = false ∨ ¬ n ≤ 80
  · rw [if_pos h1, if_pos h1]; exact ⟨rfl, R, fun _ _ => rfl⟩
  · rw [if_neg h1, if_neg h1]
    by_cases h2 : 0 ≤ n
    · rw [if_pos h2, if_pos h2]
      obtain ⟨j, hj, rfl⟩ := uIn_ex 3 (tru (fun w => h1 (Or.inl w)))
      have hjc : (nI j).toNatClampNeg = j := nI_clamp (by omega)
      have h4 : n ≤ 80 := Decidable.byContradiction (fun w => h1 (Or.inr w))
      rw [Int32.le_iff_toInt_le] at h2 h4
      have z0 : (0 : Int32).toInt = 0 := by decide
      have z40 : (80 : Int32).toInt = 80 := by decide
      rw [z0] at h2
      rw [z40] at h4
      have en : n = nI n.toNatClampNeg := z_of h2
      have wn : n.toNatClampNeg = n.toInt.toNat := rfl
      generalize hm : n.toNatClampNeg = m at *
      subst en
      have f := stFill_at (hi := hi) (a := sT (nI j)) (m := m) (w := 32)
      simp only [sT, hjc] at f ⊢
      try dsimp only
      refine ⟨rfl, R.txt (j := j) (by omega) (fun c a b _ => f.2 c a b) (R.2.1.eq (f.2 2 (by omega) (by omega)) (f.2 60 (by omega) (by omega)) ?_ ?_) (fun r hr => ?_) (fun x hx => ?_) (Or.inr ⟨m, by omega, ?_, ?_, fun i hi9 => ?_⟩) (fun k hk => ?_) (fun c hc => ?_) (fun c c1 c2 i hi9 => ?_), fun c hc => f.2 c (by omega) (by omega)⟩
      · rw [va_up_ne _ _ (by decide), va_up_ne _ _ (by decide)]
      · rw [va_up_ne _ _ (by decide), va_up_ne _ _ (by decide)]
      · rw [va_up_ne _ _ (by decide), va_up_self, pk_un hr]
      · rw [va_up_self]; exact if_neg hx
      · rw [f.1.1, pk_us]
      · rw [va_up_ne _ _ (by decide), va_up_self, pk_us]
      · rw [f.1.2, va_up_self]
        dsimp only
        rw [if_pos hi9, if_pos (by omega)]
      · rw [va_up_ne _ _ (by decide), va_up_ne _ _ (by decide)]
      · rw [va_up_ne _ _ (by omega), va_up_ne _ _ (by omega)]
      · rw [va_up_ne _ _ (by omega), va_up_ne _ _ (by omega)]
    · rw [if_neg h2, if_neg h2]; exact ⟨rfl, R.ref, fun c hc => kRef_c (by omega)⟩
theorem cMiss_ms {s : Nat} {i : Int32} (h : hi s 1 = -1) : cMiss hi s i = 1 := if_pos h
theorem nI_ne1 {m : Nat} (h : m < 2 ^ 31) : ¬ nI m = -1 := fun w => by
  have h1 : (nI m).toInt = (-1 : Int32).toInt := by rw [w]
  rw [nI_toInt h] at h1
  have : (-1 : Int32).toInt = -1 := by decide
  omega
theorem cMiss_at {s m : Nat} {i : Int32} (h : hi s 1 = nI m) (hm : m ≤ 80) : cMiss hi s i = if uIn i 0 (nI m - 1) then 0 else 2 := by
  unfold cMiss
  rw [h, if_neg (nI_ne1 (by omega)), wUm hm]
theorem stGet_at {s m x : Nat} (h : hi s 1 = nI m) (hx : x < m) (hm : m ≤ 80) : stGet (cm_sf hi s) (nI x) = hi (s + 1) x := by
  have e : isW (nI x) (cm_sf hi s 0 1) = true := by
    rw [show cm_sf hi s 0 1 = nI m from h, isW_z, nI_toInt (by omega), nI_toInt (by omega)]
    omega
  unfold stGet
  rw [if_pos e, nI_clamp (by omega)]
  rfl
theorem op_at {r i : Int32} (R : RR hi u nb ns) : opOk hi nb ns (cAt hi r i).1 (uAt u r i).1 (cAt hi r i).2 (uAt u r i).2 := by
  unfold cAt
  rw [wU5]
  by_cases h1 : uIn r 0 5 = false
  · rw [if_pos h1, uAt_no h1]; exact ⟨rfl, R, fun _ _ => rfl⟩
  · rw [if_neg h1]
    obtain ⟨j, hj, rfl⟩ := uIn_ex 5 (tru h1)
    have hjc : (nI j).toNatClampNeg = j := nI_clamp (by omega)
    simp only [sR, hjc]
    rcases R.1.1 j (by omega) with ⟨w1, w2⟩ | ⟨m, hm, w1, w2, w3⟩
    · rw [cMiss_ms w1, if_neg (by decide), uAt_ms (by omega) w2]
      exact ⟨rfl, R.ref, fun c hc => kRef_c (by omega)⟩
    · rw [cMiss_at w1 (by omega)]
      by_cases h3 : uIn i 0 (nI m - 1) = false
      · rw [if_neg (by rw [h3]; decide), if_neg (by rw [h3]; decide), uAt_out (by omega) hm w2 h3]
        exact ⟨rfl, R.ref, fun c hc => kRef_c (by omega)⟩
      · rw [if_pos (tru h3), if_pos rfl]
        obtain ⟨x, hx, rfl⟩ := uIn_ix (tru h3) (by omega)
        rw [stGet_at w1 hx (by omega), uAt_in (by omega) hm w2 hx, w3 x hx]
        exact ⟨rfl, R.tell, fun c hc => kTell_c (by omega)⟩
theorem op_lay {r i w : Int32} (R : RR hi u nb ns) : opOk hi nb ns (cLay hi r i w).1 (uLay u r i w).1 (cLay hi r i w).2 (uLay u r i w).2 := by
  unfold cLay uLay
  rw [wU5]
  by_cases h1 : uIn r 0 5 = false
  · rw [if_pos h1, uAt_no h1, if_neg (show ¬ (0 : Int32) ≤ -1 by decide)]; exact ⟨rfl, R, fun _ _ => rfl⟩
  · rw [if_neg h1]
    obtain ⟨j, hj, rfl⟩ := uIn_ex 5 (tru h1)
    have hjc : (nI j).toNatClampNeg = j := nI_clamp (by omega)
    simp only [sR, hjc]
    rcases R.1.1 j (by omega) with ⟨w1, w2⟩ | ⟨m, hm, w1, w2, w3⟩
    · rw [cMiss_ms w1, if_neg (by decide), uAt_ms (by omega) w2, if_neg (show ¬ (0 : Int32) ≤ -3 by decide)]
      exact ⟨rfl, R.ref, fun c hc => kRef_c (by omega)⟩
    · rw [cMiss_at w1 (by omega)]
      by_cases h3 : uIn i 0 (nI m - 1) = false
      · rw [if_neg (by rw [h3]; decide), if_neg (by rw [h3]; decide), uAt_out (by omega) hm w2 h3, if_neg (show ¬ (0 : Int32) ≤ -3 by decide)]
        exact ⟨rfl, R.ref, fun c hc => kRef_c (by omega)⟩
      · rw [if_pos (tru h3), if_pos rfl]
        obtain ⟨x, hx, rfl⟩ := uIn_ix (tru h3) (by omega)
        have hxc : (nI x).toNatClampNeg = x := nI_clamp (by omega)
        rw [stGet_at w1 hx (by omega), uAt_in (by omega) hm w2 hx, if_pos (show (0 : Int32) ≤ 1 by decide), hxc, w3 x hx]
        have f := stPut_at (hi := hi) (w := w) w1 hx (by omega)
        generalize cm_us hi (61 + 2 * j) (stPut (cm_sf hi (61 + 2 * j)) (nI x) w) = G at f ⊢
        have g3 : R3 (kTell G (u 3 (40 * j + x))) (uAsk u (u 3 (40 * j + x))) := R.2.1.tell (v := u) (by unfold kTell cUps; rw [va_up_self, f.2 2 (by omega) (by omega)]) (by rw [kTell_c (by decide), f.2 60 (by omega) (by omega)]) rfl rfl
        have e9 : uAsk u (u 3 (40 * j + x)) 3 = u 3 := va_up_ne _ _ (by decide)
        try dsimp only
        refine ⟨rfl, R.row (j := j) (by omega) (fun c a b hc => by rw [kTell_c (by omega), f.2 c a b]) ⟨g3.1, g3.2.1, g3.2.2⟩ (fun r hr => ?_) (fun y hy => ?_) (Or.inr ⟨m, hm, ?_, ?_, fun i hi9 => ?_⟩) (fun k hk => ?_) (fun c hc => ?_) (fun c c1 c2 i hi9 => ?_), fun c hc => by rw [kTell_c (by omega), f.2 c (by omega) (by omega)]⟩
        · rw [va_up_ne _ _ (by decide)]; unfold uAsk; rw [va_up_ne _ _ (by decide)]
        · rw [va_up_self, e9, pk_un (by omega)]
        · rw [kTell_c (by omega), f.1.1]; exact w1
        · rw [va_up_ne _ _ (by decide)]; unfold uAsk; rw [va_up_ne _ _ (by decide)]; exact w2
        · rw [kTell_c (by omega), f.1.2, va_up_self, e9]
          unfold upd
          dsimp only
          by_cases q : i = x
          · rw [if_pos q, if_pos (by omega)]
          · rw [if_neg q, if_neg (by omega)]; exact w3 i hi9
        · rw [va_up_ne _ _ (by decide)]; unfold uAsk; rw [va_up_self, pk_un (by omega)]
        · rw [va_up_ne _ _ (by omega)]; unfold uAsk; rw [va_up_ne _ _ (by omega)]
        · rw [va_up_ne _ _ (by omega)]; unfold uAsk; rw [va_up_ne _ _ (by omega)]
theorem op_tear {r : Int32} (R : RR hi u nb ns) : opOk hi nb ns (cTear hi r).1 (uTear u r).1 (cTear hi r).2 (uTear u r).2 := by
  unfold cTear uTear
  rw [wU5]
  by_cases h1 : uIn r 0 5 = false
  · rw [if_pos h1, uAR_no h1, if_neg (show ¬ (0 : Int32) ≤ -1 by decide)]; exact ⟨rfl, R, fun _ _ => rfl⟩
  · rw [if_neg h1]
    obtain ⟨j, hj, rfl⟩ := uIn_ex 5 (tru h1)
    have hjc : (nI j).toNatClampNeg = j := nI_clamp (by omega)
    simp only [sR, hjc]
    rcases R.1.1 j (by omega) with ⟨w1, w2⟩ | ⟨m, hm, w1, w2, w3⟩
    · rw [if_pos w1, uAR_ms (by omega) w2, if_neg (show ¬ (0 : Int32) ≤ -3 by decide)]
      exact ⟨rfl, R.ref, fun c hc => kRef_c (by omega)⟩
    · rw [w1, if_neg (nI_ne1 (by omega)), uAR_ok (by omega) hm w2, if_pos (show (0 : Int32) ≤ 0 by decide)]
      have f := us_st (hi := hi) (a := 61 + 2 * j) (g := stDel (cm_sf hi (61 + 2 * j))) (fun c hc => by unfold stDel; rw [va_up_ne _ _ (by omega)]; rfl)
      generalize cm_us hi (61 + 2 * j) (stDel (cm_sf hi (61 + 2 * j))) = G at f ⊢
      try dsimp only
      refine ⟨rfl, R.row (j := j) (by omega) (fun c a b hc => f.2 c a b) (R.2.1.eq (f.2 2 (by omega) (by omega)) (f.2 60 (by omega) (by omega)) (va_up_ne _ _ (by decide)) (va_up_ne _ _ (by decide))) (fun r hr => ?_) (fun y hy => ?_) (Or.inl ⟨?_, ?_⟩) (fun k hk => ?_) (fun c hc => ?_) (fun c c1 c2 i hi9 => ?_), fun c hc => f.2 c (by omega) (by omega)⟩
      · rw [va_up_self, pk_un hr]
      · rw [va_up_ne _ _ (by decide)]
      · rw [f.1.1]; unfold stDel; rw [va_up_self, pk_us]
      · rw [va_up_self, pk_us]
      · rw [va_up_ne _ _ (by decide)]
      · rw [va_up_ne _ _ (by omega)]
      · rw [va_up_ne _ _ (by omega)]
theorem op_put {t i w : Int32} (R : RR hi u nb ns) : opOk hi nb ns (cPut hi t i w).1 (uPut u t i w).1 (cPut hi t i w).2 (uPut u t i w).2 := by
  unfold cPut uPut
  rw [wU3]
  by_cases h1 : uIn t 0 3 = false
  · rw [if_pos h1, uAT_no h1, if_neg (show ¬ (0 : Int32) ≤ -1 by decide)]; exact ⟨rfl, R, fun _ _ => rfl⟩
  · rw [if_neg h1]
    obtain ⟨j, hj, rfl⟩ := uIn_ex 3 (tru h1)
    have hjc : (nI j).toNatClampNeg = j := nI_clamp (by omega)
    simp only [sT, hjc]
    rcases R.1.2 j (by omega) with ⟨w1, w2⟩ | ⟨m, hm, w1, w2, w3⟩
    · rw [cMiss_ms w1, if_neg (by decide), uAT_ms (by omega) w2, if_neg (show ¬ (0 : Int32) ≤ -3 by decide)]
      exact ⟨rfl, R.ref, fun c hc => kRef_c (by omega)⟩
    · rw [cMiss_at w1 hm, uAT_ok (by omega) hm w2, if_pos (show (0 : Int32) ≤ 0 by decide), w2]
      by_cases h3 : uIn i 0 (nI m - 1) = false
      · rw [if_neg (by rw [h3]; decide), if_neg (by rw [h3]; decide), if_neg (by rw [h3]; decide)]
        exact ⟨rfl, R.ref, fun c hc => kRef_c (by omega)⟩
      · rw [if_pos (tru h3), if_pos rfl, if_pos (tru h3)]
        obtain ⟨x, hx, rfl⟩ := uIn_ix (tru h3) (by omega)
        have hxc : (nI x).toNatClampNeg = x := nI_clamp (by omega)
        rw [stGet_at w1 hx hm, hxc, w3 x hx]
        have f := stPut_at (hi := hi) (w := w.toInt8.toInt32) w1 hx hm
        generalize cm_us hi (73 + 2 * j) (stPut (cm_sf hi (73 + 2 * j)) (nI x) w.toInt8.toInt32) = G at f ⊢
        try dsimp only
        refine ⟨Int32.add_comm _ _, R.txt (j := j) (by omega) (fun c a b hc => f.2 c a b) (R.2.1.eq (f.2 2 (by omega) (by omega)) (f.2 60 (by omega) (by omega)) (va_up_ne _ _ (by decide)) (va_up_ne _ _ (by decide))) (fun r hr => ?_) (fun y hy => ?_) (Or.inr ⟨m, hm, ?_, ?_, fun i hi9 => ?_⟩) (fun k hk => ?_) (fun c hc => ?_) (fun c c1 c2 i hi9 => ?_), fun c hc => f.2 c (by omega) (by omega)⟩
        · rw [va_up_ne _ _ (by decide)]
        · rw [va_up_self, pk_un (by omega)]
        · rw [f.1.1]; exact w1
        · rw [va_up_ne _ _ (by decide)]; exact w2
        · rw [f.1.2, va_up_self]
          unfold upd
          dsimp only
          by_cases q : i = x
          · rw [if_pos q, if_pos (by omega)]
          · rw [if_neg q, if_neg (by omega)]; exact w3 i hi9
        · rw [va_up_ne _ _ (by decide)]
        · rw [va_up_ne _ _ (by omega)]
        · rw [va_up_ne _ _ (by omega)]
theorem sum_eq {p f : Nat → Int32} {b : Nat} : ∀ m, (∀ i, i < m → p i = f (b + i)) → stSum p m = uSum f b m
  | 0, _ => rfl
  | m + 1, h => by
    unfold stSum uSum
    rw [sum_eq m (fun i hi9 => h i (by omega)), h m (by omega)]
theorem op_mean {r : Int32} (R : RR hi u nb ns) : opOk hi nb ns (cMean hi r).1 (uMean u r).1 (cMean hi r).2 (uMean u r).2 := by
  unfold cMean uMean
  rw [wU5]
  by_cases h1 : uIn r 0 5 = false
  · rw [if_pos h1, uAR_no h1, if_neg (show ¬ (0 : Int32) ≤ -1 by decide)]; exact ⟨rfl, R, fun _ _ => rfl⟩
  · rw [if_neg h1]
    obtain ⟨j, hj, rfl⟩ := uIn_ex 5 (tru h1)
    have hjc : (nI j).toNatClampNeg = j := nI_clamp (by omega)
    simp only [sR, hjc]
    rcases R.1.1 j (by omega) with ⟨w1, w2⟩ | ⟨m, hm, w1, w2, w3⟩
    · rw [w1, if_neg (show ¬ (0 : Int32) ≤ -1 by decide), uAR_ms (by omega) w2, if_neg (show ¬ (0 : Int32) ≤ -3 by decide)]
      exact ⟨rfl, R.ref, fun c hc => kRef_c (by omega)⟩
    · rw [w1, if_pos (nI_nn m (by omega)), uAR_ok (by omega) hm w2, if_pos (show (0 : Int32) ≤ 0 by decide), w2]
      by_cases h3 : nI m = 0
      · rw [if_pos h3, if_pos h3]
        exact ⟨rfl, R.ref, fun c hc => kRef_c (by omega)⟩
      · rw [if_neg h3, if_neg h3, nI_clamp (by omega), sum_eq (f := u 3) (b := 40 * j) m (fun i hi9 => w3 i hi9)]
        exact ⟨rfl, R.tell, fun c hc => kTell_c (by omega)⟩
theorem isU_zz {v m : Int32} : isU v m = true ↔ 0 ≤ v.toInt ∧ v.toInt ≤ m.toInt := by
  have z0 : (0 : Int32).toInt = 0 := by decide
  unfold isU
  simp only [Bool.and_eq_true, Bool.not_eq_true', decide_eq_false_iff_not, Int32.lt_iff_toInt_lt, z0]
  omega
theorem cPart_at {s m x n : Nat} (h : hi s 1 = nI m) (hm : m ≤ 80) (hx : x < 2 ^ 31) (hn : n < 2 ^ 31) : cPart hi s (nI x) (nI n) = true ↔ x + n ≤ m := by
  unfold cPart
  rw [h, Bool.and_eq_true, isU_zz, isU_zz, nI_toInt hx, nI_toInt hn, nI_toInt (by omega)]
  by_cases q : x ≤ m
  · rw [zsub (by rw [nI_toInt (by omega), nI_toInt hx]; omega), nI_toInt (by omega), nI_toInt hx]
    omega
  · omega
theorem cPart_neg {s : Nat} {i n : Int32} (h : ¬ 0 ≤ i) : cPart hi s i n = false := by
  unfold cPart
  have : isU i (hi s 1) = false := by
    cases hq : isU i (hi s 1) with
    | false => rfl
    | true =>
      have := (isU_zz.mp hq).1
      have z0 : (0 : Int32).toInt = 0 := by decide
      rw [Int32.le_iff_toInt_le, z0] at h
      exact absurd this h
  rw [this, Bool.false_and]
theorem nn_ex {i : Int32} (h : 0 ≤ i) : ∃ x, x < 2 ^ 31 ∧ i = nI x := by
  have z0 : (0 : Int32).toInt = 0 := by decide
  rw [Int32.le_iff_toInt_le, z0] at h
  have h2 := i.toInt_lt
  exact ⟨i.toInt.toNat, by omega, z_of h⟩
theorem op_copy {r i to j n : Int32} {o : Int32 × cm_g2} (R : RR hi u nb ns) (ho : uCopy u r i to j n o) : opOk hi nb ns (cCopy hi r i to j n).1 o.1 (cCopy hi r i to j n).2 o.2 := by
  unfold uCopy at ho
  unfold cCopy
  rw [wU5, wU5]
  by_cases h1 : uIn r 0 5 = false ∨ uIn to 0 5 = false
  · rw [if_pos h1] at ho; subst ho; rw [if_pos h1]; exact ⟨rfl, R, fun _ _ => rfl⟩
  · rw [if_neg h1] at ho
    rw [if_neg h1]
    by_cases h2 : 0 ≤ n
    · rw [if_pos h2] at ho
      rw [if_pos h2]
      obtain ⟨a, ha, rfl⟩ := uIn_ex 5 (tru (fun w => h1 (Or.inl w)))
      obtain ⟨b, hb, rfl⟩ := uIn_ex 5 (tru (fun w => h1 (Or.inr w)))
      have hac : (nI a).toNatClampNeg = a := nI_clamp (by omega)
      have hbc : (nI b).toNatClampNeg = b := nI_clamp (by omega)
      simp only [sR, hac, hbc] at ho ⊢
      obtain ⟨c, hc, rfl⟩ := nn_ex h2
      have hcc : (nI c).toNatClampNeg = c := nI_clamp hc
      rcases R.1.1 a (by omega) with ⟨w1, w2⟩ | ⟨m, hm, w1, w2, w3⟩
      · rw [if_neg (fun w => absurd w.1 (by rw [w2]; decide))] at ho
        subst ho
        rw [if_pos (Or.inl w1)]
        exact ⟨rfl, R.ref, fun c hc => kRef_c (by omega)⟩
      · rcases R.1.1 b (by omega) with ⟨y1, y2⟩ | ⟨p, hp, y1, y2, y3⟩
        · rw [if_neg (fun w => absurd w.2 (by rw [y2]; decide))] at ho
          subst ho
          rw [if_pos (Or.inr y1)]
          exact ⟨rfl, R.ref, fun c hc => kRef_c (by omega)⟩
        · rw [if_pos ⟨by rw [w2]; exact nI_nn m (by omega), by rw [y2]; exact nI_nn p (by omega)⟩, w2, y2] at ho
          rw [if_neg (fun w => w.elim (fun w => nI_ne1 (m := m) (by omega) (by rw [← w1]; exact w)) (fun w => nI_ne1 (m := p) (by omega) (by rw [← y1]; exact w)))]
          by_cases hi0 : 0 ≤ i
          · by_cases hj0 : 0 ≤ j
            · obtain ⟨x, hx, rfl⟩ := nn_ex hi0
              obtain ⟨y, hy, rfl⟩ := nn_ex hj0
              have hxc : (nI x).toNatClampNeg = x := nI_clamp hx
              have hyc : (nI y).toNatClampNeg = y := nI_clamp hy
              by_cases hq : x + c ≤ m ∧ y + c ≤ p
              · rw [if_pos ⟨hi0, hj0, (l64le hx hc (by omega)).mpr hq.1, (l64le hy hc (by omega)).mpr hq.2⟩] at ho
                obtain ⟨f, rfl⟩ := ho
                rw [if_neg (fun w => w.elim (fun w => by rw [(cPart_at w1 (by omega) hx hc).mpr hq.1] at w; cases w) (fun w => by rw [(cPart_at y1 (by omega) hy hc).mpr hq.2] at w; cases w)), hxc, hyc, hcc]
                dsimp only
                refine ⟨rfl, R.row (j := b) (by omega) (fun k e1 e2 hk => va_up_ne _ _ e2) (R.2.1.eq (va_up_ne _ _ (by omega)) (va_up_ne _ _ (by omega)) ?_ ?_) (fun r hr => ?_) (fun z hz => ?_) (Or.inr ⟨p, hp, ?_, ?_, fun z hz => ?_⟩) (fun k hk => ?_) (fun k hk => ?_) (fun k k1 k2 z hz => ?_), fun k hk => va_up_ne _ _ (by omega)⟩
                · rw [va_up_ne _ _ (by decide), va_up_ne _ _ (by decide)]
                · rw [va_up_ne _ _ (by decide), va_up_ne _ _ (by decide)]
                · rw [va_up_ne _ _ (by decide), va_up_ne _ _ (by decide)]
                · rw [va_up_self]
                  exact if_neg (by omega)
                · rw [va_up_ne _ _ (by omega)]; exact y1
                · rw [va_up_ne _ _ (by decide), va_up_ne _ _ (by decide)]; exact y2
                · rw [va_up_self, va_up_self]
                  dsimp only
                  by_cases q : y ≤ z ∧ z < y + c
                  · rw [if_pos q, if_pos (by omega), w3 _ (by omega)]
                    dsimp only
                    congr 1
                    omega
                  · rw [if_neg q, if_neg (by omega)]
                    exact y3 z hz
                · rw [va_up_ne _ _ (by decide), va_up_ne _ _ (by decide)]
                · rw [va_up_ne _ _ (by omega), va_up_ne _ _ (by omega)]
                · rw [va_up_ne _ _ (by omega), va_up_ne _ _ (by omega)]
              · rw [if_neg (fun w => hq ⟨(l64le hx hc (by omega)).mp w.2.2.1, (l64le hy hc (by omega)).mp w.2.2.2⟩)] at ho
                subst ho
                have hcp : cPart hi (61 + 2 * a) (nI x) (nI c) = false ∨ cPart hi (61 + 2 * b) (nI y) (nI c) = false := by
                  cases q1 : cPart hi (61 + 2 * a) (nI x) (nI c) with
                  | false => exact Or.inl rfl
                  | true =>
                    cases q2 : cPart hi (61 + 2 * b) (nI y) (nI c) with
                    | false => exact Or.inr rfl
                    | true => exact absurd ⟨(cPart_at w1 (by omega) hx hc).mp q1, (cPart_at y1 (by omega) hy hc).mp q2⟩ hq
                rw [if_pos hcp]
                exact ⟨rfl, R.ref, fun c hc => kRef_c (by omega)⟩
            · rw [if_neg (fun w => hj0 w.2.1)] at ho
              subst ho
              rw [if_pos (Or.inr (cPart_neg hj0))]
              exact ⟨rfl, R.ref, fun c hc => kRef_c (by omega)⟩
          · rw [if_neg (fun w => hi0 w.1)] at ho
            subst ho
            rw [if_pos (Or.inl (cPart_neg hi0))]
            exact ⟨rfl, R.ref, fun c hc => kRef_c (by omega)⟩
    · rw [if_neg h2] at ho
      subst ho
      rw [if_neg h2]
      exact ⟨rfl, R.ref, fun c hc => kRef_c (by omega)⟩
end OP1
