/-! PART rel: both memories the same -/
def stR (z0 : Int32) (p : Nat → Int32) (z : Int32) (f : Nat → Int32) (N : Nat) : Prop := (z0 = -1 ∧ z = -9) ∨ ∃ m, m ≤ N ∧ z0 = nI m ∧ z = nI m ∧ ∀ i, i < m → p i = f i
def R1 (hi u : cm_g2) : Prop := ∀ r, r < 6 → stR (hi (61 + 2 * r) 1) (hi (61 + 2 * r + 1)) (u 2 r) (fun i => u 3 (40 * r + i)) 40
def R2 (hi u : cm_g2) : Prop := ∀ t, t < 4 → stR (hi (73 + 2 * t) 1) (hi (73 + 2 * t + 1)) (u 5 t) (fun i => u 6 (80 * t + i)) 80
def R3 (hi u : cm_g2) : Prop := hi 2 9 = u 0 0 ∧ hi 2 10 = u 0 2 ∧ ∀ f, f < 6 → hi 60 f = u 1 f
/-- what was paid, what PRICES are: within bounds -/
def pdOk (g : cm_g2) (nb ns : Nat) : Prop := (∀ i, i < nb → 0 ≤ (g 8 i).toInt ∧ (g 8 i).toInt ≤ 99 * (g 0 1).toInt) ∧ ∀ k, k < ns → 0 ≤ (g 3 k).toInt ∧ (g 3 k).toInt ≤ 99
def hR (a b : Nat → Int32) (nb ns m : Nat) : Prop := (∀ i, i < nb → a i = b i ∧ a (6 + i) = b (6 + i) ∧ a (12 + i) = b (12 + i) ∧ (0 ≤ (a i).toInt ∧ (a i).toInt < 20) ∧ (0 ≤ (a (6 + i)).toInt ∧ (a (6 + i)).toInt < 5) ∧ (0 ≤ (a (12 + i)).toInt ∧ (a (12 + i)).toInt ≤ 99 * m)) ∧ (∀ k, k < ns → a (18 + k) = b (18 + k)) ∧ ∀ i, i + 1 < nb → (a i).toInt < (a (i + 1)).toInt
def R4 (hi u : cm_g2) (nb ns : Nat) : Prop := mR (cP hi) u nb ns 60 ∧ pdOk (cP hi) nb ns
def R5 (hi u : cm_g2) (nb ns : Nat) : Prop := hi 17 1 = u 0 20 ∧ 0 ≤ (hi 17 1).toInt ∧ (hi 17 1).toInt ≤ (hi 5 1).toInt ∧ ∀ m : Nat, (hi 17 1).toInt ≤ m → (m : Int) < (hi 5 1).toInt → hR (fun y => hi 18 (24 * m + y)) (fun y => u 15 (24 * m + y)) nb ns m
def R6 (hi u : cm_g2) (nb ns : Nat) : Prop := ∀ k, k < 3 → (hi (81 + 11 * k) 3 = 0 ∧ u 16 (32 * k) = -9) ∨ (0 < nb ∧ mR (cm_sf hi (81 + 11 * k)) (uLd u k) nb ns 60 ∧ pdOk (cm_sf hi (81 + 11 * k)) nb ns)
def RR (hi u : cm_g2) (nb ns : Nat) : Prop := (R1 hi u ∧ R2 hi u) ∧ R3 hi u ∧ R4 hi u nb ns ∧ R5 hi u nb ns ∧ R6 hi u nb ns
/-- as uEq, but for what was told and found -/
def uEs (u v : cm_g2) : Prop := (∀ j, j = 8 ∨ j = 9 ∨ j = 10 ∨ j = 19 ∨ j = 20 → v 0 j = u 0 j) ∧ (∀ c, c = 2 ∨ c = 3 ∨ c = 5 ∨ c = 6 ∨ c = 15 ∨ c = 16 → v c = u c) ∧ ∀ c, 7 ≤ c → c ≤ 14 → ∀ i, i < 6 → v c i = u c i
theorem uEq.es {u v : cm_g2} (e : uEq u v) : uEs u v := ⟨fun j hj => e.1 j (by omega), fun c hc => e.2.1 c (by omega), e.2.2⟩
theorem uEs.refl {u : cm_g2} : uEs u u := uEq.refl.es
theorem uEs.trans {u v w : cm_g2} (h : uEs u v) (k : uEs v w) : uEs u w := ⟨fun j hj => (k.1 j hj).trans (h.1 j hj), fun c hc => (k.2.1 c hc).trans (h.2.1 c hc), fun c h1 h2 i hi => (k.2.2 c h1 h2 i hi).trans (h.2.2 c h1 h2 i hi)⟩
theorem uEs.ask {u v : cm_g2} {x : Int32} (h : uEs u v) : uEs u (uAsk v x) := h.trans ⟨fun j hj => by unfold uAsk; rw [va_up_self, pk_un (by omega)], fun c hc => by unfold uAsk; rw [va_up_ne _ _ (by omega)], fun c h1 h2 i hi => by unfold uAsk; rw [va_up_ne _ _ (by omega)]⟩
theorem uEs.meet {u v : cm_g2} {f : Nat} (h : uEs u v) : uEs u (uMeet v f) := h.trans ⟨fun j hj => by unfold uMeet; rw [va_up_ne _ _ (by decide), va_up_self, pk_un (by omega)], fun c hc => by unfold uMeet; rw [va_up_ne _ _ (by omega), va_up_ne _ _ (by omega)], fun c h1 h2 i hi => by unfold uMeet; rw [va_up_ne _ _ (by omega), va_up_ne _ _ (by omega)]⟩
/-- what mR reads of the reference -/
def uEm (u v : cm_g2) : Prop := (∀ j, j = 8 ∨ j = 9 ∨ j = 10 ∨ j = 19 → v 0 j = u 0 j) ∧ ∀ c, 7 ≤ c → c ≤ 14 → ∀ i, i < 6 → v c i = u c i
theorem mR.cgm {g g' u u' : cm_g2} {nb ns B : Nat} (h : mR g u nb ns B) (e : mEq g' g) (f : uEm u u') : mR g' u' nb ns B := by
  have h2 := h.cg e (u' := fun c => if c = 0 then (fun j => if j = 8 ∨ j = 9 ∨ j = 10 ∨ j = 19 then u' 0 j else u 0 j) else if 7 ≤ c ∧ c ≤ 14 then u' c else u c) ⟨fun j hj => by
      show (if j = 8 ∨ j = 9 ∨ j = 10 ∨ j = 19 then u' 0 j else u 0 j) = u 0 j
      split
      · next q => exact f.1 j q
      · rfl, fun c hc => by
      show (if c = 0 then _ else if 7 ≤ c ∧ c ≤ 14 then u' c else u c) = u c
      rw [if_neg (by omega), if_neg (by omega)], fun c h1 h2 i hi => by
      show (if c = 0 then _ else if 7 ≤ c ∧ c ≤ 14 then u' c else u c) i = u c i
      rw [if_neg (by omega), if_pos ⟨h1, h2⟩]; exact f.2 c h1 h2 i hi⟩
  exact h2
theorem mEq.refl {g : cm_g2} : mEq g g := ⟨fun _ _ => rfl, fun _ _ _ _ _ => rfl, fun _ _ => rfl⟩
theorem mEq.symm {g g' : cm_g2} (h : mEq g g') : mEq g' g := ⟨fun j hj => (h.1 j hj).symm, fun c h1 h2 i hi => (h.2.1 c h1 h2 i hi).symm, fun i hi => (h.2.2 i hi).symm⟩
theorem mEq.trans {g g' g'' : cm_g2} (h : mEq g g') (k : mEq g' g'') : mEq g g'' := ⟨fun j hj => (h.1 j hj).trans (k.1 j hj), fun c h1 h2 i hi => (h.2.1 c h1 h2 i hi).trans (k.2.1 c h1 h2 i hi), fun i hi => (h.2.2 i hi).trans (k.2.2 i hi)⟩
theorem pdOk.cg {g g' : cm_g2} {nb ns : Nat} (h : pdOk g nb ns) (e : mEq g' g) (hb : nb ≤ 6) (hs : ns ≤ 6) : pdOk g' nb ns := ⟨fun i hi => by rw [e.2.1 8 (by decide) (by decide) i (by omega), e.1 1 (by decide)]; exact h.1 i hi, fun k hk => by rw [e.2.1 3 (by decide) (by decide) k (by omega)]; exact h.2 k hk⟩
theorem R1.fr {hi u H v : cm_g2} (h : R1 hi u) (e : ∀ c, 61 ≤ c → c ≤ 72 → H c = hi c) (e2 : v 2 = u 2) (e3 : v 3 = u 3) : R1 H v := fun r hr => by
  rw [e (61 + 2 * r) (by omega) (by omega), e (61 + 2 * r + 1) (by omega) (by omega), e2, e3]
  exact h r hr
theorem R2.fr {hi u H v : cm_g2} (h : R2 hi u) (e : ∀ c, 73 ≤ c → c ≤ 80 → H c = hi c) (e2 : v 5 = u 5) (e3 : v 6 = u 6) : R2 H v := fun r hr => by
  rw [e (73 + 2 * r) (by omega) (by omega), e (73 + 2 * r + 1) (by omega) (by omega), e2, e3]
  exact h r hr
theorem R4.fr {hi u H v : cm_g2} {nb ns : Nat} (h : R4 hi u nb ns) (e : mEq (cP H) (cP hi)) (f : uEm u v) : R4 H v nb ns := ⟨h.1.cgm e f, h.2.cg e h.1.1.1.2.1 h.1.1.1.2.2.2⟩
theorem R5.fr {hi u H v : cm_g2} {nb ns : Nat} (h : R5 hi u nb ns) (e1 : H 17 1 = hi 17 1) (e2 : H 5 1 = hi 5 1) (e3 : H 18 = hi 18) (f1 : v 0 20 = u 0 20) (f2 : v 15 = u 15) : R5 H v nb ns := by
  unfold R5
  rw [e1, e2, e3, f1, f2]
  exact h
theorem uLd_at {u : cm_g2} {k : Nat} : (∀ c, c ≠ 0 → c ≠ 8 → c ≠ 9 → c ≠ 10 → c ≠ 13 → c ≠ 14 → uLd u k c = u c) ∧ (∀ j, j ≠ 19 → j ≠ 20 → uLd u k 0 j = u 0 j) ∧ (uLd u k 0 19 = u 16 (32 * k) ∧ uLd u k 0 20 = u 16 (32 * k)) ∧ ∀ i, i < 6 → uLd u k 8 i = u 16 (32 * k + 1 + i) ∧ uLd u k 9 i = u 16 (32 * k + 1 + 6 + i) ∧ uLd u k 10 i = u 16 (32 * k + 1 + 12 + i) ∧ uLd u k 14 i = u 16 (32 * k + 1 + 18 + i) ∧ uLd u k 13 i = u 16 (32 * k + 25 + i) := by
  unfold uLd
  refine ⟨fun c h0 h8 h9 h10 h13 h14 => ?_, fun j h1 h2 => ?_, ⟨?_, ?_⟩, fun i hi => ?_⟩
  · rw [va_up_ne _ _ h13, uRd_c ⟨h8, h9, h10, h14⟩, va_up_ne _ _ h0]
  · rw [va_up_ne _ _ (by decide), uRd_c (by decide), va_up_self, pk_un h2, pk_un h1]
  · rw [va_up_ne _ _ (by decide), uRd_c (by decide), va_up_self, pk_un (by decide), pk_us]
  · rw [va_up_ne _ _ (by decide), uRd_c (by decide), va_up_self, pk_us]
  · have r8 := uRd_8 (u := va_up u 0 (upd (upd (u 0) 19 (u 16 (32 * k))) 20 (u 16 (32 * k)))) (cc := 16) (at_ := 32 * k + 1) hi
    rw [show va_up u 0 (upd (upd (u 0) 19 (u 16 (32 * k))) 20 (u 16 (32 * k))) 16 = u 16 from va_up_ne _ _ (by decide)] at r8
    refine ⟨by rw [va_up_ne _ _ (by decide)]; exact r8.1, by rw [va_up_ne _ _ (by decide)]; exact r8.2.1, by rw [va_up_ne _ _ (by decide)]; exact r8.2.2.1, by rw [va_up_ne _ _ (by decide)]; exact r8.2.2.2, by rw [va_up_self]; exact if_pos hi⟩
theorem uLd_em {u v : cm_g2} {k : Nat} (h0 : ∀ j, j = 8 ∨ j = 9 ∨ j = 10 → v 0 j = u 0 j) (h16 : v 16 = u 16) (hc : ∀ c, c = 7 ∨ c = 11 ∨ c = 12 → ∀ i, i < 6 → v c i = u c i) : uEm (uLd u k) (uLd v k) := by
  have a := uLd_at (u := u) (k := k)
  have b := uLd_at (u := v) (k := k)
  refine ⟨fun j hj => ?_, fun c h1 h2 i hi => ?_⟩
  · by_cases q : j = 19
    · subst q; rw [a.2.2.1.1, b.2.2.1.1, h16]
    · rw [a.2.1 j q (by omega), b.2.1 j q (by omega)]; exact h0 j (by omega)
  · have a4 := a.2.2.2 i hi
    have b4 := b.2.2.2 i hi
    by_cases q8 : c = 8
    · subst q8; rw [a4.1, b4.1, h16]
    · by_cases q9 : c = 9
      · subst q9; rw [a4.2.1, b4.2.1, h16]
      · by_cases q10 : c = 10
        · subst q10; rw [a4.2.2.1, b4.2.2.1, h16]
        · by_cases q14 : c = 14
          · subst q14; rw [a4.2.2.2.1, b4.2.2.2.1, h16]
          · by_cases q13 : c = 13
            · subst q13; rw [a4.2.2.2.2, b4.2.2.2.2, h16]
            · rw [a.1 c (by omega) q8 q9 q10 q13 q14, b.1 c (by omega) q8 q9 q10 q13 q14]
              exact hc c (by omega) i hi
theorem R6.fr {hi u H v : cm_g2} {nb ns : Nat} (h : R6 hi u nb ns) (e : ∀ c, 81 ≤ c → c ≤ 113 → H c = hi c) (h0 : ∀ j, j = 8 ∨ j = 9 ∨ j = 10 → v 0 j = u 0 j) (h16 : v 16 = u 16) (hc : ∀ c, c = 7 ∨ c = 11 ∨ c = 12 → ∀ i, i < 6 → v c i = u c i) : R6 H v nb ns := fun k hk => by
  have em : mEq (cm_sf H (81 + 11 * k)) (cm_sf hi (81 + 11 * k)) := by
    refine ⟨fun j _ => ?_, fun c h1 h2 i _ => ?_, fun i _ => ?_⟩
    · show H (81 + 11 * k + 0) j = hi (81 + 11 * k + 0) j
      rw [e _ (by omega) (by omega)]
    · show H (81 + 11 * k + c) i = hi (81 + 11 * k + c) i
      rw [e _ (by omega) (by omega)]
    · show H (81 + 11 * k + 10) i = hi (81 + 11 * k + 10) i
      rw [e _ (by omega) (by omega)]
  rw [e (81 + 11 * k) (by omega) (by omega), h16]
  rcases h k hk with w | ⟨w1, w2, w3⟩
  · exact Or.inl w
  · exact Or.inr ⟨w1, w2.cgm em (uLd_em h0 h16 hc), w3.cg em w2.1.1.2.1 w2.1.1.2.2.2⟩
/-- the cells that RR reads, but for what was told, found and the rows -/
def hEs (hi H : cm_g2) : Prop := (∀ c, (5 ≤ c ∧ c ≤ 15) ∨ c = 17 ∨ c = 18 ∨ (81 ≤ c ∧ c ≤ 113) → H c = hi c)
theorem hEs.m {hi H : cm_g2} (h : hEs hi H) : mEq (cP H) (cP hi) := by
  refine ⟨fun j _ => ?_, fun c h1 h2 i _ => ?_, fun i _ => ?_⟩
  · show H (5 + 0) j = hi (5 + 0) j
    rw [h _ (by omega)]
  · show H (5 + c) i = hi (5 + c) i
    rw [h _ (by omega)]
  · show H (5 + 10) i = hi (5 + 10) i
    rw [h _ (by omega)]
/-- a change of rows, texts, what is told -/
theorem RR.mk1 {hi u H v : cm_g2} {nb ns : Nat} (R : RR hi u nb ns) (r1 : R1 H v) (r2 : R2 H v) (r3 : R3 H v) (e : hEs hi H) (f0 : ∀ j, j = 8 ∨ j = 9 ∨ j = 10 ∨ j = 19 ∨ j = 20 → v 0 j = u 0 j) (fc : v 15 = u 15 ∧ v 16 = u 16) (f7 : ∀ c, 7 ≤ c → c ≤ 14 → ∀ i, i < 6 → v c i = u c i) : RR H v nb ns := by
  obtain ⟨-, -, h4, h5, h6⟩ := R
  exact ⟨⟨r1, r2⟩, r3, h4.fr e.m ⟨fun j hj => f0 j (by omega), f7⟩, h5.fr (by rw [e 17 (by omega)]) (by rw [e 5 (by omega)]) (e 18 (by omega)) (f0 20 (by omega)) fc.1, h6.fr (fun c h1 h2 => e c (by omega)) (fun j hj => f0 j (by omega)) fc.2 (fun c hc i hi9 => f7 c (by omega) (by omega) i hi9)⟩
/-- a change of what is told and found alone -/
theorem RR.mk3 {hi u H v : cm_g2} {nb ns : Nat} (R : RR hi u nb ns) (r3 : R3 H v) (e : ∀ c, (5 ≤ c ∧ c ≤ 15) ∨ c = 17 ∨ c = 18 ∨ (61 ≤ c ∧ c ≤ 113) → H c = hi c) (f : uEs u v) : RR H v nb ns := R.mk1 (R.1.1.fr (fun c h1 h2 => e c (by omega)) (f.2.1 2 (by decide)) (f.2.1 3 (by decide))) (R.1.2.fr (fun c h1 h2 => e c (by omega)) (f.2.1 5 (by decide)) (f.2.1 6 (by decide))) r3 (fun c hc => e c (by omega)) f.1 ⟨f.2.1 15 (by decide), f.2.1 16 (by decide)⟩ f.2.2
theorem R3.ref {hi u : cm_g2} {f : Nat} (h : R3 hi u) : R3 (kRef hi f) (uMeet u f) := by
  unfold kRef uMeet
  refine ⟨?_, ?_, fun g hg => ?_⟩
  · rw [va_up_ne _ _ (by decide), va_up_self, pk_us, va_up_ne _ _ (by decide), va_up_self, pk_us]
  · rw [va_up_ne _ _ (by decide), va_up_self, pk_un (by decide), va_up_ne _ _ (by decide), va_up_self, pk_un (by decide)]; exact h.2.1
  · rw [va_up_self, va_up_self]
    unfold upd
    by_cases q : g = f
    · rw [if_pos q, if_pos q, ← q, h.2.2 g hg]
    · rw [if_neg q, if_neg q]; exact h.2.2 g hg
theorem R3.tell {hi u H v : cm_g2} {x : Int32} (h : R3 hi u) (e2 : H 2 = cUps hi x) (e60 : H 60 = hi 60) (f0 : v 0 0 = u 0 0) (f1 : v 1 = u 1) : R3 H (uAsk v x) := by
  unfold uAsk
  refine ⟨?_, ?_, fun g hg => ?_⟩
  · rw [e2, va_up_self, pk_un (by decide), f0]
    show upd (hi 2) 10 x 9 = _
    rw [pk_un (by decide)]; exact h.1
  · rw [e2, va_up_self, pk_us]
    exact pk_us
  · rw [e60, va_up_ne _ _ (by decide), f1]; exact h.2.2 g hg
theorem kRef_c {hi : cm_g2} {f c : Nat} (h : c ≠ 2 ∧ c ≠ 60) : kRef hi f c = hi c := by
  unfold kRef
  rw [va_up_ne _ _ h.2, va_up_ne _ _ h.1]
theorem kTell_c {hi : cm_g2} {v : Int32} {c : Nat} (h : c ≠ 2) : kTell hi v c = hi c := va_up_ne _ _ h
theorem RR.ref {hi u : cm_g2} {nb ns f : Nat} (R : RR hi u nb ns) : RR (kRef hi f) (uMeet u f) nb ns := R.mk3 R.2.1.ref (fun c hc => kRef_c (by omega)) uEs.refl.meet
theorem RR.tell {hi u : cm_g2} {nb ns : Nat} {x : Int32} (R : RR hi u nb ns) : RR (kTell hi x) (uAsk u x) nb ns := R.mk3 (R.2.1.tell (x := x) (va_up_self _ _ _) (va_up_ne _ _ (by decide)) rfl rfl) (fun c hc => kTell_c (by omega)) uEs.refl.ask
/-- told behind a trial -/
theorem RR.aside {hi u H v : cm_g2} {nb ns : Nat} {x : Int32} (R : RR hi u nb ns) (e2 : H 2 = cUps hi x) (e : ∀ c, (5 ≤ c ∧ c ≤ 15) ∨ c = 17 ∨ c = 18 ∨ (60 ≤ c ∧ c ≤ 113) → H c = hi c) (f : uEq u v) : RR H (uAsk v x) nb ns := R.mk3 (R.2.1.tell (v := v) e2 (e 60 (by omega)) (f.1 0 (by decide)) (f.2.1 1 (by decide))) (fun c hc => e c (by omega)) f.es.ask
theorem RR.still {hi u H v : cm_g2} {nb ns : Nat} (R : RR hi u nb ns) (e : ∀ c, c = 2 ∨ (5 ≤ c ∧ c ≤ 15) ∨ c = 17 ∨ c = 18 ∨ (60 ≤ c ∧ c ≤ 113) → H c = hi c) (f : uEq u v) : RR H v nb ns := R.mk3 ⟨by rw [e 2 (by omega), f.1 0 (by decide)]; exact R.2.1.1, by rw [e 2 (by omega), f.1 2 (by decide)]; exact R.2.1.2.1, fun g hg => by rw [e 60 (by omega), f.2.1 1 (by decide)]; exact R.2.1.2.2 g hg⟩ (fun c hc => e c (by omega)) f.es
/-- what the walks ask for -/
theorem stR.sz {z0 z : Int32} {p f : Nat → Int32} {N : Nat} (h : stR z0 p z f N) : (z0 = -1 ∨ ∃ m, m ≤ N ∧ z0 = nI m) ∧ uSzOk z N := by
  rcases h with ⟨h1, h2⟩ | ⟨m, hm, h1, h2, -⟩
  · exact ⟨Or.inl h1, Or.inl h2⟩
  · exact ⟨Or.inr ⟨m, hm, h1⟩, Or.inr ⟨m, hm, h2⟩⟩
theorem RR.ci {hi u : cm_g2} {nb ns : Nat} (R : RR hi u nb ns) : cInv hi := ⟨fun r hr => (R.1.1 r hr).sz.1, fun t ht => (R.1.2 t ht).sz.1⟩
theorem RR.ui {hi u : cm_g2} {nb ns : Nat} (R : RR hi u nb ns) : uInv u := ⟨fun r hr => (R.1.1 r hr).sz.2, fun t ht => (R.1.2 t ht).sz.2⟩
theorem RR.m {hi u : cm_g2} {nb ns : Nat} (R : RR hi u nb ns) : mR (cP hi) u nb ns 60 := R.2.2.1.1
theorem RR.mo {hi u : cm_g2} {nb ns : Nat} (R : RR hi u nb ns) : mOk (cm_sf hi 5) nb ns := R.2.2.1.1.1
theorem RR.uo {hi u : cm_g2} {nb ns : Nat} (R : RR hi u nb ns) : uOk u nb ns := R.2.2.1.1.2.1
theorem RR.min {hi u : cm_g2} {nb ns : Nat} (R : RR hi u nb ns) : u 0 19 = hi 5 1 ∧ 0 ≤ (hi 5 1).toInt ∧ (hi 5 1).toInt ≤ 60 := R.2.2.1.1.2.2.2.1
theorem RR.us {hi u : cm_g2} {nb ns : Nat} (R : RR hi u nb ns) : RR (cm_us hi 114 u) u nb ns := R.still (fun c hc => by unfold cm_us; rw [if_neg (by omega)]) uEq.refl
/-- what each call gives: answers the same, both memories the same, nothing behind -/
def opOk (hi : cm_g2) (nb ns : Nat) (x y : Int32) (H v : cm_g2) : Prop := x = y ∧ RR H v nb ns ∧ ∀ c, 114 ≤ c → H c = hi c
