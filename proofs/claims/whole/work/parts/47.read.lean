/-! PART read: the class's reader: items, the whole text -/
def rT (hi : cm_g2) (s n : Nat) (f : Nat → Int32) : Prop := hi s 1 = nI n ∧ hi (s + 1) = f
theorem rT.keep {hi H : cm_g2} {s n : Nat} {f : Nat → Int32} (h : rT hi s n f) (h73 : 73 ≤ s) (F : ∀ c, c < 19 ∨ 30 < c → H c = hi c) : rT H s n f := ⟨by rw [F s (by omega)]; exact h.1, by rw [F (s + 1) (by omega)]; exact h.2⟩
theorem fr19 {hi H : cm_g2} (F : ∀ c, c ≠ 19 → H c = hi c) : ∀ c, c < 19 ∨ 30 < c → H c = hi c := fun c hc => F c (by omega)
def pWt (c : Nat → Int32) (pos : Nat) (w : Option Nat) : Int32 × Nat × Option Nat := if c pos = 45 then (4, (pTk c 45 45 pos w).2) else pTk c 48 51 pos w
def rOut (n : Nat) (H : cm_g2) : Except Nat (Nat × pA) → Prop
  | .error p => p ≤ n ∧ ∃ q, q ≤ n ∧ rS H q (some p)
  | .ok x => x.1 ≤ n ∧ rS H x.1 none ∧ aRep x.2 (cm_sf H 20)
def pTail (c : Nat → Int32) (pos : Nat) (w : Option Nat) (A : pA) (k x : Int32) : Except Nat (Nat × pA) := match (pWt c pos w).2.2 with
  | some p => .error p
  | none => .ok ((pWt c pos w).2.1, (A.1, A.2.1, (A.2.2.1 + 1, pSet A.2.2.2 A.2.2.1 (k, x, (pWt c pos w).1))))
theorem pTk_none {c : Nat → Int32} {a b : Int32} {pos : Nat} (h : pBt c pos a b = true) : pTk c a b pos none = (c pos - a, pos + 1, none) := if_pos h
theorem pTk_bad {c : Nat → Int32} {a b : Int32} {pos : Nat} (h : pBt c pos a b = false) : pTk c a b pos none = (0, pos, some pos) := if_neg (by rw [h]; decide)
theorem pTk_some {c : Nat → Int32} {a b : Int32} {pos p : Nat} : pTk c a b pos (some p) = (0, pos, some p) := rfl
theorem pWt_some {c : Nat → Int32} {pos p : Nat} : (pWt c pos (some p)).2 = (pos, some p) := by
  unfold pWt
  split <;> rfl
theorem pBt_eq {c : Nat → Int32} {pos : Nat} {a : Int32} (h : c pos = a) : pBt c pos a a = true := by
  subst h
  have : ¬ c pos < c pos := by rw [Int32.lt_iff_toInt_lt]; omega
  simp [pBt, this]
/-- the three signs of a stall -/
theorem pStall_tk {c : Nat → Int32} {pos : Nat} {A : pA} (h0 : A.2.2.1 = 0) (h6 : A.2.1.1 < 6) : pStall c pos A = match (pTk c 48 57 (pTk c 48 51 (pTk c 65 84 (pos + 1) none).2.1 (pTk c 65 84 (pos + 1) none).2.2).2.1 (pTk c 48 51 (pTk c 65 84 (pos + 1) none).2.1 (pTk c 65 84 (pos + 1) none).2.2).2.2).2.2 with
  | some p => .error p
  | none => .ok ((pTk c 48 57 (pTk c 48 51 (pTk c 65 84 (pos + 1) none).2.1 (pTk c 65 84 (pos + 1) none).2.2).2.1 (pTk c 48 51 (pTk c 65 84 (pos + 1) none).2.1 (pTk c 65 84 (pos + 1) none).2.2).2.2).2.1, (A.1, (A.2.1.1 + 1, pSet A.2.1.2 A.2.1.1 ((pTk c 65 84 (pos + 1) none).1, (pTk c 48 51 (pTk c 65 84 (pos + 1) none).2.1 (pTk c 65 84 (pos + 1) none).2.2).1, (pTk c 48 57 (pTk c 48 51 (pTk c 65 84 (pos + 1) none).2.1 (pTk c 65 84 (pos + 1) none).2.2).2.1 (pTk c 48 51 (pTk c 65 84 (pos + 1) none).2.1 (pTk c 65 84 (pos + 1) none).2.2).2.2).1)), A.2.2)) := by
  unfold pStall
  rw [if_neg (by omega)]
  cases h1 : pBt c (pos + 1) 65 84 with
  | false => rw [pTk_bad h1]; simp [pTk_some]
  | true =>
    rw [pTk_none h1]
    cases h2 : pBt c (pos + 2) 48 51 with
    | false => rw [pTk_bad h2]; simp [pTk_some]
    | true =>
      rw [pTk_none h2]
      cases h3 : pBt c (pos + 3) 48 57 with
      | false => rw [pTk_bad h3]; simp
      | true => rw [pTk_none h3]; simp
theorem pBuyer_bad {c : Nat → Int32} {pos p : Nat} {A : pA} (hk : ¬ pKind (c pos) = -9) (h6 : A.2.2.1 < 6) (h : (pTk c 65 84 (pos + 1) none).2.2 = some p) : pBuyer c pos A = .error p := by
  unfold pBuyer
  rw [if_neg (fun q => q.elim hk (fun q => by omega))]
  cases h1 : pBt c (pos + 1) 65 84 with
  | false => rw [pTk_bad h1] at h; cases h; rfl
  | true => rw [pTk_none h1] at h; cases h
theorem pBuyer_cant {c : Nat → Int32} {pos : Nat} {A : pA} (hk : ¬ pKind (c pos) = -9) (h6 : A.2.2.1 < 6) (h : (pTk c 65 84 (pos + 1) none).2.2 = none) (hc : pCan A (pKind (c pos)) (pTk c 65 84 (pos + 1) none).1 = false) : pBuyer c pos A = .error (pos + 1) ∧ (pTk c 65 84 (pos + 1) none).2.1 = pos + 2 := by
  unfold pBuyer
  rw [if_neg (fun q => q.elim hk (fun q => by omega))]
  cases h1 : pBt c (pos + 1) 65 84 with
  | false => rw [pTk_bad h1] at h; cases h
  | true =>
    rw [pTk_none h1] at hc ⊢
    refine ⟨?_, rfl⟩
    rw [if_neg (by decide), if_pos hc]
theorem pBuyer_tail {c : Nat → Int32} {pos : Nat} {A : pA} (hk : ¬ pKind (c pos) = -9) (h6 : A.2.2.1 < 6) (h : (pTk c 65 84 (pos + 1) none).2.2 = none) (hc : pCan A (pKind (c pos)) (pTk c 65 84 (pos + 1) none).1 = true) : pBuyer c pos A = pTail c (pTk c 65 84 (pos + 1) none).2.1 none A (pKind (c pos)) (pTk c 65 84 (pos + 1) none).1 := by
  unfold pBuyer
  rw [if_neg (fun q => q.elim hk (fun q => by omega))]
  cases h1 : pBt c (pos + 1) 65 84 with
  | false => rw [pTk_bad h1] at h; cases h
  | true =>
    rw [pTk_none h1] at hc ⊢
    rw [if_neg (by decide), if_neg (by rw [hc]; decide)]
    unfold pTail pWt
    simp only
    by_cases h2 : c (pos + 2) = 45
    · rw [if_pos h2, if_pos h2, pTk_none (pBt_eq h2)]
    · rw [if_neg h2, if_neg h2]
      cases h3 : pBt c (pos + 2) 48 51 with
      | false => rw [pTk_bad h3]; simp
      | true => rw [pTk_none h3]; simp
theorem aRep.stall {A : pA} {g G : cm_g2} {x y z : Int32} (h : aRep A g) (h6 : A.2.1.1 < 6) (q : G 1 = upd (g 1) A.2.1.1 x ∧ G 2 = upd (g 2) A.2.1.1 y ∧ G 3 = upd (g 3) A.2.1.1 z ∧ G 4 = upd (g 4) A.2.1.1 0 ∧ G 0 = upd (g 0) 2 (nI (A.2.1.1 + 1)) ∧ ∀ c, 4 < c → G c = g c) : aRep (A.1, (A.2.1.1 + 1, pSet A.2.1.2 A.2.1.1 (x, y, z)), A.2.2) G := by
  obtain ⟨q1, q2, q3, q4, q0, qo⟩ := q
  refine ⟨⟨by rw [q0]; simpa [upd] using h.1.1, by rw [q0]; simpa [upd] using h.1.2.1, by rw [q0]; simp [upd], by rw [q0]; simpa [upd] using h.1.2.2.2.1, by show A.2.1.1 + 1 ≤ 6; omega, h.1.2.2.2.2.2⟩, fun k hk => ?_, fun i hi => by rw [qo 5 (by decide), qo 6 (by decide), qo 7 (by decide), qo 8 (by decide)]; exact h.2.2.1 i hi, fun i h0 hi => by rw [qo 9 (by decide)]; exact h.2.2.2 i h0 hi⟩
  rw [q1, q2, q3, q4]
  unfold upd pSet
  by_cases e : k = A.2.1.1
  · simp [e]
  · simp only [e, if_false]
    exact h.2.1 k (by have : k < A.2.1.1 + 1 := hk; omega)
theorem aRep.buyer {A : pA} {g G : cm_g2} {k x y : Int32} (h : aRep A g) (h6 : A.2.2.1 < 6) (q : G 9 = upd (g 9) A.2.2.1 (if A.2.2.1 = 0 then 20 else mSlack g (A.2.2.1 - 1) k) ∧ G 5 = upd (g 5) A.2.2.1 k ∧ G 6 = upd (g 6) A.2.2.1 x ∧ G 7 = upd (g 7) A.2.2.1 y ∧ G 8 = upd (g 8) A.2.2.1 0 ∧ G 0 = upd (g 0) 3 (nI (A.2.2.1 + 1)) ∧ ∀ c, (c < 5 ∧ 0 < c) ∨ 9 < c → G c = g c) : aRep (A.1, A.2.1, (A.2.2.1 + 1, pSet A.2.2.2 A.2.2.1 (k, x, y))) G := by
  obtain ⟨q9, q5, q6, q7, q8, q0, qo⟩ := q
  refine ⟨⟨by rw [q0]; simpa [upd] using h.1.1, by rw [q0]; simpa [upd] using h.1.2.1, by rw [q0]; simpa [upd] using h.1.2.2.1, by rw [q0]; simp [upd], h.1.2.2.2.2.1, by show A.2.2.1 + 1 ≤ 6; omega⟩, fun j hj => by rw [qo 1 (by decide), qo 2 (by decide), qo 3 (by decide), qo 4 (by decide)]; exact h.2.1 j hj, fun i hi => ?_, fun i h0 hi => ?_⟩
  · rw [q5, q6, q7, q8]
    unfold upd pSet
    by_cases e : i = A.2.2.1
    · simp [e]
    · simp only [e, if_false]
      exact h.2.2.1 i (by have : i < A.2.2.1 + 1 := hi; omega)
  · rw [q9]
    have hi2 : i < A.2.2.1 + 1 := hi
    by_cases e : i = A.2.2.1
    · subst e
      have e1 : ¬ A.2.2.1 = 0 := by omega
      have e2 : ¬ A.2.2.1 - 1 = A.2.2.1 := by omega
      simp only [upd, pSet, if_true, e1, e2, if_false]
      unfold mSlack
      rw [(h.2.2.1 (A.2.2.1 - 1) (by omega)).1, h.1.1]
    · have e2 : ¬ i - 1 = A.2.2.1 := by omega
      simp only [upd, pSet, e, e2, if_false]
      exact h.2.2.2 i h0 (by omega)
theorem pCan_eq {A : pA} {g : cm_g2} {k x : Int32} (h : aRep A g) (h6 : A.2.2.1 < 6) : cCanB g A.2.2.1 k x = pCan A k x := by
  unfold cCanB pCan
  split
  · rfl
  · next q =>
    rw [if_neg (by omega)]
    unfold mSlack
    rw [(h.2.2.1 (A.2.2.1 - 1) (by omega)).1, (h.2.2.1 (A.2.2.1 - 1) (by omega)).2.1, h.1.1]
section RD2
variable {D : cm_D} {d : Nat} {sh : List cm_Sh} {hi : cm_g2} {hl : Nat → Nat → Int64} {hr : Nat → Nat → Option Nat} {nb ns s n pos : Nat} {w : Option Nat} {f : Nat → Int32} {A : pA}
theorem k_tk (hX : cm_cls sh hr) {a b : Int32} (hSrc : hr 19 1 = some s) (hS : cm_str sh hr s 80) (h73 : 73 ≤ s) (hx : rT hi s n f) (hn : n ≤ 80) (hr0 : rS hi pos w) (hp : pos ≤ n) (hw : ∀ p, w = some p → p ≤ n) : cm_ct D mX3_take (d + 3) 0 0 [.ref 19, .int a, .int b] (sh, hi, hl, hr) (fun r9 h9 => r9 = some (.int (pTk (pC f n) a b pos w).1) ∧ ∃ H, h9 = (sh, H, hl, hr) ∧ (∀ c, c ≠ 19 → H c = hi c) ∧ rS H (pTk (pC f n) a b pos w).2.1 (pTk (pC f n) a b pos w).2.2) := by
  obtain ⟨hz, rfl⟩ := hx
  exact k_rtake hX hSrc hS h73 hz hn hr0 hp hw
theorem k_sk (hX : cm_cls sh hr) (hSrc : hr 19 1 = some s) (hS : cm_str sh hr s 80) (h73 : 73 ≤ s) (hx : rT hi s n f) (hn : n ≤ 80) (hr0 : rS hi pos w) (hp : pos ≤ n) (hw : ∀ p, w = some p → p ≤ n) : cm_ct D mX3_skipBlanks (d + 3) 0 0 [.ref 19] (sh, hi, hl, hr) (fun r9 h9 => r9 = none ∧ ∃ H, h9 = (sh, H, hl, hr) ∧ (∀ c, c ≠ 19 → H c = hi c) ∧ rS H (pSkip (pC f n) 80 pos) w) := by
  obtain ⟨hz, rfl⟩ := hx
  exact k_skipBlanks hX hSrc hS h73 hz hn hr0 hp hw
theorem k_sget (hX : cm_cls sh hr) (hSrc : hr 19 1 = some s) (hS : cm_str sh hr s 80) (h73 : 73 ≤ s) (hx : rT hi s n f) (hn : n ≤ 80) (hp : pos ≤ n) : cm_ct D mX4_get (d + 2) 0 0 [.ref s, .int (nI pos)] (sh, hi, hl, hr) (fun r9 h9 => r9 = some (.int (pC f n pos)) ∧ h9 = (sh, hi, hl, hr)) := by
  obtain ⟨hz, rfl⟩ := hx
  have := cm_ct_us (D := D) s (k_get (d := d) (hl := hl) (g := cm_sf hi s) hS (by decide) (z80 hz hn) (i := nI pos))
  rw [cm_us_sf] at this
  rw [show stGet (cm_sf hi s) (nI pos) = pC (hi (s + 1)) n pos from pC_get (g := cm_sf hi s) hz hn (by omega)] at this
  exact this
set_option maxRecDepth 20000 in
theorem k_takeWant (hX : cm_cls sh hr) (hSrc : hr 19 1 = some s) (hS : cm_str sh hr s 80) (h73 : 73 ≤ s) (hx : rT hi s n f) (hn : n ≤ 80) (hr0 : rS hi pos w) (hp : pos ≤ n) (hw : ∀ p, w = some p → p ≤ n) : cm_ct D mX3_takeWant (d + 4) 0 0 [.ref 19] (sh, hi, hl, hr) (fun r9 h9 => r9 = some (.int (pWt (pC f n) pos w).1) ∧ ∃ H, h9 = (sh, H, hl, hr) ∧ (∀ c, c ≠ 19 → H c = hi c) ∧ rS H (pWt (pC f n) pos w).2.1 (pWt (pC f n) pos w).2.2) := by
  refine cm_ct_of (ls := [some (.ref 19)]) 0 (by decide +kernel) rfl rfl ?_
  refine cm_aload0 (pc := 0) dX3_takeWant_0 ?_
  refine cm_getR (pc := 1) flX3_23 dX3_takeWant_1 hX.od hSrc ?_
  refine cm_aload0 (pc := 4) dX3_takeWant_4 ?_
  refine cm_getI (pc := 5) flX3_27 dX3_takeWant_5 hX.od ?_
  rw [hr0.1]
  refine cm_V1 (pc := 8) mX4_get_v mlX3_54 dX3_takeWant_8 hS.1 (by omega) (Nat.le_of_ble_eq_true rfl) (Nat.le_refl _) (Nat.le_refl _) (k_sget hX (d := d + 1) hSrc hS h73 hx hn hp) (fun r8 h8 hq8 => ?_)
  obtain ⟨rfl, rfl⟩ := hq8
  refine cm_bipush (pc := 11) (v := 45) dX3_takeWant_11 (by decide) ?_
  refine cm_icmp_ne (pc := 13) (tgt := 27) dX3_takeWant_13 (by decide) (fun c13 => ?_) (fun c13 => ?_)
  · refine cm_aload0 (pc := 27) dX3_takeWant_27 ?_
    refine cm_bipush (pc := 28) (v := 48) dX3_takeWant_28 (by decide) ?_
    refine cm_bipush (pc := 30) (v := 51) dX3_takeWant_30 (by decide) ?_
    refine cm_V2 (pc := 32) mX3_take_v mlX3_40 dX3_takeWant_32 hX.od (by omega) (Nat.le_of_ble_eq_true rfl) (Nat.le_refl _) (Nat.le_refl _) (k_tk hX (d := d + 0) hSrc hS h73 hx hn hr0 hp hw) (fun r32 h32 hq32 => ?_)
    obtain ⟨rfl, H32, rfl, F32, R32⟩ := hq32
    exact cm_iret (pc := 35) dX3_takeWant_35 rfl ⟨by simp [pWt, c13], H32, rfl, F32, by simp only [pWt, c13, if_false]; exact R32⟩
  · refine cm_aload0 (pc := 16) dX3_takeWant_16 ?_
    refine cm_bipush (pc := 17) (v := 45) dX3_takeWant_17 (by decide) ?_
    refine cm_bipush (pc := 19) (v := 45) dX3_takeWant_19 (by decide) ?_
    refine cm_V2 (pc := 21) mX3_take_v mlX3_40 dX3_takeWant_21 hX.od (by omega) (Nat.le_of_ble_eq_true rfl) (Nat.le_refl _) (Nat.le_refl _) (k_tk hX (d := d + 0) hSrc hS h73 hx hn hr0 hp hw) (fun r21 h21 hq21 => ?_)
    obtain ⟨rfl, H21, rfl, F21, R21⟩ := hq21
    refine cm_pop (pc := 24) dX3_takeWant_24 rfl ?_
    refine cm_iconst (pc := 25) (v := 4) dX3_takeWant_25 (by decide) ?_
    exact cm_iret (pc := 26) dX3_takeWant_26 rfl ⟨by simp [pWt, c13], H21, rfl, F21, by simp only [pWt, c13, if_true]; exact R21⟩
set_option maxHeartbeats 1000000 in
set_option maxRecDepth 20000 in
theorem k_readStall (hX : cm_cls sh hr) (hSrc : hr 19 1 = some s) (hS : cm_str sh hr s 80) (h73 : 73 ≤ s) (hx : rT hi s n f) (hn : n ≤ 80) (hr0 : rS hi pos none) (hlt : pos < n) (hA : aRep A (cm_sf hi 20)) (h0 : A.2.2.1 = 0) (h6 : A.2.1.1 < 6) : cm_ct D mX3_readStall (d + 5) 0 0 [.ref 19] (sh, hi, hl, hr) (fun r9 h9 => r9 = none ∧ ∃ H, h9 = (sh, H, hl, hr) ∧ (∀ c, c < 19 ∨ 30 < c → H c = hi c) ∧ rOut n H (pStall (pC f n) pos A)) := by
  refine cm_ct_of (ls := [some (.ref 19), none, none, none]) 3 (by decide +kernel) rfl rfl ?_
  refine cm_aload0 (pc := 0) dX3_readStall_0 ?_
  refine cm_dup (pc := 1) dX3_readStall_1 rfl ?_
  refine cm_getI (pc := 2) flX3_27 dX3_readStall_2 hX.od ?_
  rw [hr0.1]
  refine cm_iconst (pc := 5) (v := 1) dX3_readStall_5 (by decide) ?_
  refine cm_iadd (pc := 6) dX3_readStall_6 ?_
  rw [nI_1]
  refine cm_putI (pc := 7) fpX3_27 dX3_readStall_7 hX.od ?_
  refine cm_memG (fun G7 e7 f7 => ?_)
  have r7 : rS G7 (pos + 1) none := ⟨by rw [f7]; simp [upd], by rw [f7]; simpa [upd] using hr0.2⟩
  have x7 := hx.keep h73 (fr19 e7)
  have l0 : pos + 1 ≤ n := hlt
  refine cm_aload0 (pc := 10) dX3_readStall_10 ?_
  refine cm_bipush (pc := 11) (v := 65) dX3_readStall_11 (by decide) ?_
  refine cm_bipush (pc := 13) (v := 84) dX3_readStall_13 (by decide) ?_
  refine cm_V2 (pc := 15) mX3_take_v mlX3_40 dX3_readStall_15 hX.od (by omega) (Nat.le_of_ble_eq_true rfl) (Nat.le_refl _) (Nat.le_refl _) (k_tk hX (d := d + 1) hSrc hS h73 x7 hn r7 l0 (fun p hp => by cases hp)) (fun r15 h15 hq15 => ?_)
  obtain ⟨rfl, H15, rfl, F15, R15⟩ := hq15
  have x15 := x7.keep h73 (fr19 F15)
  have L15 := pTk_le (f := f) (n := n) (pos := pos + 1) (a := 65) (b := 84) (w := none) l0 (by decide) (fun p hp => by cases hp)
  refine cm_istore1 (pc := 18) dX3_readStall_18 (by decide) rfl ?_
  refine cm_aload0 (pc := 19) dX3_readStall_19 ?_
  refine cm_bipush (pc := 20) (v := 48) dX3_readStall_20 (by decide) ?_
  refine cm_bipush (pc := 22) (v := 51) dX3_readStall_22 (by decide) ?_
  refine cm_V2 (pc := 24) mX3_take_v mlX3_40 dX3_readStall_24 hX.od (by omega) (Nat.le_of_ble_eq_true rfl) (Nat.le_refl _) (Nat.le_refl _) (k_tk hX (d := d + 1) hSrc hS h73 x15 hn R15 L15.1 L15.2) (fun r24 h24 hq24 => ?_)
  obtain ⟨rfl, H24, rfl, F24, R24⟩ := hq24
  have x24 := x15.keep h73 (fr19 F24)
  have L24 := pTk_le (f := f) (n := n) (pos := (pTk (pC f n) 65 84 (pos + 1) none).2.1) (a := 48) (b := 51) (w := (pTk (pC f n) 65 84 (pos + 1) none).2.2) L15.1 (by decide) L15.2
  refine cm_istore2 (pc := 27) dX3_readStall_27 (by decide) rfl ?_
  refine cm_aload0 (pc := 28) dX3_readStall_28 ?_
  refine cm_bipush (pc := 29) (v := 48) dX3_readStall_29 (by decide) ?_
  refine cm_bipush (pc := 31) (v := 57) dX3_readStall_31 (by decide) ?_
  refine cm_V2 (pc := 33) mX3_take_v mlX3_40 dX3_readStall_33 hX.od (by omega) (Nat.le_of_ble_eq_true rfl) (Nat.le_refl _) (Nat.le_refl _) (k_tk hX (d := d + 1) hSrc hS h73 x24 hn R24 L24.1 L24.2) (fun r33 h33 hq33 => ?_)
  obtain ⟨rfl, H33, rfl, F33, R33⟩ := hq33
  have x33 := x24.keep h73 (fr19 F33)
  have L33 := pTk_le (f := f) (n := n) (pos := (pTk (pC f n) 48 51 (pTk (pC f n) 65 84 (pos + 1) none).2.1 (pTk (pC f n) 65 84 (pos + 1) none).2.2).2.1) (a := 48) (b := 57) (w := (pTk (pC f n) 48 51 (pTk (pC f n) 65 84 (pos + 1) none).2.1 (pTk (pC f n) 65 84 (pos + 1) none).2.2).2.2) L24.1 (by decide) L24.2
  have hps := pStall_tk (c := pC f n) (pos := pos) h0 h6
  have F33t : ∀ c, c ≠ 19 → H33 c = hi c := fun c hc => by rw [F33 c hc, F24 c hc, F15 c hc, e7 c hc]
  refine cm_istore3 (pc := 36) dX3_readStall_36 (by decide) rfl ?_
  refine cm_aload0 (pc := 37) dX3_readStall_37 ?_
  refine cm_getI (pc := 38) flX3_31 dX3_readStall_38 hX.od ?_
  rw [R33.2]
  refine cm_bipush (pc := 41) (v := -9) dX3_readStall_41 (by decide) ?_
  refine cm_icmp_ne (pc := 43) (tgt := 56) dX3_readStall_43 (by decide) (fun c43 => ?_) (fun c43 => ?_)
  · refine cm_vret (pc := 56) dX3_readStall_56 rfl ⟨rfl, H33, rfl, fr19 F33t, ?_⟩
    rw [hps]
    cases hc : (pTk (pC f n) 48 57 (pTk (pC f n) 48 51 (pTk (pC f n) 65 84 (pos + 1) none).2.1 (pTk (pC f n) 65 84 (pos + 1) none).2.2).2.1 (pTk (pC f n) 48 51 (pTk (pC f n) 65 84 (pos + 1) none).2.1 (pTk (pC f n) 65 84 (pos + 1) none).2.2).2.2).2.2 with
    | none => rw [hc] at c43; exact absurd rfl c43
    | some p => exact ⟨L33.2 p hc, _, L33.1, by have := R33; rw [hc] at this; exact this⟩
  · have hno : (pTk (pC f n) 48 57 (pTk (pC f n) 48 51 (pTk (pC f n) 65 84 (pos + 1) none).2.1 (pTk (pC f n) 65 84 (pos + 1) none).2.2).2.1 (pTk (pC f n) 48 51 (pTk (pC f n) 65 84 (pos + 1) none).2.1 (pTk (pC f n) 65 84 (pos + 1) none).2.2).2.2).2.2 = none := wI_none c43 (fun p hp => by have := L33.2 p hp; omega)
    have hA33 : aRep A (cm_sf H33 20) := by
      rw [show cm_sf H33 20 = cm_sf hi 20 from funext (fun c => F33t (20 + c) (by omega))]
      exact hA
    refine cm_aload0 (pc := 46) dX3_readStall_46 ?_
    refine cm_getR (pc := 47) flX3_12 dX3_readStall_47 hX.od hX.rd ?_
    refine cm_iload1 (pc := 50) dX3_readStall_50 ?_
    refine cm_iload2 (pc := 51) dX3_readStall_51 ?_
    refine cm_iload3 (pc := 52) dX3_readStall_52 ?_
    refine cm_V3 (pc := 53) mX2_addStall_v mlX3_77 dX3_readStall_53 hX.mi.1 (by omega) (Nat.le_of_ble_eq_true rfl) (Nat.le_refl _) (Nat.le_refl _) (cm_ct_us _ (k_addStall (d := d + 4) hX.mi (ns := A.2.1.1) hA33.1.2.2.1 h6)) (fun r53 h53 hq53 => ?_)
    obtain ⟨rfl, g53, rfl, q53⟩ := hq53
    refine cm_usG (fun G53 e53 f53 => ?_)
    refine cm_vret (pc := 56) dX3_readStall_56 rfl ⟨rfl, G53, rfl, fun c hc => ?_, ?_⟩
    · rcases hc with hc | hc
      · rw [e53 c (by omega), F33t c (by omega)]
      · have h9 := f53 (c - 20)
        rw [show 20 + (c - 20) = c by omega] at h9
        rw [h9, q53.2.2.2.2.2 _ (by omega)]
        show H33 (20 + (c - 20)) = _
        rw [show 20 + (c - 20) = c by omega, F33t c (by omega)]
    · rw [hps, hno]
      refine ⟨L33.1, ⟨by rw [e53 19 (by decide), R33.1], by rw [e53 19 (by decide), R33.2, hno]⟩, ?_⟩
      rw [show cm_sf G53 20 = g53 from funext f53]
      exact hA33.stall h6 q53
set_option maxRecDepth 20000 in
theorem t_rb (hX : cm_cls sh hr) {kd x : Int32} {l3 : Option Value} {G : cm_g2} {Z : Except Nat (Nat × pA)} (hSrc : hr 19 1 = some s) (hS : cm_str sh hr s 80) (h73 : 73 ≤ s) (hxG : rT G s n f) (hn : n ≤ 80) (hrG : rS G pos w) (hp : pos ≤ n) (hw : ∀ p, w = some p → p ≤ n) (hG : ∀ c, c ≠ 19 → G c = hi c) (hA : aRep A (cm_sf hi 20)) (h6 : A.2.2.1 < 6) (hZ : Z = pTail (pC f n) pos w A kd x) : cm_g D mX3_readBuyer (d + 5) 0 0 (fun r9 h9 => r9 = none ∧ ∃ H, h9 = (sh, H, hl, hr) ∧ (∀ c, c < 19 ∨ 30 < c → H c = hi c) ∧ rOut n H Z) 0 0 50 [some (.ref 19), some (.int kd), some (.int x), l3] [] (sh, G, hl, hr) := by
  refine cm_aload0 (pc := 50) dX3_readBuyer_50 ?_
  refine cm_V0 (pc := 51) mX3_takeWant_v mlX3_85 dX3_readBuyer_51 hX.od (by omega) (Nat.le_of_ble_eq_true rfl) (Nat.le_refl _) (Nat.le_refl _) (k_takeWant hX (d := d) hSrc hS h73 hxG hn hrG hp hw) (fun r51 h51 hq51 => ?_)
  obtain ⟨rfl, H51, rfl, F51, R51⟩ := hq51
  have F51t : ∀ c, c ≠ 19 → H51 c = hi c := fun c hc => by rw [F51 c hc, hG c hc]
  have L51 : (pWt (pC f n) pos w).2.1 ≤ n ∧ ∀ p, (pWt (pC f n) pos w).2.2 = some p → p ≤ n := by
    unfold pWt
    split
    · exact pTk_le hp (by decide) hw
    · exact pTk_le hp (by decide) hw
  refine cm_istore3 (pc := 54) dX3_readBuyer_54 (by decide) rfl ?_
  refine cm_aload0 (pc := 55) dX3_readBuyer_55 ?_
  refine cm_getI (pc := 56) flX3_31 dX3_readBuyer_56 hX.od ?_
  rw [R51.2]
  refine cm_bipush (pc := 59) (v := -9) dX3_readBuyer_59 (by decide) ?_
  refine cm_icmp_ne (pc := 61) (tgt := 74) dX3_readBuyer_61 (by decide) (fun c61 => ?_) (fun c61 => ?_)
  · refine cm_vret (pc := 74) dX3_readBuyer_74 rfl ⟨rfl, H51, rfl, fr19 F51t, ?_⟩
    rw [hZ]
    unfold pTail
    cases hc : (pWt (pC f n) pos w).2.2 with
    | none => rw [hc] at c61; exact absurd rfl c61
    | some p => exact ⟨L51.2 p hc, _, L51.1, by have := R51; rw [hc] at this; exact this⟩
  · have hno : (pWt (pC f n) pos w).2.2 = none := wI_none c61 (fun p hp => by have := L51.2 p hp; omega)
    have hA51 : aRep A (cm_sf H51 20) := by
      rw [show cm_sf H51 20 = cm_sf hi 20 from funext (fun c => F51t (20 + c) (by omega))]
      exact hA
    refine cm_aload0 (pc := 64) dX3_readBuyer_64 ?_
    refine cm_getR (pc := 65) flX3_12 dX3_readBuyer_65 hX.od hX.rd ?_
    refine cm_iload1 (pc := 68) dX3_readBuyer_68 ?_
    refine cm_iload2 (pc := 69) dX3_readBuyer_69 ?_
    refine cm_iload3 (pc := 70) dX3_readBuyer_70 ?_
    refine cm_V3 (pc := 71) mX2_addBuyer_v mlX3_89 dX3_readBuyer_71 hX.mi.1 (by omega) (Nat.le_of_ble_eq_true rfl) (Nat.le_refl _) (Nat.le_refl _) (cm_ct_us _ (k_addBuyer (d := d + 3) hX.mi (nb := A.2.2.1) hA51.1.2.2.2.1 h6)) (fun r71 h71 hq71 => ?_)
    obtain ⟨rfl, g71, rfl, q71⟩ := hq71
    refine cm_usG (fun G71 e71 f71 => ?_)
    refine cm_vret (pc := 74) dX3_readBuyer_74 rfl ⟨rfl, G71, rfl, fun c hc => ?_, ?_⟩
    · rcases hc with hc | hc
      · rw [e71 c (by omega), F51t c (by omega)]
      · have h9 := f71 (c - 20)
        rw [show 20 + (c - 20) = c by omega] at h9
        rw [h9, q71.2.2.2.2.2.2 _ (by omega)]
        show H51 (20 + (c - 20)) = _
        rw [show 20 + (c - 20) = c by omega, F51t c (by omega)]
    · rw [hZ]
      unfold pTail
      rw [hno]
      refine ⟨L51.1, ⟨by rw [e71 19 (by decide), R51.1], by rw [e71 19 (by decide), R51.2, hno]⟩, ?_⟩
      rw [show cm_sf G71 20 = g71 from funext f71]
      exact hA51.buyer h6 q71
set_option maxHeartbeats 1000000 in
set_option maxRecDepth 20000 in
theorem k_readBuyer (hX : cm_cls sh hr) {kd : Int32} (hSrc : hr 19 1 = some s) (hS : cm_str sh hr s 80) (h73 : 73 ≤ s) (hx : rT hi s n f) (hn : n ≤ 80) (hr0 : rS hi pos none) (hlt : pos < n) (hA : aRep A (cm_sf hi 20)) (h6 : A.2.2.1 < 6) (hk : kd = pKind (pC f n pos)) (hk9 : ¬ kd = -9) : cm_ct D mX3_readBuyer (d + 5) 0 0 [.ref 19, .int kd] (sh, hi, hl, hr) (fun r9 h9 => r9 = none ∧ ∃ H, h9 = (sh, H, hl, hr) ∧ (∀ c, c < 19 ∨ 30 < c → H c = hi c) ∧ rOut n H (pBuyer (pC f n) pos A)) := by
  refine cm_ct_of (ls := [some (.ref 19), some (.int kd), none, none]) 2 (by decide +kernel) rfl rfl ?_
  refine cm_aload0 (pc := 0) dX3_readBuyer_0 ?_
  refine cm_dup (pc := 1) dX3_readBuyer_1 rfl ?_
  refine cm_getI (pc := 2) flX3_27 dX3_readBuyer_2 hX.od ?_
  rw [hr0.1]
  refine cm_iconst (pc := 5) (v := 1) dX3_readBuyer_5 (by decide) ?_
  refine cm_iadd (pc := 6) dX3_readBuyer_6 ?_
  rw [nI_1]
  refine cm_putI (pc := 7) fpX3_27 dX3_readBuyer_7 hX.od ?_
  refine cm_memG (fun G7 e7 f7 => ?_)
  have r7 : rS G7 (pos + 1) none := ⟨by rw [f7]; simp [upd], by rw [f7]; simpa [upd] using hr0.2⟩
  have x7 := hx.keep h73 (fr19 e7)
  have l0 : pos + 1 ≤ n := hlt
  refine cm_aload0 (pc := 10) dX3_readBuyer_10 ?_
  refine cm_bipush (pc := 11) (v := 65) dX3_readBuyer_11 (by decide) ?_
  refine cm_bipush (pc := 13) (v := 84) dX3_readBuyer_13 (by decide) ?_
  refine cm_V2 (pc := 15) mX3_take_v mlX3_40 dX3_readBuyer_15 hX.od (by omega) (Nat.le_of_ble_eq_true rfl) (Nat.le_refl _) (Nat.le_refl _) (k_tk hX (d := d + 1) hSrc hS h73 x7 hn r7 l0 (fun p hp => by cases hp)) (fun r15 h15 hq15 => ?_)
  obtain ⟨rfl, H15, rfl, F15, R15⟩ := hq15
  have x15 := x7.keep h73 (fr19 F15)
  have L15 := pTk_le (f := f) (n := n) (pos := pos + 1) (a := 65) (b := 84) (w := none) l0 (by decide) (fun p hp => by cases hp)
  have F15t : ∀ c, c ≠ 19 → H15 c = hi c := fun c hc => by rw [F15 c hc, e7 c hc]
  have hA15 : aRep A (cm_sf H15 20) := by
    rw [show cm_sf H15 20 = cm_sf hi 20 from funext (fun c => F15t (20 + c) (by omega))]
    exact hA
  refine cm_istore2 (pc := 18) dX3_readBuyer_18 (by decide) rfl ?_
  refine cm_aload0 (pc := 19) dX3_readBuyer_19 ?_
  refine cm_getI (pc := 20) flX3_31 dX3_readBuyer_20 hX.od ?_
  rw [R15.2]
  refine cm_bipush (pc := 23) (v := -9) dX3_readBuyer_23 (by decide) ?_
  refine cm_icmp_ne (pc := 25) (tgt := 50) dX3_readBuyer_25 (by decide) (fun c25 => ?_) (fun c25 => ?_)
  · obtain ⟨p9, hp9⟩ : ∃ p, (pTk (pC f n) 65 84 (pos + 1) none).2.2 = some p := by
      cases hc : (pTk (pC f n) 65 84 (pos + 1) none).2.2 with
      | none => rw [hc] at c25; exact absurd rfl c25
      | some p => exact ⟨p, rfl⟩
    refine t_rb hX (w := some p9) hSrc hS h73 x15 hn (by have := R15; rw [hp9] at this; exact this) L15.1 (fun p hp => by cases hp; exact L15.2 p9 hp9) F15t hA h6 ?_
    rw [pBuyer_bad (by rw [← hk]; exact hk9) h6 hp9]
    unfold pTail
    rw [pWt_some]
  · have hno : (pTk (pC f n) 65 84 (pos + 1) none).2.2 = none := wI_none c25 (fun p hp => by have := L15.2 p hp; omega)
    refine cm_aload0 (pc := 28) dX3_readBuyer_28 ?_
    refine cm_getR (pc := 29) flX3_12 dX3_readBuyer_29 hX.od hX.rd ?_
    refine cm_iload1 (pc := 32) dX3_readBuyer_32 ?_
    refine cm_iload2 (pc := 33) dX3_readBuyer_33 ?_
    refine cm_V2 (pc := 34) mX2_canAddBuyer_v mlX3_81 dX3_readBuyer_34 hX.mi.1 (by omega) (Nat.le_of_ble_eq_true rfl) (Nat.le_refl _) (Nat.le_refl _) (cm_ct_us _ (k_canAddBuyer (d := d + 3) hX.mi (nb := A.2.2.1) hA15.1.2.2.2.1 (by omega))) (fun r34 h34 hq34 => ?_)
    obtain ⟨rfl, rfl⟩ := hq34
    rw [cm_us_sf]
    rw [pCan_eq hA15 h6]
    refine cm_ifneB (pc := 37) (tgt := 50) dX3_readBuyer_37 (by decide) (fun c37 => ?_) (fun c37 => ?_)
    · refine t_rb hX (w := none) hSrc hS h73 x15 hn (by have := R15; rw [hno] at this; exact this) L15.1 (fun p hp => by cases hp) F15t hA h6 ?_
      rw [hk]
      exact pBuyer_tail (by rw [← hk]; exact hk9) h6 hno (by rw [← hk]; exact c37)
    · refine cm_aload0 (pc := 40) dX3_readBuyer_40 ?_
      refine cm_aload0 (pc := 41) dX3_readBuyer_41 ?_
      refine cm_getI (pc := 42) flX3_27 dX3_readBuyer_42 hX.od ?_
      rw [R15.1, (pBuyer_cant (A := A) (by rw [← hk]; exact hk9) h6 hno (by rw [← hk]; exact c37)).2]
      refine cm_iconst (pc := 45) (v := 1) dX3_readBuyer_45 (by decide) ?_
      refine cm_isub (pc := 46) dX3_readBuyer_46 ?_
      rw [show nI (pos + 2) - 1 = nI (pos + 1) from nI_pred (pos + 1)]
      refine cm_putI (pc := 47) fpX3_31 dX3_readBuyer_47 hX.od ?_
      refine cm_memG (fun G47 e47 f47 => ?_)
      have hcant := pBuyer_cant (A := A) (by rw [← hk]; exact hk9) h6 hno (by rw [← hk]; exact c37)
      refine t_rb hX (w := some (pos + 1)) (pos := pos + 2) hSrc hS h73 (x15.keep h73 (fr19 e47)) hn ⟨by rw [f47]; simp only [upd]; rw [if_neg (by decide), R15.1, hcant.2], by rw [f47]; simp [upd, wI]⟩ (by have := L15.1; rw [hcant.2] at this; exact this) (fun p hp => by cases hp; exact l0) (fun c hc => by rw [e47 c hc, F15t c hc]) hA h6 ?_
      rw [hcant.1]
      unfold pTail
      rw [pWt_some]
end RD2
