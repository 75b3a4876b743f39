/-! PART cls: the class's cells; the language as pure functions -/
/-- the object at 2, all that it made behind it -/
def cm_cls (sh : List cm_Sh) (hr : Nat → Nat → Option Nat) : Prop := (cm_ob sh 2 6) ∧ (hr 2 0 = some 3) ∧ (cm_ar sh 3 2 6) ∧ (hr 2 1 = some 4) ∧ (cm_ar sh 4 2 4) ∧ (hr 2 2 = some 5) ∧ (cm_mkt sh hr 5) ∧ (hr 2 3 = some 16) ∧ (cm_ar sh 16 3 3) ∧ (hr 2 4 = some 17) ∧ (cm_ob sh 17 1) ∧ (hr 17 0 = some 18) ∧ (cm_ar sh 18 0 1440) ∧ (hr 2 5 = some 19) ∧ (cm_ob sh 19 3) ∧ (hr 19 0 = some 20) ∧ (cm_mkt sh hr 20) ∧ (hr 2 6 = some 33) ∧ (cm_ob sh 33 0) ∧ (hr 33 0 = some 34) ∧ (cm_mkt sh hr 34) ∧ (hr 33 1 = some 45) ∧ (cm_ar sh 45 0 6) ∧ (hr 33 2 = some 46) ∧ (cm_ar sh 46 1 7) ∧ (hr 2 7 = some 47) ∧ (cm_ob sh 47 5) ∧ (hr 47 0 = some 48) ∧ (cm_mkt sh hr 48) ∧ (hr 47 1 = some 59) ∧ (cm_ar sh 59 0 6) ∧ (hr 2 8 = some 60) ∧ (cm_ar sh 60 0 6) ∧ (∀ r, r < 6 → hr 3 r = some (61 + 2 * r) ∧ cm_str sh hr (61 + 2 * r) 40) ∧ (∀ t, t < 4 → hr 4 t = some (73 + 2 * t) ∧ cm_str sh hr (73 + 2 * t) 80) ∧ (∀ k, k < 3 → hr 16 k = some (81 + 11 * k) ∧ cm_mkt sh hr (81 + 11 * k))
section CL0
variable {sh : List cm_Sh} {hr : Nat → Nat → Option Nat}
theorem cm_cls.ox (h : cm_cls sh hr) : cm_ob sh 2 6 := h.1
theorem cm_cls.r0 (h : cm_cls sh hr) : hr 2 0 = some 3 := h.2.1
theorem cm_cls.a3 (h : cm_cls sh hr) : cm_ar sh 3 2 6 := h.2.2.1
theorem cm_cls.r1 (h : cm_cls sh hr) : hr 2 1 = some 4 := h.2.2.2.1
theorem cm_cls.a4 (h : cm_cls sh hr) : cm_ar sh 4 2 4 := h.2.2.2.2.1
theorem cm_cls.r2 (h : cm_cls sh hr) : hr 2 2 = some 5 := h.2.2.2.2.2.1
theorem cm_cls.mp (h : cm_cls sh hr) : cm_mkt sh hr 5 := h.2.2.2.2.2.2.1
theorem cm_cls.r3 (h : cm_cls sh hr) : hr 2 3 = some 16 := h.2.2.2.2.2.2.2.1
theorem cm_cls.a16 (h : cm_cls sh hr) : cm_ar sh 16 3 3 := h.2.2.2.2.2.2.2.2.1
theorem cm_cls.r4 (h : cm_cls sh hr) : hr 2 4 = some 17 := h.2.2.2.2.2.2.2.2.2.1
theorem cm_cls.oh (h : cm_cls sh hr) : cm_ob sh 17 1 := h.2.2.2.2.2.2.2.2.2.2.1
theorem cm_cls.rh (h : cm_cls sh hr) : hr 17 0 = some 18 := h.2.2.2.2.2.2.2.2.2.2.2.1
theorem cm_cls.a18 (h : cm_cls sh hr) : cm_ar sh 18 0 1440 := h.2.2.2.2.2.2.2.2.2.2.2.2.1
theorem cm_cls.r5 (h : cm_cls sh hr) : hr 2 5 = some 19 := h.2.2.2.2.2.2.2.2.2.2.2.2.2.1
theorem cm_cls.od (h : cm_cls sh hr) : cm_ob sh 19 3 := h.2.2.2.2.2.2.2.2.2.2.2.2.2.2.1
theorem cm_cls.rd (h : cm_cls sh hr) : hr 19 0 = some 20 := h.2.2.2.2.2.2.2.2.2.2.2.2.2.2.2.1
theorem cm_cls.mi (h : cm_cls sh hr) : cm_mkt sh hr 20 := h.2.2.2.2.2.2.2.2.2.2.2.2.2.2.2.2.1
theorem cm_cls.r6 (h : cm_cls sh hr) : hr 2 6 = some 33 := h.2.2.2.2.2.2.2.2.2.2.2.2.2.2.2.2.2.1
theorem cm_cls.of (h : cm_cls sh hr) : cm_ob sh 33 0 := h.2.2.2.2.2.2.2.2.2.2.2.2.2.2.2.2.2.2.1
theorem cm_cls.rf0 (h : cm_cls sh hr) : hr 33 0 = some 34 := h.2.2.2.2.2.2.2.2.2.2.2.2.2.2.2.2.2.2.2.1
theorem cm_cls.mf (h : cm_cls sh hr) : cm_mkt sh hr 34 := h.2.2.2.2.2.2.2.2.2.2.2.2.2.2.2.2.2.2.2.2.1
theorem cm_cls.rf1 (h : cm_cls sh hr) : hr 33 1 = some 45 := h.2.2.2.2.2.2.2.2.2.2.2.2.2.2.2.2.2.2.2.2.2.1
theorem cm_cls.a45 (h : cm_cls sh hr) : cm_ar sh 45 0 6 := h.2.2.2.2.2.2.2.2.2.2.2.2.2.2.2.2.2.2.2.2.2.2.1
theorem cm_cls.rf2 (h : cm_cls sh hr) : hr 33 2 = some 46 := h.2.2.2.2.2.2.2.2.2.2.2.2.2.2.2.2.2.2.2.2.2.2.2.1
theorem cm_cls.a46 (h : cm_cls sh hr) : cm_ar sh 46 1 7 := h.2.2.2.2.2.2.2.2.2.2.2.2.2.2.2.2.2.2.2.2.2.2.2.2.1
theorem cm_cls.r7 (h : cm_cls sh hr) : hr 2 7 = some 47 := h.2.2.2.2.2.2.2.2.2.2.2.2.2.2.2.2.2.2.2.2.2.2.2.2.2.1
theorem cm_cls.ot (h : cm_cls sh hr) : cm_ob sh 47 5 := h.2.2.2.2.2.2.2.2.2.2.2.2.2.2.2.2.2.2.2.2.2.2.2.2.2.2.1
theorem cm_cls.rt0 (h : cm_cls sh hr) : hr 47 0 = some 48 := h.2.2.2.2.2.2.2.2.2.2.2.2.2.2.2.2.2.2.2.2.2.2.2.2.2.2.2.1
theorem cm_cls.mt (h : cm_cls sh hr) : cm_mkt sh hr 48 := h.2.2.2.2.2.2.2.2.2.2.2.2.2.2.2.2.2.2.2.2.2.2.2.2.2.2.2.2.1
theorem cm_cls.rt1 (h : cm_cls sh hr) : hr 47 1 = some 59 := h.2.2.2.2.2.2.2.2.2.2.2.2.2.2.2.2.2.2.2.2.2.2.2.2.2.2.2.2.2.1
theorem cm_cls.a59 (h : cm_cls sh hr) : cm_ar sh 59 0 6 := h.2.2.2.2.2.2.2.2.2.2.2.2.2.2.2.2.2.2.2.2.2.2.2.2.2.2.2.2.2.2.1
theorem cm_cls.r8 (h : cm_cls sh hr) : hr 2 8 = some 60 := h.2.2.2.2.2.2.2.2.2.2.2.2.2.2.2.2.2.2.2.2.2.2.2.2.2.2.2.2.2.2.2.1
theorem cm_cls.a60 (h : cm_cls sh hr) : cm_ar sh 60 0 6 := h.2.2.2.2.2.2.2.2.2.2.2.2.2.2.2.2.2.2.2.2.2.2.2.2.2.2.2.2.2.2.2.2.1
theorem cm_cls.row (h : cm_cls sh hr) : ∀ r, r < 6 → hr 3 r = some (61 + 2 * r) ∧ cm_str sh hr (61 + 2 * r) 40 := h.2.2.2.2.2.2.2.2.2.2.2.2.2.2.2.2.2.2.2.2.2.2.2.2.2.2.2.2.2.2.2.2.2.1
theorem cm_cls.txt (h : cm_cls sh hr) : ∀ t, t < 4 → hr 4 t = some (73 + 2 * t) ∧ cm_str sh hr (73 + 2 * t) 80 := h.2.2.2.2.2.2.2.2.2.2.2.2.2.2.2.2.2.2.2.2.2.2.2.2.2.2.2.2.2.2.2.2.2.2.1
theorem cm_cls.kpt (h : cm_cls sh hr) : ∀ k, k < 3 → hr 16 k = some (81 + 11 * k) ∧ cm_mkt sh hr (81 + 11 * k) := h.2.2.2.2.2.2.2.2.2.2.2.2.2.2.2.2.2.2.2.2.2.2.2.2.2.2.2.2.2.2.2.2.2.2.2
end CL0
/-- what a text spells: reach; stalls (spot, good, price); buyers (kind, spot, want) -/
abbrev pA : Type := Int32 × (Nat × (Nat → Int32 × Int32 × Int32)) × (Nat × (Nat → Int32 × Int32 × Int32))
def pC (f : Nat → Int32) (n : Nat) (i : Nat) : Int32 := if i < n then f i else -1000
def pBt (c : Nat → Int32) (i : Nat) (a b : Int32) : Bool := !decide (c i < a) && !decide (b < c i)
def pKind (x : Int32) : Int32 := if x = 98 then 0 else if x = 114 then 1 else if x = 100 then 2 else if x = 99 then 3 else if x = 116 then 4 else if x = 112 then 5 else -9
def pSet (f : Nat → Int32 × Int32 × Int32) (k : Nat) (v : Int32 × Int32 × Int32) : Nat → Int32 × Int32 × Int32 := fun j => if j = k then v else f j
def pHead (c : Nat → Int32) (pos : Nat) (A : pA) : Except Nat (Nat × pA) := if pBt c pos 103 103 = false then .error pos else if pBt c (pos + 1) 49 52 = false then .error (pos + 1) else .ok (pos + 2, (1 + (c (pos + 1) - 49), A.2))
def pStall (c : Nat → Int32) (pos : Nat) (A : pA) : Except Nat (Nat × pA) := if 0 < A.2.2.1 ∨ 6 ≤ A.2.1.1 then .error pos else if pBt c (pos + 1) 65 84 = false then .error (pos + 1) else if pBt c (pos + 2) 48 51 = false then .error (pos + 2) else if pBt c (pos + 3) 48 57 = false then .error (pos + 3) else .ok (pos + 4, (A.1, (A.2.1.1 + 1, pSet A.2.1.2 A.2.1.1 (c (pos + 1) - 65, c (pos + 2) - 48, c (pos + 3) - 48)), A.2.2))
def pCan (A : pA) (kd x : Int32) : Bool := if A.2.2.1 = 0 then true else !decide (x - (A.2.2.2 (A.2.2.1 - 1)).2.1 ≤ 0) && !decide ((if (A.2.2.2 (A.2.2.1 - 1)).1 = 4 ∨ kd = 4 then 20 else A.1) < x - (A.2.2.2 (A.2.2.1 - 1)).2.1)
def pBuyer (c : Nat → Int32) (pos : Nat) (A : pA) : Except Nat (Nat × pA) := if pKind (c pos) = -9 ∨ 6 ≤ A.2.2.1 then .error pos else if pBt c (pos + 1) 65 84 = false then .error (pos + 1) else if pCan A (pKind (c pos)) (c (pos + 1) - 65) = false then .error (pos + 1) else if c (pos + 2) = 45 then .ok (pos + 3, (A.1, A.2.1, (A.2.2.1 + 1, pSet A.2.2.2 A.2.2.1 (pKind (c pos), c (pos + 1) - 65, 4)))) else if pBt c (pos + 2) 48 51 = false then .error (pos + 2) else .ok (pos + 3, (A.1, A.2.1, (A.2.2.1 + 1, pSet A.2.2.2 A.2.2.1 (pKind (c pos), c (pos + 1) - 65, c (pos + 2) - 48))))
def pItem (c : Nat → Int32) (pos : Nat) (A : pA) : Except Nat (Nat × pA) := if c pos = 111 then pStall c pos A else pBuyer c pos A
/-- as the reference goes: a place at a time -/
def pRun (c : Nat → Int32) (n : Nat) : Nat → Nat → pA → Except Nat pA
  | 0, _, A => if A.1 = 0 then .error n else .ok A
  | f + 1, pos, A => if pos < n then (if c pos = 32 then pRun c n f (pos + 1) A else match (if A.1 = 0 then pHead c pos A else pItem c pos A) with
      | .error p => .error p
      | .ok q => pRun c n f q.1 q.2) else if A.1 = 0 then .error n else .ok A
def pA0 : pA := (0, (0, fun _ => (0, 0, 0)), (0, fun _ => (0, 0, 0)))
/-- as the class goes: blanks together -/
def pSkip (c : Nat → Int32) : Nat → Nat → Nat
  | 0, pos => pos
  | f + 1, pos => if c pos = 32 then pSkip c f (pos + 1) else pos
def wI : Option Nat → Int32
  | none => -9
  | some p => nI p
def pTk (c : Nat → Int32) (a b : Int32) (pos : Nat) : Option Nat → Int32 × Nat × Option Nat
  | none => if pBt c pos a b then (c pos - a, pos + 1, none) else (0, pos, some pos)
  | some p => (0, pos, some p)
def aRep (A : pA) (G : cm_g2) : Prop := (G 0 0 = A.1 ∧ G 0 1 = 0 ∧ G 0 2 = nI A.2.1.1 ∧ G 0 3 = nI A.2.2.1 ∧ A.2.1.1 ≤ 6 ∧ A.2.2.1 ≤ 6) ∧ (∀ k, k < A.2.1.1 → G 1 k = (A.2.1.2 k).1 ∧ G 2 k = (A.2.1.2 k).2.1 ∧ G 3 k = (A.2.1.2 k).2.2 ∧ G 4 k = 0) ∧ (∀ i, i < A.2.2.1 → G 5 i = (A.2.2.2 i).1 ∧ G 6 i = (A.2.2.2 i).2.1 ∧ G 7 i = (A.2.2.2 i).2.2 ∧ G 8 i = 0) ∧ (∀ i, 0 < i → i < A.2.2.1 → G 9 i = if (A.2.2.2 (i - 1)).1 = 4 ∨ (A.2.2.2 i).1 = 4 then 20 else A.1)
theorem wI_ne {p : Nat} (h : p < 1000) : ¬ wI (some p) = -9 := by
  intro q
  have h1 : (nI p).toInt = (-9 : Int32).toInt := by rw [show nI p = -9 from q]
  rw [nI_toInt (by omega)] at h1
  have : (-9 : Int32).toInt = -9 := by decide
  omega
theorem wI_none {w : Option Nat} (h : wI w = -9) (hw : ∀ p, w = some p → p < 1000) : w = none := by
  cases w with
  | none => rfl
  | some p => exact absurd h (wI_ne (hw p rfl))
theorem pC_in {f : Nat → Int32} {n i : Nat} {a b : Int32} (h : pBt (pC f n) i a b = true) (ha : -1000 < a.toInt) : i < n := by
  rcases Nat.lt_or_ge i n with q | q
  · exact q
  · unfold pBt pC at h
    rw [if_neg (by omega)] at h
    simp only [Bool.and_eq_true, Bool.not_eq_true', decide_eq_false_iff_not, Int32.lt_iff_toInt_lt] at h
    have : (-1000 : Int32).toInt = -1000 := by decide
    omega
theorem pC_eq {f : Nat → Int32} {n i : Nat} {a : Int32} (h : pC f n i = a) (ha : ¬ a = -1000) : i < n := by
  rcases Nat.lt_or_ge i n with q | q
  · exact q
  · unfold pC at h
    rw [if_neg (by omega)] at h
    exact absurd h.symm ha
theorem pSkip_le {f : Nat → Int32} {n : Nat} : ∀ (q pos : Nat), pos ≤ n → pos ≤ pSkip (pC f n) q pos ∧ pSkip (pC f n) q pos ≤ n
  | 0, pos, h => ⟨Nat.le_refl _, h⟩
  | q + 1, pos, h => by
    unfold pSkip
    split
    · next hc =>
      have h1 := pC_eq hc (by decide)
      have := pSkip_le (f := f) (n := n) q (pos + 1) (by omega)
      omega
    · exact ⟨Nat.le_refl _, h⟩
theorem pTk_le {f : Nat → Int32} {n pos : Nat} {a b : Int32} {w : Option Nat} (h : pos ≤ n) (ha : -1000 < a.toInt) (hw : ∀ p, w = some p → p ≤ n) : (pTk (pC f n) a b pos w).2.1 ≤ n ∧ ∀ p, (pTk (pC f n) a b pos w).2.2 = some p → p ≤ n := by
  cases w with
  | none =>
    unfold pTk
    cases hb : pBt (pC f n) pos a b with
    | true =>
      have := pC_in hb ha
      simp
      omega
    | false => simpa using h
  | some p =>
    unfold pTk
    exact ⟨h, hw⟩
