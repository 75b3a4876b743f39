/-! PART bits: small sets, the same rule of holding on both sides, who is taken along (pure) -/
def isSet (s : Int32) : Prop := ∃ n : Nat, n < 64 ∧ s = nI n
theorem bit_or : ∀ n, n < 64 → ∀ j, j < 6 → (∃ m, m < 64 ∧ nI n ||| (1 <<< (nI j &&& 31)) = nI m) ∧ ∀ k, k < 6 → uHas (nI n ||| (1 <<< (nI j &&& 31))) (nI k) = (uHas (nI n) (nI k) || decide (k = j)) := by
  have key : ∀ n, n < 64 → ∀ j, j < 6 → nI n ||| (1 <<< (nI j &&& 31)) = nI (n ||| 2 ^ j) ∧ n ||| 2 ^ j < 64 ∧ ∀ k, k < 6 → uHas (nI n ||| (1 <<< (nI j &&& 31))) (nI k) = (uHas (nI n) (nI k) || decide (k = j)) := by decide +kernel
  intro n hn j hj
  exact ⟨⟨_, (key n hn j hj).2.1, (key n hn j hj).1⟩, (key n hn j hj).2.2⟩
theorem bit_one : ∀ j, j < 6 → isSet (1 <<< (nI j &&& 31)) ∧ ∀ k, k < 6 → uHas (1 <<< (nI j &&& 31)) (nI k) = decide (k = j) := by
  have key : ∀ j, j < 6 → (1 : Int32) <<< (nI j &&& 31) = nI (2 ^ j) ∧ 2 ^ j < 64 ∧ ∀ k, k < 6 → uHas (1 <<< (nI j &&& 31)) (nI k) = decide (k = j) := by decide +kernel
  intro j hj
  exact ⟨⟨_, (key j hj).2.1, (key j hj).1⟩, (key j hj).2.2⟩
def uF (u : cm_g2) (way : Int32) : Nat → Nat
  | 0 => 0
  | j + 1 => if uHeld u j (u 8 j) (u 8 (j + 1) + way) then j + 1 else uF u way j
def uT (u : cm_g2) (nb : Nat) (way : Int32) : Nat → Nat → Nat
  | 0, j => j
  | n + 1, j => if j + 1 < nb then (if uHeld u j (u 8 j + way) (u 8 (j + 1)) then j else uT u nb way n (j + 1)) else j
theorem uF_le {u : cm_g2} {way : Int32} : ∀ j : Nat, uF u way j ≤ j
  | 0 => Nat.le_refl _
  | j + 1 => by
    unfold uF
    split
    · exact Nat.le_refl _
    · exact Nat.le_succ_of_le (uF_le j)
theorem uT_ge {u : cm_g2} {nb : Nat} {way : Int32} : ∀ n j : Nat, j ≤ uT u nb way n j ∧ (uT u nb way n j = j ∨ uT u nb way n j < nb)
  | 0, j => ⟨Nat.le_refl _, Or.inl rfl⟩
  | n + 1, j => by
    unfold uT
    split
    · split
      · exact ⟨Nat.le_refl _, Or.inl rfl⟩
      · have := uT_ge (u := u) (nb := nb) (way := way) n (j + 1); omega
    · exact ⟨Nat.le_refl _, Or.inl rfl⟩
theorem uDown_spec {u : cm_g2} {way : Int32} : ∀ (j : Nat) (s : Int32), j < 6 → isSet s → isSet (uDown u way j s) ∧ ∀ k, k < 6 → uHas (uDown u way j s) (nI k) = (uHas s (nI k) || (decide (uF u way j ≤ k) && decide (k < j)))
  | 0, s, _, hs => ⟨hs, fun k _ => by simp [uDown]⟩
  | j + 1, s, hj, hs => by
    unfold uDown uF
    cases hh : uHeld u j (u 8 j) (u 8 (j + 1) + way) with
    | true =>
      refine ⟨by simpa using hs, fun k _ => ?_⟩
      simp
      omega
    | false =>
      obtain ⟨n, hn, rfl⟩ := hs
      obtain ⟨⟨m, hm, hm2⟩, hb⟩ := bit_or n hn j (by omega)
      have ih := uDown_spec (u := u) (way := way) j (nI n ||| (1 <<< (nI j &&& 31))) (by omega) ⟨m, hm, hm2⟩
      refine ⟨by simpa using ih.1, fun k hk => ?_⟩
      have h1 := ih.2 k hk
      rw [hb k hk] at h1
      simp only [Bool.false_eq_true, if_false]
      rw [h1]
      have hle := uF_le (u := u) (way := way) j
      cases uHas (nI n) (nI k)
      · by_cases e : k = j
        · subst e
          simp
          exact hle
        · have : (k < j) ↔ (k < j + 1) := by omega
          simp [e, this]
      · simp
theorem uUp_spec {u : cm_g2} {nb : Nat} {way : Int32} (hnb : nb ≤ 6) : ∀ (n j : Nat) (s : Int32), j < nb → nb ≤ j + 1 + n → isSet s → isSet (uUp u nb way n j s) ∧ ∀ k, k < 6 → uHas (uUp u nb way n j s) (nI k) = (uHas s (nI k) || (decide (j < k) && decide (k ≤ uT u nb way n j)))
  | 0, j, s, hj, hn, hs => ⟨hs, fun k hk => by
    show uHas s (nI k) = (uHas s (nI k) || (decide (j < k) && decide (k ≤ j)))
    have h9 : (decide (j < k) && decide (k ≤ j)) = false := by
      by_cases q : j < k
      · have : ¬ k ≤ j := by omega
        simp [this]
      · simp [q]
    rw [h9, Bool.or_false]⟩
  | n + 1, j, s, hj, hn, hs => by
    unfold uUp uT
    by_cases hlt : j + 1 < nb
    · rw [if_pos hlt, if_pos hlt]
      cases hh : uHeld u j (u 8 j + way) (u 8 (j + 1)) with
      | true =>
        refine ⟨by simpa using hs, fun k _ => ?_⟩
        simp
        omega
      | false =>
        obtain ⟨m0, hm0, rfl⟩ := hs
        obtain ⟨⟨m, hm, hm2⟩, hb⟩ := bit_or m0 hm0 (j + 1) (by omega)
        have ih := uUp_spec (u := u) (nb := nb) (way := way) hnb n (j + 1) (nI m0 ||| (1 <<< (nI (j + 1) &&& 31))) hlt (by omega) ⟨m, hm, hm2⟩
        refine ⟨by simpa using ih.1, fun k hk => ?_⟩
        have h1 := ih.2 k hk
        rw [hb k hk] at h1
        simp only [Bool.false_eq_true, if_false]
        rw [h1]
        have hle := (uT_ge (u := u) (nb := nb) (way := way) n (j + 1)).1
        cases uHas (nI m0) (nI k)
        · by_cases e : k = j + 1
          · subst e
            simp
            exact hle
          · have : (j + 1 < k) ↔ (j < k) := by omega
            simp [e, this]
        · simp
    · rw [if_neg hlt, if_neg hlt]
      exact ⟨hs, fun k hk => by simp; omega⟩
theorem uSet_spec {u : cm_g2} {nb i : Nat} {way : Int32} (hnb : nb ≤ 6) (hi : i < nb) : ∀ k, k < 6 → uHas (uSet u nb i way) (nI k) = (decide (uF u way i ≤ k) && decide (k ≤ uT u nb way nb i)) := by
  intro k hk
  unfold uSet
  have h1 := bit_one i (by omega)
  have h2 := uDown_spec (u := u) (way := way) i _ (by omega) h1.1
  have h3 := uUp_spec (u := u) (nb := nb) (way := way) hnb nb i _ hi (by omega) h2.1
  rw [h3.2 k hk, h2.2 k hk, h1.2 k hk]
  have hF := uF_le (u := u) (way := way) i
  have hT := (uT_ge (u := u) (nb := nb) (way := way) nb i).1
  by_cases e1 : k = i
  · subst e1
    simp
    omega
  · by_cases e2 : k < i
    · have : ¬ i < k := by omega
      have : k ≤ uT u nb way nb i := by omega
      simp [*]
    · have : i < k := by omega
      have : uF u way i ≤ k := by omega
      simp [*]
