/-! PART cells: rows of the judgement for instructions that read or write cells -/
def cm_ob (sh : List cm_Sh) (a ci : Nat) : Prop := 2 ≤ a ∧ sh[a]? = some (.inl ci)
def cm_ar (sh : List cm_Sh) (a t n : Nat) : Prop := 2 ≤ a ∧ sh[a]? = some (.inr (t, n))
/-- what is known of a type by the kind of a field -/
def cm_tk (ty : FieldType) : Nat → Prop
  | 0 => ty = .int
  | 1 => ty = .long
  | _ => (∃ C, ty = .object C) ∨ ∃ t, ty = .array t
/-- a class of the tables -/
def cm_CF (ci : Nat) (C : String) (T : u_T) (N : Nat) (ty0 : Nat → FieldType) : Prop := vwCl[ci]? = some (C, T, N) ∧ (∀ w ∈ u_ws C T N, w ∈ cm_good) ∧ (∀ k, k < N → parseFieldDescriptor (T k).2.2.1 = some (ty0 k)) ∧ (∀ a, a < N → ∀ b, b < N → a ≠ b → (T a).2.1 ≠ (T b).2.1) ∧ N = (cm_ft ci).length ∧ (∀ k t, (cm_ft ci)[k]? = some t → cm_tk (ty0 k) t) ∧ Cond.instantiable C N ∈ cm_good ∧ Cond.initialized C ∈ cm_good
def cm_lk (own : String) (idx : Nat) (C n d : String) : Prop := Cond.fieldLink own idx C n d ∈ cm_good ∨ ∃ host, Cond.fieldLinkNest own idx C n d host ∈ cm_nest
/-- a field that an instruction names: class, place, kind -/
def cm_FL (own : String) (idx ci j t : Nat) : Prop := ∃ (C : String) (T : u_T) (N : Nat) (ty0 : Nat → FieldType), cm_CF ci C T N ty0 ∧ j < N ∧ (cm_ft ci)[j]? = some t ∧ (T j).1 = C ∧ cm_lk own idx C (T j).2.1 (T j).2.2.1
/-- one that isn't final; a final one, named in its own class -/
def cm_FP (own : String) (idx ci j t : Nat) : Prop := ∃ (C : String) (T : u_T) (N : Nat) (ty0 : Nat → FieldType), cm_CF ci C T N ty0 ∧ j < N ∧ (cm_ft ci)[j]? = some t ∧ (T j).1 = C ∧ (T j).2.2.2 = false ∧ cm_lk own idx C (T j).2.1 (T j).2.2.1
def cm_FF (own : String) (idx ci j t : Nat) : Prop := ∃ (T : u_T) (N : Nat) (ty0 : Nat → FieldType), cm_CF ci own T N ty0 ∧ j < N ∧ (cm_ft ci)[j]? = some t ∧ (T j).1 = own ∧ (T j).2.2.2 = true ∧ Cond.fieldLink own idx own (T j).2.1 (T j).2.2.1 ∈ cm_good
theorem cm_fs_at {D : cm_D} {h : cm_H} {ci a j t : Nat} (ht : (cm_ft ci)[j]? = some t) : (cm_fs D h ci a)[j]? = some (cm_v D (cm_fv h a j t)) := by
  unfold cm_fs
  rw [List.getElem?_mapIdx, ht]
  rfl
theorem cm_fs_len {D : cm_D} {h : cm_H} {ci a : Nat} : (cm_fs D h ci a).length = (cm_ft ci).length := by unfold cm_fs; rw [List.length_mapIdx]
theorem cm_fs_set {D : cm_D} {h h' : cm_H} {ci a j t : Nat} {v : Value} (ht : (cm_ft ci)[j]? = some t) (hv : cm_v D (cm_fv h' a j t) = v) (ho : ∀ (i t' : Nat), i ≠ j → cm_fv h' a i t' = cm_fv h a i t') : (cm_fs D h ci a).set j v = cm_fs D h' ci a := by
  apply List.ext_getElem?
  intro i
  by_cases e : i = j
  · subst e
    have hl : i < (cm_fs D h ci a).length := by
      rw [cm_fs_len]
      exact (List.getElem?_eq_some_iff.mp ht).1
    rw [List.getElem?_set_self hl, cm_fs_at ht, hv]
  · rw [List.getElem?_set_ne (Ne.symm e)]
    unfold cm_fs
    rw [List.getElem?_mapIdx, List.getElem?_mapIdx]
    cases (cm_ft ci)[i]? with
    | none => rfl
    | some t' =>
      show some (cm_v D (cm_fv h a i t')) = some (cm_v D (cm_fv h' a i t'))
      rw [ho i t' e]
theorem cm_cell_congr {D : cm_D} {h h' : cm_H} {a : Nat} (q : cm_Sh) (h1 : h'.2.1 a = h.2.1 a) (h2 : h'.2.2.1 a = h.2.2.1 a) (h3 : h'.2.2.2 a = h.2.2.2 a) : cm_cell D h' a q = cm_cell D h a q := by
  cases q with
  | inl ci =>
    have : ∀ (j t : Nat), cm_fv h' a j t = cm_fv h a j t := by
      intro j t
      unfold cm_fv
      rw [h1, h2, h3]
    show Sum.inr (ci, cm_fs D h' ci a) = Sum.inr (ci, cm_fs D h ci a)
    unfold cm_fs
    simp only [this]
  | inr p =>
    obtain ⟨t, n⟩ := p
    show Sum.inl (cm_cA D t, cm_arr D h' a t n) = Sum.inl (cm_cA D t, cm_arr D h a t n)
    unfold cm_arr
    rw [h1, h2, h3]
/-- one cell changes -/
theorem cm_P.set {D : cm_D} {h h' : cm_H} {H H1 : Heap} {k : Nat} {q0 : cm_Sh} (hP : cm_P D h H) (hs : h'.1 = h.1) (hk : h.1[k + 2]? = some q0) (he : va_at (cm_G D) vwCl (cm_b0 D + k, cm_cell D h' (k + 2) q0) H1) (hz : H1.size = H.size) (oq : ∀ q : Nat, q ≠ cm_b0 D + k → H1[q]? = H[q]?) (ho : ∀ j : Nat, j ≠ k + 2 → h'.2.1 j = h.2.1 j ∧ h'.2.2.1 j = h.2.2.1 j ∧ h'.2.2.2 j = h.2.2.2 j) : cm_P D h' H1 := by
  refine ⟨by rw [hs, hz]; exact hP.1, fun i q hi => ?_⟩
  rw [hs] at hi
  by_cases e : i = k
  · subst e
    cases hk.symm.trans hi
    exact he
  · obtain ⟨h1, h2, h3⟩ := ho (i + 2) (by omega)
    rw [cm_cell_congr q h1 h2 h3]
    exact (hP.2 i q hi).kept (oq _ (by omega))
/-- one cell comes -/
theorem cm_P.push {D : cm_D} {h h' : cm_H} {H H1 : Heap} {q0 : cm_Sh} (hP : cm_P D h H) (hs : h'.1 = h.1 ++ [q0]) (he : va_at (cm_G D) vwCl (H.size, cm_cell D h' h.1.length q0) H1) (hz : H1.size = H.size + 1) (oq : ∀ q : Nat, q < H.size → H1[q]? = H[q]?) (ho : ∀ j : Nat, j ≠ h.1.length → h'.2.1 j = h.2.1 j ∧ h'.2.2.1 j = h.2.2.1 j ∧ h'.2.2.2 j = h.2.2.2 j) : cm_P D h' H1 := by
  obtain ⟨⟨h0, h1⟩, h2⟩ := hP
  refine ⟨⟨by rw [hs, List.length_append]; omega, by rw [hs, List.length_append, hz]; simp only [List.length_cons, List.length_nil]; omega⟩, fun i q hi => ?_⟩
  rw [hs] at hi
  by_cases e : i + 2 < h.1.length
  · rw [List.getElem?_append_left e] at hi
    obtain ⟨g1, g2, g3⟩ := ho (i + 2) (by omega)
    rw [cm_cell_congr q g1 g2 g3]
    exact (h2 i q hi).kept (oq _ (by show cm_b0 D + i < H.size; omega))
  · rw [List.getElem?_append_right (by omega)] at hi
    have hz : i + 2 - h.1.length < 1 := (List.getElem?_eq_some_iff.mp hi).1
    have hi2 : i + 2 = h.1.length := by omega
    rw [hi2, Nat.sub_self] at hi
    cases hi
    rw [hi2, show cm_b0 D + i = H.size by omega]
    exact he
theorem cm_K1.push {D : cm_D} {h h' : cm_H} {s : State} {q0 : cm_Sh} (hK : cm_K1 D h s) (hs : h'.1 = h.1 ++ [q0]) (hq : ∀ t n, q0 = .inr (t, n) → ArrOfT s (cm_cA D t) (cm_et t) ∧ va_RA s (cm_cA D t) (cm_et t)) : cm_K1 D h' s := by
  intro k t n hk
  rw [hs] at hk
  by_cases e : k + 2 < h.1.length
  · rw [List.getElem?_append_left e] at hk
    exact hK k t n hk
  · rw [List.getElem?_append_right (by omega)] at hk
    have hz : k + 2 - h.1.length < 1 := (List.getElem?_eq_some_iff.mp hk).1
    rw [show k + 2 - h.1.length = 0 by omega] at hk
    cases hk
    exact hq t n rfl
theorem cm_K1.keep {D : cm_D} {h h' : cm_H} {s : State} (hK : cm_K1 D h s) (hs : h'.1 = h.1) : cm_K1 D h' s := fun k t n hk => hK k t n (by rw [← hs]; exact hk)
theorem cm_K0.va {D : cm_D} {s : State} (h : cm_K0 D s) : va_K (cm_G D) vwCl [] s := ⟨h.1, fun k q hq => by simp at hq⟩
theorem cm_K0.vt {D : cm_D} {s : State} {h : cm_H} {k t n : Nat} (h0 : cm_K0 D s) (h1 : cm_K1 D h s) (hk : h.1[k + 2]? = some (.inr (t, n))) : va_K (cm_G D) vwCl [(cm_cA D t, cm_et t)] s := ⟨h0.1, fun i q hq => by
  have hz : i < 1 := (List.getElem?_eq_some_iff.mp hq).1
  rw [show i = 0 by omega] at hq
  cases hq
  exact h1 k t n hk⟩
theorem cm_one {D : cm_D} {h : cm_H} {H : Heap} {k : Nat} {q0 : cm_Sh} (hP : cm_P D h H) (hk : h.1[k + 2]? = some q0) : va_P (cm_G D) vwCl [(cm_b0 D + k, cm_cell D h (k + 2) q0)] H := fun i q hq => by
  have hz : i < 1 := (List.getElem?_eq_some_iff.mp hq).1
  rw [show i = 0 by omega] at hq
  cases hq
  exact hP.2 k q0 hk
theorem cm_two {a : Nat} (h : 2 ≤ a) : ∃ k, a = k + 2 := ⟨a - 2, by omega⟩
section CMC
variable {D : cm_D} {M : cm_M} {d rc rs : Nat} {Q : Option Value → cm_H → Prop} {cells slots pc : Nat} {ls : List (Option Value)} {st : List Value} {h : cm_H}
theorem cm_getf {ci j t idx a : Nat} (hF : cm_FL M.1.cls idx ci j t) (hd : decode M.2.1 pc = .ok (.getfield idx, 3)) (ha : cm_ob h.1 a ci) (kk : cm_g D M d rc rs Q cells slots (pc + 3) ls (cm_fv h a j t :: st) h) : cm_g D M d rc rs Q cells slots pc ls (.ref a :: st) h := by
  intro p l e R s m args below meth c H locs lsA E hP hK hS hl
  obtain ⟨C, T, N, ty0, ⟨hc, hin, -⟩, hj, ht, hTC, hlk⟩ := hF
  obtain ⟨k, rfl⟩ := cm_two ha.1
  have k9 := kk p l e R s m args below meth c H locs lsA E hP hK hS hl
  rcases hlk with hlk | ⟨host, hlk⟩
  · exact va_get (D := cm_G D) (cl := vwCl) (tys := []) (ws := [(cm_b0 D + k, cm_cell D h (k + 2) (.inl ci))]) (v := cm_v D (cm_fv h (k + 2) j t)) E.1 E.2.1 E.2.2.2.2.2.1 hin E.2.2.2.2.1 E.2.2.2.2.2.2.2.2.2.1.va (cm_one hP ha.2) 0 rfl hc j hj (E.2.2.2.2.2.1 _ hlk) (fun x hx => by rw [hTC] at hx; exact hx) (cm_fs_at ht) hd k9
  · exact va_getN (D := cm_G D) (cl := vwCl) (tys := []) (ws := [(cm_b0 D + k, cm_cell D h (k + 2) (.inl ci))]) (v := cm_v D (cm_fv h (k + 2) j t)) E.1 E.2.1 E.2.2.2.2.2.1 hin E.2.2.2.2.1 E.2.2.2.2.2.2.2.2.2.1.va (cm_one hP ha.2) 0 rfl hc j hj (va_Nw.use (cm_nest_on hlk) (E.2.2.2.2.2.2.2.2.2.1.2.2.1 _ hlk)) (fun x hx => by rw [hTC] at hx; exact hx) (cm_fs_at ht) hd k9
end CMC
