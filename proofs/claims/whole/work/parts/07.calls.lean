/-! PART calls: cells made, arrays of references written, arraycopy, calls -/
section CME
variable {D : cm_D} {M : cm_M} {d rc rs : Nat} {Q : Option Value → cm_H → Prop} {cells slots pc : Nat} {ls : List (Option Value)} {st : List Value} {h : cm_H} {sh : List cm_Sh} {hi : Nat → Nat → Int32} {hl : Nat → Nat → Int64} {hr : Nat → Nat → Option Nat}
/-- the abstract heap with a new cell of zeros -/
def cm_mk (h : cm_H) (q : cm_Sh) : cm_H := (h.1 ++ [q], va_up h.2.1 h.1.length (fun _ => 0), va_up h.2.2.1 h.1.length (fun _ => 0), va_up h.2.2.2 h.1.length (fun _ => none))
theorem cm_mk_ne (h : cm_H) (q : cm_Sh) : ∀ j : Nat, j ≠ h.1.length → (cm_mk h q).2.1 j = h.2.1 j ∧ (cm_mk h q).2.2.1 j = h.2.2.1 j ∧ (cm_mk h q).2.2.2 j = h.2.2.2 j := fun _ hj => ⟨va_up_ne _ _ hj, va_up_ne _ _ hj, va_up_ne _ _ hj⟩
theorem cm_top {h : cm_H} {H : Heap} (hP : cm_P D h H) : cm_ad D h.1.length = H.size := by
  obtain ⟨k, hk⟩ := cm_two hP.1.1
  rw [hk]
  show cm_b0 D + k = H.size
  have := hP.1.2
  omega
theorem cm_newO {ci idx : Nat} {C : String} {T : u_T} {N : Nat} {ty0 : Nat → FieldType} (hC : cm_CF ci C T N ty0) (hlk : Cond.classLink M.1.cls idx C ∈ cm_good) (hd : decode M.2.1 pc = .ok (.new idx, 3)) (h1 : cells + 1 ≤ rc) (h2 : slots + N ≤ rs) (kk : cm_g D M d rc rs Q (cells + 1) (slots + N) (pc + 3) ls (.ref h.1.length :: st) (cm_mk h (.inl ci))) : cm_g D M d rc rs Q cells slots pc ls st h := by
  intro p l e R s m args below meth c H locs lsA E hP hK hS hl9
  obtain ⟨hc, hin, hty, hnm, hN, htk, hins, hini⟩ := hC
  have hK0 := E.2.2.2.2.2.2.2.2.2.1
  have hts := E.2.2.2.2.2.1
  have hroom := E.2.2.2.2.2.2.2.2.1
  have hKn := hK0.1 ci _ hc
  refine W.newcK E.1 E.2.1 E.2.2.2.2.1 (hts _ hlk) (hts _ hins) (hts _ hini) rfl hd (by omega) (by omega) hKn.2.1 rfl fun H1 kC hkC e1 z1 o1 => ?_
  have hat : va_at (cm_G D) vwCl (H.size, cm_cell D (cm_mk h (.inl ci)) h.1.length (.inl ci)) H1 := by
    refine ⟨_, hc, (u_born ty0 hts hin hKn hkC e1 hty).to fun j hj => ?_⟩
    have hj2 : j < (cm_ft ci).length := by rw [← hN]; exact hj
    have ht : (cm_ft ci)[j]? = some (cm_ft ci)[j] := List.getElem?_eq_getElem hj2
    have h3 := htk j _ ht
    show defaultValue (ty0 j) = vp_V (cm_fs D (cm_mk h (.inl ci)) ci h.1.length) j
    unfold vp_V
    rw [List.getD_eq_getElem?_getD, cm_fs_at ht]
    generalize (cm_ft ci)[j] = t at h3
    match t, h3 with
    | 0, h3 =>
      rw [show ty0 j = .int from h3]
      show defaultValue .int = cm_v D (.int (va_up h.2.1 h.1.length (fun _ => 0) h.1.length j))
      rw [va_up_self]
      rfl
    | 1, h3 =>
      rw [show ty0 j = .long from h3]
      show defaultValue .long = cm_v D (.long (va_up h.2.2.1 h.1.length (fun _ => 0) h.1.length j))
      rw [va_up_self]
      rfl
    | _ + 2, h3 =>
      show defaultValue (ty0 j) = cm_v D (cm_rf (va_up h.2.2.2 h.1.length (fun _ => none) h.1.length j))
      rw [va_up_self]
      rcases h3 with ⟨C', h3⟩ | ⟨t', h3⟩ <;> rw [h3] <;> rfl
  have k9 := kk p l e R s m args below meth c H1 locs lsA E (cm_P.push hP rfl hat z1 o1 (cm_mk_ne h _)) (cm_K1.push hK rfl (fun t n q => by cases q)) ⟨Nat.le_trans hS.1 (by omega), fun x g1 g2 => (o1 x (Nat.lt_of_lt_of_le g1 hS.1)).trans (hS.2.1 x g1 g2), hS.2.2⟩ hl9
  rw [List.map_cons, show cm_v D (.ref h.1.length) = .ref H.size from congrArg Value.ref (cm_top hP)] at k9
  exact k9
theorem cm_newI {n : Int32} {N : Nat} (hw : Cond.arrayClass .int ∈ cm_good) (hd : decode M.2.1 pc = .ok (.newarray .int, 2)) (hn : ¬ n < 0) (hN : n.toNatClampNeg = N) (hN2 : N ≤ 100000) (h1 : cells + 1 ≤ rc) (h2 : slots + N ≤ rs) (kk : cm_g D M d rc rs Q (cells + 1) (slots + N) (pc + 2) ls (.ref h.1.length :: st) (cm_mk h (.inr (0, N)))) : cm_g D M d rc rs Q cells slots pc ls (.int n :: st) h := by
  intro p l e R s m args below meth c H locs lsA E hP hK hS hl9
  have hK0 := E.2.2.2.2.2.2.2.2.2.1
  have hroom := E.2.2.2.2.2.2.2.2.1
  refine va_newaK (atype := .int) E.1 E.2.1 (E.2.2.2.2.2.1 _ hw) rfl hd rfl hn hN (by show N * 4 ≤ 536870912; omega) (by omega) (by omega) rfl fun H1 cA e1 z1 o1 hAr hNm => ?_
  have hcA : cm_cA D 0 = cA := by
    rw [hK0.2.1 0]
    show (s.vm.findClass ("[" ++ (FieldType.int).toString)).getD 0 = cA
    rw [show s.vm.findClass ("[" ++ (FieldType.int).toString) = some cA from hNm]
    rfl
  have hat : va_at (cm_G D) vwCl (H.size, cm_cell D (cm_mk h (.inr (0, N))) h.1.length (.inr (0, N))) H1 := by
    show H1[H.size]? = some (vp_cell (cm_cA D 0) (N, .inl (va_up h.2.1 h.1.length (fun _ => 0) h.1.length)))
    rw [va_up_self, hcA]
    exact e1
  have k9 := kk p l e R s m args below meth c H1 locs lsA E (cm_P.push hP rfl hat z1 o1 (cm_mk_ne h _)) (cm_K1.push hK rfl (fun t n q => by cases q; rw [hcA]; exact ⟨hAr, hNm⟩)) ⟨Nat.le_trans hS.1 (by omega), fun x g1 g2 => (o1 x (Nat.lt_of_lt_of_le g1 hS.1)).trans (hS.2.1 x g1 g2), hS.2.2⟩ hl9
  rw [List.map_cons, show cm_v D (.ref h.1.length) = .ref H.size from congrArg Value.ref (cm_top hP)] at k9
  exact k9
theorem cm_newL {n : Int32} {N : Nat} (hw : Cond.arrayClass .long ∈ cm_good) (hd : decode M.2.1 pc = .ok (.newarray .long, 2)) (hn : ¬ n < 0) (hN : n.toNatClampNeg = N) (hN2 : N ≤ 100000) (h1 : cells + 1 ≤ rc) (h2 : slots + N ≤ rs) (kk : cm_g D M d rc rs Q (cells + 1) (slots + N) (pc + 2) ls (.ref h.1.length :: st) (cm_mk h (.inr (1, N)))) : cm_g D M d rc rs Q cells slots pc ls (.int n :: st) h := by
  intro p l e R s m args below meth c H locs lsA E hP hK hS hl9
  have hK0 := E.2.2.2.2.2.2.2.2.2.1
  have hroom := E.2.2.2.2.2.2.2.2.1
  refine va_newaK (atype := .long) E.1 E.2.1 (E.2.2.2.2.2.1 _ hw) rfl hd rfl hn hN (by show N * 8 ≤ 536870912; omega) (by omega) (by omega) rfl fun H1 cA e1 z1 o1 hAr hNm => ?_
  have hcA : cm_cA D 1 = cA := by
    rw [hK0.2.1 1]
    show (s.vm.findClass ("[" ++ (FieldType.long).toString)).getD 0 = cA
    rw [show s.vm.findClass ("[" ++ (FieldType.long).toString) = some cA from hNm]
    rfl
  have hat : va_at (cm_G D) vwCl (H.size, cm_cell D (cm_mk h (.inr (1, N))) h.1.length (.inr (1, N))) H1 := by
    show H1[H.size]? = some (vp_cell (cm_cA D 1) (N, .inr (.inl (va_up h.2.2.1 h.1.length (fun _ => 0) h.1.length))))
    rw [va_up_self, hcA]
    exact e1
  have k9 := kk p l e R s m args below meth c H1 locs lsA E (cm_P.push hP rfl hat z1 o1 (cm_mk_ne h _)) (cm_K1.push hK rfl (fun t n q => by cases q; rw [hcA]; exact ⟨hAr, hNm⟩)) ⟨Nat.le_trans hS.1 (by omega), fun x g1 g2 => (o1 x (Nat.lt_of_lt_of_le g1 hS.1)).trans (hS.2.1 x g1 g2), hS.2.2⟩ hl9
  rw [List.map_cons, show cm_v D (.ref h.1.length) = .ref H.size from congrArg Value.ref (cm_top hP)] at k9
  exact k9
theorem cm_newQ {t idx : Nat} {n : Int32} {N : Nat} {C : String} (hC : cm_et t = .object C) (ht : ∃ j, t = j + 2) (hao : ∀ s : State, cm_K0 D s → va_AO C s) (hlk : Cond.classLink M.1.cls idx C ∈ cm_good) (hd : decode M.2.1 pc = .ok (.anewarray idx, 3)) (hn : ¬ n < 0) (hN : n.toNatClampNeg = N) (hN2 : N ≤ 100000) (h1 : cells + 1 ≤ rc) (h2 : slots + N ≤ rs) (kk : cm_g D M d rc rs Q (cells + 1) (slots + N) (pc + 3) ls (.ref h.1.length :: st) (cm_mk h (.inr (t, N)))) : cm_g D M d rc rs Q cells slots pc ls (.int n :: st) h := by
  intro p l e R s m args below meth c H locs lsA E hP hK hS hl9
  have hK0 := E.2.2.2.2.2.2.2.2.2.1
  have hroom := E.2.2.2.2.2.2.2.2.1
  subst hN
  refine W.anew E.1 E.2.1 E.2.2.2.2.1 (E.2.2.2.2.2.1 _ hlk) (va_AO.use (hao s hK0)) rfl hd rfl hn (by omega) (by omega) (by omega) fun cA kA comp f1 f2 f3 f4 => ?_
  generalize hH1 : H.push ({ cls := cA, slots := Array.replicate n.toNatClampNeg .null, vm := .none } : Cell) = H1
  have z1 : H1.size = H.size + 1 := by rw [← hH1, Array.size_push]
  have e1 : H1[H.size]? = some (arrV cA n.toNatClampNeg (fun _ => .null)) := by rw [← hH1, Array.getElem?_push_size, ← arrV_new]
  have o1 : ∀ q : Nat, q < H.size → H1[q]? = H[q]? := fun q hq => by rw [← hH1, Array.getElem?_push, if_neg (Nat.ne_of_lt hq)]
  have hAr : ArrOfT s cA (.object C) := fun N z => ⟨(fun k h => by cases h), kA, f2, comp, f3⟩
  have hcA : cm_cA D t = cA := by
    rw [hK0.2.1 t, hC, f1]
    rfl
  have hat : va_at (cm_G D) vwCl (H.size, cm_cell D (cm_mk h (.inr (t, n.toNatClampNeg))) h.1.length (.inr (t, n.toNatClampNeg))) H1 := by
    obtain ⟨j, rfl⟩ := ht
    show H1[H.size]? = some (vp_cell (cm_cA D (j + 2)) (n.toNatClampNeg, .inr (.inr (.inr (.inr (fun i => (va_up h.2.2.2 h.1.length (fun _ => none) h.1.length i).map (cm_ad D)))))))
    rw [va_up_self, hcA, vp_cell_q]
    exact e1
  have k9 := kk p l e R s m args below meth c H1 locs lsA E (cm_P.push hP rfl hat z1 o1 (cm_mk_ne h _)) (cm_K1.push hK rfl (fun t' n' q => by cases q; rw [hcA, hC]; exact ⟨hAr, kA, comp, f2, f3, f4, f1⟩)) ⟨Nat.le_trans hS.1 (by omega), fun x g1 g2 => (o1 x (Nat.lt_of_lt_of_le g1 hS.1)).trans (hS.2.1 x g1 g2), hS.2.2⟩ hl9
  rw [List.map_cons, show cm_v D (.ref h.1.length) = .ref H.size from congrArg Value.ref (cm_top hP)] at k9
  exact k9
theorem cm_aast {a t n b ci : Nat} {i : Int32} {r : vw_C} (ht : ∃ j, t = j + 2) (hty : cm_et t = .object r.1) (hc : vwCl[ci]? = some r) (hd : decode M.2.1 pc = .ok (.aastore, 1)) (ha : cm_ar sh a t n) (hb : cm_ob sh b ci) (hin : vp_in i n) (kk : cm_g D M d rc rs Q cells slots (pc + 1) ls st (sh, hi, hl, va_up hr a (va_up (hr a) i.toNatClampNeg (some b)))) : cm_g D M d rc rs Q cells slots pc ls (.ref b :: .int i :: .ref a :: st) (sh, hi, hl, hr) := by
  intro p l e R s m args below meth c H locs lsA E hP hK hS hl9
  obtain ⟨k, rfl⟩ := cm_two ha.1
  obtain ⟨kb, rfl⟩ := cm_two hb.1
  obtain ⟨jt, rfl⟩ := ht
  have hK0 := E.2.2.2.2.2.2.2.2.2.1
  have hlt : i.toNatClampNeg < n := Nat.not_le.mp fun q => hin (Or.inr q)
  have h0 : ¬ i < 0 := fun q => hin (Or.inl q)
  obtain ⟨r', hr', cellV, g1, g2, g3, -⟩ := hP.2 kb _ hb.2
  have hcls := (hK0.1 ci r hc).2
  have hRA := (hK k (jt + 2) n ha.2).2
  rw [hty] at hRA
  obtain ⟨kA, comp, k1, k2, k3, -⟩ := hRA
  have hcomp : comp = (cm_G D).1 ci := Option.some.inj (k3.symm.trans hcls.1)
  subst hcomp
  obtain ⟨kC, hkC, -⟩ := hcls.2
  have hcell : H[cm_b0 D + k]? = some (vp_cell (cm_cA D (jt + 2)) (n, .inr (.inr (.inr (.inr (fun j => (hr (k + 2) j).map (cm_ad D))))))) := hP.2 k _ ha.2
  refine W.aast E.1 E.2.1 hcell (fun q h => by cases h) (fun h => by cases h) k1 k2 rfl hkC ⟨h0, by show _ < (arrV _ _ _).slots.size; rw [arrV_size]; exact hlt⟩ g1 (fun q h => by rw [g3] at h; cases h) (by rw [g2]; exact hkC) (by rw [g2]; exact va_assign hcls) rfl rfl hd fun H1 e1 z oq => ?_
  refine kk p l e R s m args below meth c H1 _ lsA E (cm_P.set hP rfl ha.2 ?_ z oq (fun b' hb' => ⟨rfl, rfl, va_up_ne _ _ hb'⟩)) (cm_K1.keep hK rfl) (hS.put z oq (Nat.le_add_right _ _)) hl9
  show H1[cm_b0 D + k]? = some (vp_cell (cm_cA D (jt + 2)) (n, .inr (.inr (.inr (.inr (fun j => (va_up hr (k + 2) (va_up (hr (k + 2)) i.toNatClampNeg (some (kb + 2))) (k + 2) j).map (cm_ad D)))))))
  rw [e1, va_up_self, vp_cell_q, vp_cell_q, arrV_store]
  congr 2
  funext q
  by_cases hq : q = i.toNatClampNeg
  · subst hq
    simp [updV, va_up, va_rf]
    rfl
  · simp [updV, va_up, hq]
end CME
