/-! PART calls2: arraycopy, calls by contract -/
theorem cm_W.blind (D : cm_D) (h : cm_H) (av : List Value) : FrameBlind (va_Pc av (cm_W D h)) := fun a U g mk q => ⟨q.1, q.2.1, cm_K1.moved (U := U.calling g mk a) (Vm.Alike.refl U.vm) q.2.2.1, cm_K0.same (u := U) (U := U.calling g mk a) rfl q.2.2.2.1, cm_X.moved (U := U.calling g mk a) (Vm.Alike.refl U.vm) (Nat.le_refl _) (fun _ _ _ => rfl) q.2.2.2.2⟩
theorem cm_W.at {D : cm_D} {h : cm_H} {s U : State} {H : Heap} {locs : List Loc} (hP : cm_P D h H) (hK : cm_K1 D h s) (hK0 : cm_K0 D s) (hX : cm_X D s) (hS : va_S (cm_A D) s.heap H locs) (hU : U.heap = H) (hW : s.WarmedH U.vm) : cm_W D h U := ⟨by rw [hU]; exact hP, hK.moved hW.alike, hK0.moved hW, hX.moved hW.alike (by rw [hU]; exact hS.1) (fun q h1 h2 => by rw [hU]; exact hS.2.1 q h1 h2)⟩
/-- what every callee has -/
def cm_MW (M : cm_M) (n : Nat) : Prop := Cond.code M.1 M.2.1 M.2.2.1 M.2.2.2 ∈ cm_good ∧ Cond.initialized M.1.cls ∈ cm_good ∧ (M.1.cls ≠ "java/lang/invoke/MethodHandle" ∧ M.1.cls ≠ "java/lang/invoke/VarHandle") ∧ M.2.2.1 ≤ 30 ∧ (parseMethodDescriptor M.1.desc).map (fun d => d.parameters.length) = some n
def cm_MV (M : cm_M) (n ci : Nat) : Prop := cm_MW M n ∧ Cond.instanceMethod M.1 ∈ cm_good ∧ Cond.selects M.1.cls M.1 M.1 ∈ cm_good ∧ ∃ (T : u_T) (N : Nat), vwCl[ci]? = some (M.1.cls, T, N)
def cm_MS (M : cm_M) (n : Nat) : Prop := cm_MW M n ∧ Cond.static M.1 ∈ cm_good
def cm_MI (M : cm_M) (n : Nat) : Prop := cm_MW M n ∧ M.2.2.2 = none ∧ M.1.name = "<init>" ∧ Cond.instanceMethod M.1 ∈ cm_good
/-- the entry of the pool that names a callee -/
def cm_ML (own : String) (idx : Nat) (y : MethodName) : Prop := Cond.methodLink own idx y ∈ cm_good ∨ ∃ host, Cond.methodLinkNest own idx y host ∈ cm_nest
theorem cm_good_ws {s : State} {args : Array Value} (hts : ∀ w ∈ cm_good, w.before args s = true) {c : Cond} (hc : c ∈ cm_good) : ∀ w ∈ c :: cm_good, ∀ (a' : Array Value) (U : State), s.WarmedH U.vm → w.before a' U = true :=
  pay_in hts (fun w hw => by
    have hm : w ∈ cm_good := by
      rcases List.mem_cons.mp hw with rfl | q
      · exact hc
      · exact q
    exact ⟨hm, good_of_word (List.mem_filter.mp hm).2⟩)
section CMF
variable {D : cm_D} {M : cm_M} {d rc rs : Nat} {Q : Option Value → cm_H → Prop} {cells slots pc : Nat} {ls : List (Option Value)} {st : List Value} {h : cm_H} {sh : List cm_Sh} {hi : Nat → Nat → Int32} {hl : Nat → Nat → Int64} {hr : Nat → Nat → Option Nat}
section RUN
variable {p : Program} {l : Launch} {e : Env} {R : Room} {s : State} {m : MethodId} {args : Array Value} {below : List Frame} {meth : Method} {c : Code} {H : Heap} {locs : List Loc} {lsA : Array Slot} {Z : State → Prop}
theorem cm_run {mc ms : Nat} {stA : List Value} {a' : Array Value} {Q1 : Option Value → cm_H → Prop} (hr : va_Run p l e R s m args below meth c H locs cells slots mc ms (F0 m pc lsA stA) (st.map (cm_v D)) (cm_Q D Q1 a') (cm_A D)) (hS : va_S (cm_A D) s.heap H locs)
    (kk : ∀ (r : Option Value) (h1 : cm_H) (H1 : Heap) (locs1 : List Loc), Q1 r h1 → cm_P D h1 H1 → cm_K1 D h1 s → va_S (cm_A D) s.heap H1 locs1 → W p l e R s m args below meth c H1 locs1 (cells + mc) (slots + ms) Z (F0 m (pc + 3) lsA ((r.toList ++ st).map (cm_v D)))) : W p l e R s m args below meth c H locs cells slots Z (F0 m pc lsA stA) := by
  intro T hT X
  obtain ⟨v, st₀, t, T', L, h0, X', hL, e1, e2, ⟨⟨r, h1, hv, hq, hP1, hK1⟩, hz, hk⟩, stp⟩ := hr T hT X
  have hv' : v = r.map (cm_v D) := by cases hv; rfl
  subst hv'
  rw [h0] at hz hk
  obtain ⟨t2, a1, b1⟩ := kk r h1 T'.heap (locs ++ L) hq (by rw [e1]; exact hP1) (cm_K1.moved (by rw [← e2]; exact X'.warmed.alike.symm) hK1)
    ⟨Nat.le_trans hS.1 (by rw [e1]; exact hz), fun q g1 g2 => by rw [e1, hk q (Nat.lt_of_lt_of_le g1 hS.1) g2]; exact hS.2.1 q g1 g2, fun q hq => by
      rcases List.mem_append.mp hq with g | g
      · exact hS.2.2 q g
      · exact hL q g⟩ T' rfl X'
  refine ⟨t2, stp t2 ?_, b1⟩
  have es : (r.map (cm_v D)).toList ++ st.map (cm_v D) = (r.toList ++ st).map (cm_v D) := by cases r <;> rfl
  show Steps p.tables e below (T'.setTop { F0 m pc lsA stA with pc := pc + 3, stack := (r.map (cm_v D)).toList ++ st.map (cm_v D) }) t2
  rw [es]
  exact a1
end RUN
theorem cm_cat_sum (st : List Value) : ((st.map (cm_v D)).map fun v => v.category).sum = (st.map fun v => v.category).sum := by
  rw [List.map_map]
  congr 1
  apply List.map_congr_left
  intro v _
  exact cm_v_cat D v
theorem cm_sig_len {M1 : cm_M} {n : Nat} (hM : cm_MW M1 n) : ∀ sig, parseMethodDescriptor M1.1.desc = some sig → n = sig.parameters.length := fun sig hs => by
  have h2 := hM.2.2.2.2
  rw [hs] at h2
  exact (Option.some.inj h2).symm
theorem cm_callV {M1 : cm_M} {n idx b ci mc ms d1 : Nat} {As : List Value} {Q1 : Option Value → cm_H → Prop} (hM : cm_MV M1 n ci) (hlk : cm_ML M.1.cls idx M1.1) (hd : decode M.2.1 pc = .ok (.invokevirtual idx, 3)) (hn : As.length = n) (hob : cm_ob h.1 b ci) (hdd : d1 + 1 ≤ d) (hst : (st.map fun v => v.category).sum ≤ 8) (h1 : cells + mc ≤ rc) (h2 : slots + ms ≤ rs)
    (hct : cm_ct D M1 d1 mc ms (.ref b :: As) h Q1) (kk : ∀ (r : Option Value) (h1 : cm_H), Q1 r h1 → cm_g D M d rc rs Q (cells + mc) (slots + ms) (pc + 3) ls (r.toList ++ st) h1) : cm_g D M d rc rs Q cells slots pc ls (As.reverse ++ .ref b :: st) h := by
  intro p l e R s m args below meth c H locs lsA E hP hK hS hl9
  obtain ⟨hMW, hI, hsel, T, N, hc⟩ := hM
  obtain ⟨k, rfl⟩ := cm_two hob.1
  have hts := E.2.2.2.2.2.1
  have hroom := E.2.2.2.2.2.2.2.2.1
  have hK0 := E.2.2.2.2.2.2.2.2.2.1
  have hX := E.2.2.2.2.2.2.2.2.2.2
  have hpre : PreV s H M1.1.cls (cm_b0 D + k) (va_Pc ((Value.ref (k + 2) :: As).map (cm_v D)) (cm_W D h)) (As.map (cm_v D)) := ⟨cm_W.blind D h _, va_recv (q := (M1.1.cls, T, N)) hK0.va (cm_one hP hob.2) (q0 := 0) hc rfl, fun U hU hW => ⟨rfl, cm_W.at hP hK hK0 hX hS hU hW⟩⟩
  have hstk : ((As.reverse ++ Value.ref (k + 2) :: st).map (cm_v D)) = (As.map (cm_v D)).reverse ++ Value.ref (cm_b0 D + k) :: st.map (cm_v D) := by
    rw [List.map_append, List.map_reverse]
    rfl
  rw [hstk]
  have hlo : 8 + (M1.2.2.1 + 11) + 64 * d1 ≤ R.locals := by have := hMW.2.2.2.1; omega
  have hrm : 2 * (F0 m pc lsA ((As.map (cm_v D)).reverse ++ Value.ref (cm_b0 D + k) :: st.map (cm_v D))).monitorRoom + ((st.map (cm_v D)).map fun v => v.category).sum ≤ 8 := lv_room (by rw [cm_cat_sum]; exact hst)
  rcases hlk with hlk | ⟨host, hlk⟩
  · exact cm_run (va_runV (Ts := cm_good) (own := M.1.cls) (C := M1.1.cls) (bytes := M1.2.1) (maxL := M1.2.2.1) (ret := M1.2.2.2) (rm := cm_rm d1 mc ms) (As := As.map (cm_v D)) (rest := st.map (cm_v D)) ⟨E.1, E.2.1, E.2.2.2.1, E.2.2.2.2.1, hts⟩ (hct l) ⟨⟨rfl, rfl, by show d1 + 1 ≤ R.frames; omega, hlo, cm_good_ws hts hMW.1, List.mem_cons_self, hts _ hMW.1, hts _ hMW.2.1, hMW.2.2.1, cm_sig_len hMW, hts _ hlk⟩, hts _ hI, hts _ hsel⟩ hpre rfl (by rw [List.length_map]; exact hn) hl9.1 rfl hrm hd ⟨by omega, by omega⟩) hS (fun r h1 H1 locs1 hq hP1 hK1 hS1 => kk r h1 hq p l e R s m args below meth c H1 locs1 lsA E hP1 hK1 hS1 hl9)
  · exact cm_run (va_runVN (Ts := cm_good) (own := M.1.cls) (C := M1.1.cls) (host := host) (bytes := M1.2.1) (maxL := M1.2.2.1) (ret := M1.2.2.2) (rm := cm_rm d1 mc ms) (As := As.map (cm_v D)) (rest := st.map (cm_v D)) ⟨E.1, E.2.1, E.2.2.2.1, E.2.2.2.2.1, hts⟩ (hct l) ⟨⟨⟨rfl, rfl, by show d1 + 1 ≤ R.frames; omega, hlo, cm_good_ws hts hMW.1, List.mem_cons_self⟩, hts _ hMW.1, hts _ hMW.2.1, hMW.2.2.1, cm_sig_len hMW, va_Nw.use (cm_nest_on hlk) (hK0.2.2.1 _ hlk)⟩, hts _ hI, hts _ hsel⟩ hpre rfl (by rw [List.length_map]; exact hn) hl9.1 rfl hrm hd ⟨by omega, by omega⟩) hS (fun r h1 H1 locs1 hq hP1 hK1 hS1 => kk r h1 hq p l e R s m args below meth c H1 locs1 lsA E hP1 hK1 hS1 hl9)
theorem cm_callS {M1 : cm_M} {n idx mc ms d1 : Nat} {As : List Value} {Q1 : Option Value → cm_H → Prop} (hM : cm_MS M1 n) (hlk : cm_ML M.1.cls idx M1.1) (hd : decode M.2.1 pc = .ok (.invokestatic idx, 3)) (hn : As.length = n) (hdd : d1 + 1 ≤ d) (hst : (st.map fun v => v.category).sum ≤ 8) (h1 : cells + mc ≤ rc) (h2 : slots + ms ≤ rs)
    (hct : cm_ct D M1 d1 mc ms As h Q1) (kk : ∀ (r : Option Value) (h1 : cm_H), Q1 r h1 → cm_g D M d rc rs Q (cells + mc) (slots + ms) (pc + 3) ls (r.toList ++ st) h1) : cm_g D M d rc rs Q cells slots pc ls (As.reverse ++ st) h := by
  intro p l e R s m args below meth c H locs lsA E hP hK hS hl9
  obtain ⟨hMW, hI⟩ := hM
  have hts := E.2.2.2.2.2.1
  have hroom := E.2.2.2.2.2.2.2.2.1
  have hK0 := E.2.2.2.2.2.2.2.2.2.1
  have hX := E.2.2.2.2.2.2.2.2.2.2
  have hpre : PreS s H (va_Pc (As.map (cm_v D)) (cm_W D h)) (As.map (cm_v D)) := ⟨cm_W.blind D h _, fun U hU hW => ⟨rfl, cm_W.at hP hK hK0 hX hS hU hW⟩⟩
  have hstk : ((As.reverse ++ st).map (cm_v D)) = (As.map (cm_v D)).reverse ++ st.map (cm_v D) := by
    rw [List.map_append, List.map_reverse]
  rw [hstk]
  have hlo : 8 + (M1.2.2.1 + 11) + 64 * d1 ≤ R.locals := by have := hMW.2.2.2.1; omega
  have hrm : 2 * (F0 m pc lsA ((As.map (cm_v D)).reverse ++ st.map (cm_v D))).monitorRoom + ((st.map (cm_v D)).map fun v => v.category).sum ≤ 8 := lv_room (by rw [cm_cat_sum]; exact hst)
  rcases hlk with hlk | ⟨host, hlk⟩
  · exact cm_run (va_runS (Ts := cm_good) (own := M.1.cls) (bytes := M1.2.1) (maxL := M1.2.2.1) (ret := M1.2.2.2) (rm := cm_rm d1 mc ms) (As := As.map (cm_v D)) (rest := st.map (cm_v D)) ⟨E.1, E.2.1, E.2.2.2.1, E.2.2.2.2.1, hts⟩ (hct l) ⟨⟨rfl, rfl, by show d1 + 1 ≤ R.frames; omega, hlo, cm_good_ws hts hMW.1, List.mem_cons_self, hts _ hMW.1, hts _ hMW.2.1, hMW.2.2.1, cm_sig_len hMW, hts _ hlk⟩, hts _ hI⟩ hpre rfl (by rw [List.length_map]; exact hn) hl9.1 rfl hrm hd ⟨by omega, by omega⟩) hS (fun r h1 H1 locs1 hq hP1 hK1 hS1 => kk r h1 hq p l e R s m args below meth c H1 locs1 lsA E hP1 hK1 hS1 hl9)
  · exact cm_run (va_runSN (Ts := cm_good) (own := M.1.cls) (host := host) (bytes := M1.2.1) (maxL := M1.2.2.1) (ret := M1.2.2.2) (rm := cm_rm d1 mc ms) (As := As.map (cm_v D)) (rest := st.map (cm_v D)) ⟨E.1, E.2.1, E.2.2.2.1, E.2.2.2.2.1, hts⟩ (hct l) ⟨⟨⟨rfl, rfl, by show d1 + 1 ≤ R.frames; omega, hlo, cm_good_ws hts hMW.1, List.mem_cons_self⟩, hts _ hMW.1, hts _ hMW.2.1, hMW.2.2.1, cm_sig_len hMW, va_Nw.use (cm_nest_on hlk) (hK0.2.2.1 _ hlk)⟩, hts _ hI, trivial⟩ hpre rfl (by rw [List.length_map]; exact hn) hl9.1 rfl hrm hd ⟨by omega, by omega⟩) hS (fun r h1 H1 locs1 hq hP1 hK1 hS1 => kk r h1 hq p l e R s m args below meth c H1 locs1 lsA E hP1 hK1 hS1 hl9)
theorem cm_callI {M1 : cm_M} {n idx b mc ms d1 : Nat} {As : List Value} {Q1 : Option Value → cm_H → Prop} (hM : cm_MI M1 n) (hlk : cm_ML M.1.cls idx M1.1) (hd : decode M.2.1 pc = .ok (.invokespecial idx, 3)) (hn : As.length = n) (hdd : d1 + 1 ≤ d) (hst : (st.map fun v => v.category).sum ≤ 8) (h1 : cells + mc ≤ rc) (h2 : slots + ms ≤ rs)
    (hct : cm_ct D M1 d1 mc ms (.ref b :: As) h Q1) (kk : ∀ (r : Option Value) (h1 : cm_H), Q1 r h1 → cm_g D M d rc rs Q (cells + mc) (slots + ms) (pc + 3) ls (r.toList ++ st) h1) : cm_g D M d rc rs Q cells slots pc ls (As.reverse ++ .ref b :: st) h := by
  intro p l e R s m args below meth c H locs lsA E hP hK hS hl9
  obtain ⟨hMW, hret, hnm, hI⟩ := hM
  have hts := E.2.2.2.2.2.1
  have hroom := E.2.2.2.2.2.2.2.2.1
  have hK0 := E.2.2.2.2.2.2.2.2.2.1
  have hX := E.2.2.2.2.2.2.2.2.2.2
  have hpre : PreS s H (va_Pc ((Value.ref b :: As).map (cm_v D)) (cm_W D h)) (Value.ref (cm_ad D b) :: As.map (cm_v D)) := ⟨cm_W.blind D h _, fun U hU hW => ⟨rfl, cm_W.at hP hK hK0 hX hS hU hW⟩⟩
  have hstk : ((As.reverse ++ Value.ref b :: st).map (cm_v D)) = (As.map (cm_v D)).reverse ++ Value.ref (cm_ad D b) :: st.map (cm_v D) := by
    rw [List.map_append, List.map_reverse]
    rfl
  rw [hstk]
  have hlo : 8 + (M1.2.2.1 + 11) + 64 * d1 ≤ R.locals := by have := hMW.2.2.2.1; omega
  have hrm : 2 * (F0 m pc lsA ((As.map (cm_v D)).reverse ++ Value.ref (cm_ad D b) :: st.map (cm_v D))).monitorRoom + ((st.map (cm_v D)).map fun v => v.category).sum ≤ 8 := lv_room (by rw [cm_cat_sum]; exact hst)
  have hcode := hMW.1
  have hct9 := hct l
  rw [hret] at hcode hct9
  rcases hlk with hlk | ⟨host, hlk⟩
  · exact cm_run (va_runI (Ts := cm_good) (own := M.1.cls) (bytes := M1.2.1) (maxL := M1.2.2.1) (rm := cm_rm d1 mc ms) (b := cm_ad D b) (As := As.map (cm_v D)) (rest := st.map (cm_v D)) ⟨E.1, E.2.1, E.2.2.2.1, E.2.2.2.2.1, hts⟩ hct9 ⟨⟨rfl, rfl, by show d1 + 1 ≤ R.frames; omega, hlo, cm_good_ws hts hcode, List.mem_cons_self, hts _ hcode, hts _ hMW.2.1, hMW.2.2.1, cm_sig_len hMW, hts _ hlk⟩, hnm, hts _ hI⟩ hpre rfl (by rw [List.length_map]; exact hn) hl9.1 rfl hrm hd ⟨by omega, by omega⟩) hS (fun r h1 H1 locs1 hq hP1 hK1 hS1 => kk r h1 hq p l e R s m args below meth c H1 locs1 lsA E hP1 hK1 hS1 hl9)
  · exact cm_run (va_runIN (Ts := cm_good) (own := M.1.cls) (host := host) (bytes := M1.2.1) (maxL := M1.2.2.1) (rm := cm_rm d1 mc ms) (b := cm_ad D b) (As := As.map (cm_v D)) (rest := st.map (cm_v D)) ⟨E.1, E.2.1, E.2.2.2.1, E.2.2.2.2.1, hts⟩ hct9 ⟨⟨⟨rfl, rfl, by show d1 + 1 ≤ R.frames; omega, hlo, cm_good_ws hts hcode, List.mem_cons_self⟩, hts _ hcode, hts _ hMW.2.1, hMW.2.2.1, cm_sig_len hMW, va_Nw.use (cm_nest_on hlk) (hK0.2.2.1 _ hlk)⟩, hnm, hts _ hI⟩ hpre rfl (by rw [List.length_map]; exact hn) hl9.1 rfl hrm hd ⟨by omega, by omega⟩) hS (fun r h1 H1 locs1 hq hP1 hK1 hS1 => kk r h1 hq p l e R s m args below meth c H1 locs1 lsA E hP1 hK1 hS1 hl9)
/-- Object.<init> -/
theorem cm_objInit {idx b : Nat} (hw : Cond.methodLink M.1.cls idx objectInit ∈ cm_good ∧ Cond.instanceMethod objectInit ∈ cm_good ∧ Cond.code objectInit ⟨#[0xb1]⟩ 1 none ∈ cm_good) (hd : decode M.2.1 pc = .ok (.invokespecial idx, 3)) (h1 : 1 ≤ d) (hst : (st.map fun v => v.category).sum ≤ 8) (kk : cm_g D M d rc rs Q cells slots (pc + 3) ls st h) : cm_g D M d rc rs Q cells slots pc ls (.ref b :: st) h := by
  intro p l e R s m args below meth c H locs lsA E hP hK hS hl9
  have hts := E.2.2.2.2.2.1
  have hroom := E.2.2.2.2.2.2.2.2.1
  have hrm : 2 * (F0 m pc lsA (List.map (cm_v D) (Value.ref b :: st))).monitorRoom + ((st.map (cm_v D)).map fun v => v.category).sum ≤ 8 := lv_room (by rw [cm_cat_sum]; exact hst)
  exact W.objInit E.1 E.2.1 E.2.2.2.2.1 (hts _ hw.1) (hts _ hw.2.1) (hts _ hw.2.2) rfl (by rw [E.2.2.2.1]; exact hl9.1) rfl hd (by omega) (by omega) (kk p l e R s m args below meth c H locs lsA E hP hK hS hl9)

theorem cm_V0 {M1 : cm_M} {idx b ci d1 : Nat} {Q1 : Option Value → cm_H → Prop} (hM : cm_MV M1 0 ci) (hlk : cm_ML M.1.cls idx M1.1) (hd : decode M.2.1 pc = .ok (.invokevirtual idx, 3)) (hob : cm_ob h.1 b ci) (hdd : d1 + 1 ≤ d) (hst : (st.map fun v => v.category).sum ≤ 8) (h1 : cells ≤ rc) (h2 : slots ≤ rs) (hct : cm_ct D M1 d1 0 0 (.ref b :: []) h Q1) (kk : ∀ (r : Option Value) (h1 : cm_H), Q1 r h1 → cm_g D M d rc rs Q cells slots (pc + 3) ls (r.toList ++ st) h1) : cm_g D M d rc rs Q cells slots pc ls (.ref b :: st) h := cm_callV (As := []) hM hlk hd rfl hob hdd hst h1 h2 hct kk
theorem cm_S0 {M1 : cm_M} {idx d1 : Nat} {Q1 : Option Value → cm_H → Prop} (hM : cm_MS M1 0) (hlk : cm_ML M.1.cls idx M1.1) (hd : decode M.2.1 pc = .ok (.invokestatic idx, 3)) (hdd : d1 + 1 ≤ d) (hst : (st.map fun v => v.category).sum ≤ 8) (h1 : cells ≤ rc) (h2 : slots ≤ rs) (hct : cm_ct D M1 d1 0 0 [] h Q1) (kk : ∀ (r : Option Value) (h1 : cm_H), Q1 r h1 → cm_g D M d rc rs Q cells slots (pc + 3) ls (r.toList ++ st) h1) : cm_g D M d rc rs Q cells slots pc ls (st) h := cm_callS (As := []) hM hlk hd rfl hdd hst h1 h2 hct kk
theorem cm_I0 {M1 : cm_M} {idx b mc ms d1 : Nat} {Q1 : Option Value → cm_H → Prop} (hM : cm_MI M1 0) (hlk : cm_ML M.1.cls idx M1.1) (hd : decode M.2.1 pc = .ok (.invokespecial idx, 3)) (hdd : d1 + 1 ≤ d) (hst : (st.map fun v => v.category).sum ≤ 8) (h1 : cells + mc ≤ rc) (h2 : slots + ms ≤ rs) (hct : cm_ct D M1 d1 mc ms (.ref b :: []) h Q1) (kk : ∀ (r : Option Value) (h1 : cm_H), Q1 r h1 → cm_g D M d rc rs Q (cells + mc) (slots + ms) (pc + 3) ls (r.toList ++ st) h1) : cm_g D M d rc rs Q cells slots pc ls (.ref b :: st) h := cm_callI (As := []) hM hlk hd rfl hdd hst h1 h2 hct kk
theorem cm_V1 {M1 : cm_M} {idx b ci d1 : Nat} {a1 : Value} {Q1 : Option Value → cm_H → Prop} (hM : cm_MV M1 1 ci) (hlk : cm_ML M.1.cls idx M1.1) (hd : decode M.2.1 pc = .ok (.invokevirtual idx, 3)) (hob : cm_ob h.1 b ci) (hdd : d1 + 1 ≤ d) (hst : (st.map fun v => v.category).sum ≤ 8) (h1 : cells ≤ rc) (h2 : slots ≤ rs) (hct : cm_ct D M1 d1 0 0 (.ref b :: [a1]) h Q1) (kk : ∀ (r : Option Value) (h1 : cm_H), Q1 r h1 → cm_g D M d rc rs Q cells slots (pc + 3) ls (r.toList ++ st) h1) : cm_g D M d rc rs Q cells slots pc ls (a1 :: .ref b :: st) h := cm_callV (As := [a1]) hM hlk hd rfl hob hdd hst h1 h2 hct kk
theorem cm_S1 {M1 : cm_M} {idx d1 : Nat} {a1 : Value} {Q1 : Option Value → cm_H → Prop} (hM : cm_MS M1 1) (hlk : cm_ML M.1.cls idx M1.1) (hd : decode M.2.1 pc = .ok (.invokestatic idx, 3)) (hdd : d1 + 1 ≤ d) (hst : (st.map fun v => v.category).sum ≤ 8) (h1 : cells ≤ rc) (h2 : slots ≤ rs) (hct : cm_ct D M1 d1 0 0 [a1] h Q1) (kk : ∀ (r : Option Value) (h1 : cm_H), Q1 r h1 → cm_g D M d rc rs Q cells slots (pc + 3) ls (r.toList ++ st) h1) : cm_g D M d rc rs Q cells slots pc ls (a1 :: st) h := cm_callS (As := [a1]) hM hlk hd rfl hdd hst h1 h2 hct kk
theorem cm_I1 {M1 : cm_M} {idx b mc ms d1 : Nat} {a1 : Value} {Q1 : Option Value → cm_H → Prop} (hM : cm_MI M1 1) (hlk : cm_ML M.1.cls idx M1.1) (hd : decode M.2.1 pc = .ok (.invokespecial idx, 3)) (hdd : d1 + 1 ≤ d) (hst : (st.map fun v => v.category).sum ≤ 8) (h1 : cells + mc ≤ rc) (h2 : slots + ms ≤ rs) (hct : cm_ct D M1 d1 mc ms (.ref b :: [a1]) h Q1) (kk : ∀ (r : Option Value) (h1 : cm_H), Q1 r h1 → cm_g D M d rc rs Q (cells + mc) (slots + ms) (pc + 3) ls (r.toList ++ st) h1) : cm_g D M d rc rs Q cells slots pc ls (a1 :: .ref b :: st) h := cm_callI (As := [a1]) hM hlk hd rfl hdd hst h1 h2 hct kk
theorem cm_V2 {M1 : cm_M} {idx b ci d1 : Nat} {a1 a2 : Value} {Q1 : Option Value → cm_H → Prop} (hM : cm_MV M1 2 ci) (hlk : cm_ML M.1.cls idx M1.1) (hd : decode M.2.1 pc = .ok (.invokevirtual idx, 3)) (hob : cm_ob h.1 b ci) (hdd : d1 + 1 ≤ d) (hst : (st.map fun v => v.category).sum ≤ 8) (h1 : cells ≤ rc) (h2 : slots ≤ rs) (hct : cm_ct D M1 d1 0 0 (.ref b :: [a1, a2]) h Q1) (kk : ∀ (r : Option Value) (h1 : cm_H), Q1 r h1 → cm_g D M d rc rs Q cells slots (pc + 3) ls (r.toList ++ st) h1) : cm_g D M d rc rs Q cells slots pc ls (a2 :: a1 :: .ref b :: st) h := cm_callV (As := [a1, a2]) hM hlk hd rfl hob hdd hst h1 h2 hct kk
theorem cm_S2 {M1 : cm_M} {idx d1 : Nat} {a1 a2 : Value} {Q1 : Option Value → cm_H → Prop} (hM : cm_MS M1 2) (hlk : cm_ML M.1.cls idx M1.1) (hd : decode M.2.1 pc = .ok (.invokestatic idx, 3)) (hdd : d1 + 1 ≤ d) (hst : (st.map fun v => v.category).sum ≤ 8) (h1 : cells ≤ rc) (h2 : slots ≤ rs) (hct : cm_ct D M1 d1 0 0 [a1, a2] h Q1) (kk : ∀ (r : Option Value) (h1 : cm_H), Q1 r h1 → cm_g D M d rc rs Q cells slots (pc + 3) ls (r.toList ++ st) h1) : cm_g D M d rc rs Q cells slots pc ls (a2 :: a1 :: st) h := cm_callS (As := [a1, a2]) hM hlk hd rfl hdd hst h1 h2 hct kk
theorem cm_V3 {M1 : cm_M} {idx b ci d1 : Nat} {a1 a2 a3 : Value} {Q1 : Option Value → cm_H → Prop} (hM : cm_MV M1 3 ci) (hlk : cm_ML M.1.cls idx M1.1) (hd : decode M.2.1 pc = .ok (.invokevirtual idx, 3)) (hob : cm_ob h.1 b ci) (hdd : d1 + 1 ≤ d) (hst : (st.map fun v => v.category).sum ≤ 8) (h1 : cells ≤ rc) (h2 : slots ≤ rs) (hct : cm_ct D M1 d1 0 0 (.ref b :: [a1, a2, a3]) h Q1) (kk : ∀ (r : Option Value) (h1 : cm_H), Q1 r h1 → cm_g D M d rc rs Q cells slots (pc + 3) ls (r.toList ++ st) h1) : cm_g D M d rc rs Q cells slots pc ls (a3 :: a2 :: a1 :: .ref b :: st) h := cm_callV (As := [a1, a2, a3]) hM hlk hd rfl hob hdd hst h1 h2 hct kk
theorem cm_S3 {M1 : cm_M} {idx d1 : Nat} {a1 a2 a3 : Value} {Q1 : Option Value → cm_H → Prop} (hM : cm_MS M1 3) (hlk : cm_ML M.1.cls idx M1.1) (hd : decode M.2.1 pc = .ok (.invokestatic idx, 3)) (hdd : d1 + 1 ≤ d) (hst : (st.map fun v => v.category).sum ≤ 8) (h1 : cells ≤ rc) (h2 : slots ≤ rs) (hct : cm_ct D M1 d1 0 0 [a1, a2, a3] h Q1) (kk : ∀ (r : Option Value) (h1 : cm_H), Q1 r h1 → cm_g D M d rc rs Q cells slots (pc + 3) ls (r.toList ++ st) h1) : cm_g D M d rc rs Q cells slots pc ls (a3 :: a2 :: a1 :: st) h := cm_callS (As := [a1, a2, a3]) hM hlk hd rfl hdd hst h1 h2 hct kk
theorem cm_V4 {M1 : cm_M} {idx b ci d1 : Nat} {a1 a2 a3 a4 : Value} {Q1 : Option Value → cm_H → Prop} (hM : cm_MV M1 4 ci) (hlk : cm_ML M.1.cls idx M1.1) (hd : decode M.2.1 pc = .ok (.invokevirtual idx, 3)) (hob : cm_ob h.1 b ci) (hdd : d1 + 1 ≤ d) (hst : (st.map fun v => v.category).sum ≤ 8) (h1 : cells ≤ rc) (h2 : slots ≤ rs) (hct : cm_ct D M1 d1 0 0 (.ref b :: [a1, a2, a3, a4]) h Q1) (kk : ∀ (r : Option Value) (h1 : cm_H), Q1 r h1 → cm_g D M d rc rs Q cells slots (pc + 3) ls (r.toList ++ st) h1) : cm_g D M d rc rs Q cells slots pc ls (a4 :: a3 :: a2 :: a1 :: .ref b :: st) h := cm_callV (As := [a1, a2, a3, a4]) hM hlk hd rfl hob hdd hst h1 h2 hct kk
theorem cm_S4 {M1 : cm_M} {idx d1 : Nat} {a1 a2 a3 a4 : Value} {Q1 : Option Value → cm_H → Prop} (hM : cm_MS M1 4) (hlk : cm_ML M.1.cls idx M1.1) (hd : decode M.2.1 pc = .ok (.invokestatic idx, 3)) (hdd : d1 + 1 ≤ d) (hst : (st.map fun v => v.category).sum ≤ 8) (h1 : cells ≤ rc) (h2 : slots ≤ rs) (hct : cm_ct D M1 d1 0 0 [a1, a2, a3, a4] h Q1) (kk : ∀ (r : Option Value) (h1 : cm_H), Q1 r h1 → cm_g D M d rc rs Q cells slots (pc + 3) ls (r.toList ++ st) h1) : cm_g D M d rc rs Q cells slots pc ls (a4 :: a3 :: a2 :: a1 :: st) h := cm_callS (As := [a1, a2, a3, a4]) hM hlk hd rfl hdd hst h1 h2 hct kk
theorem cm_V5 {M1 : cm_M} {idx b ci d1 : Nat} {a1 a2 a3 a4 a5 : Value} {Q1 : Option Value → cm_H → Prop} (hM : cm_MV M1 5 ci) (hlk : cm_ML M.1.cls idx M1.1) (hd : decode M.2.1 pc = .ok (.invokevirtual idx, 3)) (hob : cm_ob h.1 b ci) (hdd : d1 + 1 ≤ d) (hst : (st.map fun v => v.category).sum ≤ 8) (h1 : cells ≤ rc) (h2 : slots ≤ rs) (hct : cm_ct D M1 d1 0 0 (.ref b :: [a1, a2, a3, a4, a5]) h Q1) (kk : ∀ (r : Option Value) (h1 : cm_H), Q1 r h1 → cm_g D M d rc rs Q cells slots (pc + 3) ls (r.toList ++ st) h1) : cm_g D M d rc rs Q cells slots pc ls (a5 :: a4 :: a3 :: a2 :: a1 :: .ref b :: st) h := cm_callV (As := [a1, a2, a3, a4, a5]) hM hlk hd rfl hob hdd hst h1 h2 hct kk
theorem cm_S5 {M1 : cm_M} {idx d1 : Nat} {a1 a2 a3 a4 a5 : Value} {Q1 : Option Value → cm_H → Prop} (hM : cm_MS M1 5) (hlk : cm_ML M.1.cls idx M1.1) (hd : decode M.2.1 pc = .ok (.invokestatic idx, 3)) (hdd : d1 + 1 ≤ d) (hst : (st.map fun v => v.category).sum ≤ 8) (h1 : cells ≤ rc) (h2 : slots ≤ rs) (hct : cm_ct D M1 d1 0 0 [a1, a2, a3, a4, a5] h Q1) (kk : ∀ (r : Option Value) (h1 : cm_H), Q1 r h1 → cm_g D M d rc rs Q cells slots (pc + 3) ls (r.toList ++ st) h1) : cm_g D M d rc rs Q cells slots pc ls (a5 :: a4 :: a3 :: a2 :: a1 :: st) h := cm_callS (As := [a1, a2, a3, a4, a5]) hM hlk hd rfl hdd hst h1 h2 hct kk
theorem cm_copy {a0 a n0 n1 idx : Nat} {sp dp n : Int32} (hw : Cond.methodLink M.1.cls idx arraycopyName ∈ cm_good ∧ Cond.native arraycopyName ∈ cm_good ∧ Cond.static arraycopyName ∈ cm_good ∧ Cond.initialized "java/lang/System" ∈ cm_good) (hd : decode M.2.1 pc = .ok (.invokestatic idx, 3)) (ha0 : cm_ar sh a0 0 n0) (ha : cm_ar sh a 0 n1)
    (h1 : ¬ sp < 0) (h2 : ¬ dp < 0) (h3 : ¬ n < 0) (h4 : sp.toNatClampNeg + n.toNatClampNeg ≤ n0) (h5 : dp.toNatClampNeg + n.toNatClampNeg ≤ n1) (hdd : 1 ≤ d) (hst : (st.map fun v => v.category).sum + (nativeFrameWords "java/lang/System" "arraycopy" 5 + 11) ≤ 64 * d)
    (kk : cm_g D M d rc rs Q cells slots (pc + 3) ls st (sh, va_up hi a (va_cpy (hi a0) (hi a) sp.toNatClampNeg dp.toNatClampNeg n.toNatClampNeg), hl, hr)) : cm_g D M d rc rs Q cells slots pc ls (.int n :: .int dp :: .ref a :: .int sp :: .ref a0 :: st) (sh, hi, hl, hr) := by
  have nn : ∀ z : Int32, ¬ z < 0 → z.toInt = (z.toNatClampNeg : Int) := by
    intro z hz
    have hz0 : (0 : Int) ≤ z.toInt := by
      have := Int32.not_lt.mp hz
      simpa using Int32.le_iff_toInt_le.mp this
    show z.toInt = ((z.toInt.toNat : Nat) : Int)
    omega
  intro p l e R s m args below meth c H locs lsA E hP hK hS hl9 T hT X
  obtain ⟨k0, rfl⟩ := cm_two ha0.1
  obtain ⟨k, rfl⟩ := cm_two ha.1
  have hts := E.2.2.2.2.2.1
  have hroom := E.2.2.2.2.2.2.2.2.1
  have hc0 : H[cm_b0 D + k0]? = some (vp_cell (cm_cA D 0) (n0, .inl (hi (k0 + 2)))) := hP.2 k0 _ ha0.2
  have hc1 : H[cm_b0 D + k]? = some (vp_cell (cm_cA D 0) (n1, .inl (hi (k + 2)))) := hP.2 k _ ha.2
  obtain ⟨-, kc0, hk0, cm0, hkk0⟩ := (hK k0 0 n0 ha0.2).1 n0 (fun j => .int (hi (k0 + 2) j))
  obtain ⟨-, kc1, hk1, cm1, hkk1⟩ := (hK k 0 n1 ha.2).1 n1 (fun j => .int (hi (k + 2) j))
  obtain ⟨vm', X', step⟩ := X.arraycopy E.1 E.2.2.2.2.1 (hts _ hw.1) (hts _ hw.2.1) (hts _ hw.2.2.1) (hts _ hw.2.2.2) (src := cm_b0 D + k0) (dst := cm_b0 D + k) (cs := vp_cell (cm_cA D 0) (n0, .inl (hi (k0 + 2)))) (cd := vp_cell (cm_cA D 0) (n1, .inl (hi (k + 2)))) (srcPos := sp) (destPos := dp) (n := n) (by rw [hT]; exact hc0) (by rw [hT]; exact hc1)
    (fun _ h => by cases h) (fun _ h => by cases h) (fun h => by cases h) (fun h => by cases h) hk0 hk1 hkk0 hkk1 (by simp [cm_et, refKind]) h1 h2 h3
    (by rw [nn sp h1, nn n h3]; show ¬ _ > ((arrV (cm_cA D 0) n0 (fun j => .int (hi (k0 + 2) j))).slots.size : Int); rw [arrV_size]; omega)
    (by rw [nn dp h2, nn n h3]; show ¬ _ > ((arrV (cm_cA D 0) n1 (fun j => .int (hi (k + 2) j))).slots.size : Int); rw [arrV_size]; omega)
    (fun vm₁ _ i hi9 => by
      have e0 : (vp_cell (cm_cA D 0) (n0, .inl (hi (k0 + 2)))).slots.getD (sp.toNatClampNeg + i) .null = .int (hi (k0 + 2) (sp.toNatClampNeg + i)) := by
        show (arrV (cm_cA D 0) n0 (fun j => .int (hi (k0 + 2) j))).slots.getD _ _ = _
        rw [Array.getD_eq_getD_getElem?, arrV_read _ _ (by omega)]
        rfl
      refine ⟨?_, ?_⟩
      · rw [e0]
        rfl
      · rw [e0]
        exact trivial)
    (g := F0 m pc lsA (.int n :: .int dp :: .ref (cm_b0 D + k) :: .int sp :: .ref (cm_b0 D + k0) :: st.map (cm_v D))) rfl (by rw [E.2.2.2.1]; exact hl9.1) (rest := st.map (cm_v D)) rfl (by rw [E.2.1]; exact hd) (by omega) (by show 2 * 0 + _ + _ ≤ _; rw [cm_cat_sum]; omega)
  have e1 : copied (vp_cell (cm_cA D 0) (n0, .inl (hi (k0 + 2)))) (vp_cell (cm_cA D 0) (n1, .inl (hi (k + 2)))) sp dp n = vp_cell (cm_cA D 0) (n1, .inl (va_cpy (hi (k0 + 2)) (hi (k + 2)) sp.toNatClampNeg dp.toNatClampNeg n.toNatClampNeg)) := va_copied (fun z => .int z) (cm_cA D 0) (cm_cA D 0) (hi (k0 + 2)) (hi (k + 2)) h4
  rw [e1] at X' step
  have hlt : cm_b0 D + k < H.size := (Array.getElem?_eq_some_iff.mp hc1).1
  have hheap : ((T.setVm vm').setCell (cm_b0 D + k) (vp_cell (cm_cA D 0) (n1, .inl (va_cpy (hi (k0 + 2)) (hi (k + 2)) sp.toNatClampNeg dp.toNatClampNeg n.toNatClampNeg)))).heap = H.setIfInBounds (cm_b0 D + k) (vp_cell (cm_cA D 0) (n1, .inl (va_cpy (hi (k0 + 2)) (hi (k + 2)) sp.toNatClampNeg dp.toNatClampNeg n.toNatClampNeg))) := by rw [← hT]; rfl
  have oq : ∀ q : Nat, q ≠ cm_b0 D + k → (H.setIfInBounds (cm_b0 D + k) (vp_cell (cm_cA D 0) (n1, .inl (va_cpy (hi (k0 + 2)) (hi (k + 2)) sp.toNatClampNeg dp.toNatClampNeg n.toNatClampNeg))))[q]? = H[q]? := fun q hq => by simp [Array.getElem?_setIfInBounds, Ne.symm hq]
  have hz : (H.setIfInBounds (cm_b0 D + k) (vp_cell (cm_cA D 0) (n1, .inl (va_cpy (hi (k0 + 2)) (hi (k + 2)) sp.toNatClampNeg dp.toNatClampNeg n.toNatClampNeg)))).size = H.size := by simp
  have hat : va_at (cm_G D) vwCl (cm_b0 D + k, cm_cell D (sh, va_up hi (k + 2) (va_cpy (hi (k0 + 2)) (hi (k + 2)) sp.toNatClampNeg dp.toNatClampNeg n.toNatClampNeg), hl, hr) (k + 2) (.inr (0, n1))) (H.setIfInBounds (cm_b0 D + k) (vp_cell (cm_cA D 0) (n1, .inl (va_cpy (hi (k0 + 2)) (hi (k + 2)) sp.toNatClampNeg dp.toNatClampNeg n.toNatClampNeg)))) := by
    show (H.setIfInBounds (cm_b0 D + k) _)[cm_b0 D + k]? = some (vp_cell (cm_cA D 0) (n1, .inl (va_up hi (k + 2) (va_cpy (hi (k0 + 2)) (hi (k + 2)) sp.toNatClampNeg dp.toNatClampNeg n.toNatClampNeg) (k + 2))))
    rw [va_up_self]
    simp [Array.getElem?_setIfInBounds, hlt]
  obtain ⟨t, a1, b1⟩ := kk p l e R s m args below meth c _ _ lsA E (cm_P.set hP rfl ha.2 hat hz oq (fun b hb => ⟨va_up_ne _ _ hb, rfl, rfl⟩)) (cm_K1.keep hK rfl) ⟨by rw [hz]; exact hS.1, fun q g1 g2 => by
      rw [oq q (fun e => g2 (by rw [e]; exact Nat.le_add_right _ _))]
      exact hS.2.1 q g1 g2, fun q hq => by
      rcases List.mem_append.mp hq with g | g
      · exact hS.2.2 q g
      · obtain ⟨z, -, hz⟩ := List.mem_map.mp g
        rw [← hz]
        exact Nat.le_add_right _ _⟩ hl9 _ hheap X'
  exact ⟨t, step t a1, b1⟩
end CMF
