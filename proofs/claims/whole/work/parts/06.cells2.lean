/-! PART cells2: writing fields and places -/
section CMD
variable {D : cm_D} {M : cm_M} {d rc rs : Nat} {Q : Option Value → cm_H → Prop} {cells slots pc : Nat} {ls : List (Option Value)} {st : List Value} {h : cm_H} {sh : List cm_Sh} {hi : Nat → Nat → Int32} {hl : Nat → Nat → Int64} {hr : Nat → Nat → Option Nat}
/-- what a field of a kind takes -/
def cm_fit (D : cm_D) (v : Value) (t : Nat) : Prop := ∀ ty, cm_tk ty t → narrow ty (cm_v D v) = cm_v D v ∧ fits ty (cm_v D v) = true
theorem cm_fit_i (x : Int32) : cm_fit D (.int x) 0 := fun ty h => by cases h; exact ⟨rfl, rfl⟩
theorem cm_fit_l (x : Int64) : cm_fit D (.long x) 1 := fun ty h => by cases h; exact ⟨rfl, rfl⟩
theorem cm_fit_r (a : Nat) : cm_fit D (.ref a) 2 := fun ty h => by
  rcases h with ⟨C, rfl⟩ | ⟨t, rfl⟩ <;> exact ⟨rfl, rfl⟩
theorem cm_put {ci j t idx a : Nat} {v : Value} {h' : cm_H} (hF : cm_FP M.1.cls idx ci j t) (hd : decode M.2.1 pc = .ok (.putfield idx, 3)) (ha : cm_ob h.1 a ci) (hs : h'.1 = h.1) (hv : cm_fv h' a j t = v) (ho1 : ∀ i t', i ≠ j → cm_fv h' a i t' = cm_fv h a i t') (ho2 : ∀ b : Nat, b ≠ a → h'.2.1 b = h.2.1 b ∧ h'.2.2.1 b = h.2.2.1 b ∧ h'.2.2.2 b = h.2.2.2 b) (hft : cm_fit D v t)
    (kk : cm_g D M d rc rs Q cells slots (pc + 3) ls st h') : cm_g D M d rc rs Q cells slots pc ls (v :: .ref a :: st) h := by
  intro p l e R s m args below meth c H locs lsA E hP hK hS hl
  obtain ⟨C, T, N, ty0, ⟨hc, hin, hty, hnm, hN, htk, -⟩, hj, ht, hTC, hfin, hlk⟩ := hF
  obtain ⟨k, rfl⟩ := cm_two ha.1
  have hK0 := E.2.2.2.2.2.2.2.2.2.1
  have hts := E.2.2.2.2.2.1
  have hap := va_apart (own := M.1.cls) hts hin ty0 hty hnm hK0.va hc
  obtain ⟨r, h1, cell, q1, q2, q3, q4⟩ := hP.2 k _ ha.2
  have hr9 : r = (C, T, N) := Option.some.inj (h1.symm.trans hc)
  subst hr9
  obtain ⟨hS1, hfc, kC, hkC, hkind⟩ := hK0.1 ci _ hc
  obtain ⟨cf, kf, fi, f, hi, hsl⟩ := hS1 j hj
  have hlay := hts _ (hin _ (u_in_lay hj))
  unfold u_lay at hlay
  rw [if_neg (by rw [hfin]; decide)] at hlay
  have hst := (u_facts hfc hkC (u_lays hts hin hj) hi).1
  obtain ⟨hn, hfit⟩ := hft (ty0 j) (htk j t ht)
  have h6 := u_store hfc hkC hkind hlay hi (hty j hj) hn hfit
  have hl9 : j < (cm_fs D h ci (k + 2)).length := by rw [cm_fs_len, ← hN]; exact hj
  have key : ∀ H' : Heap, H'[cm_b0 D + k]? = some (cell.setSlot f.slot (cm_v D v)) → H'.size = H.size → (∀ q, q ≠ cm_b0 D + k → H'[q]? = H[q]?) → W p l e R s m args below meth c H' (locs ++ [⟨cm_b0 D + k, f.slot⟩]) cells slots (MQ below (cm_Q D Q) args s rc rs (cm_A D)) (F0 m (pc + 3) lsA (st.map (cm_v D))) := by
    intro H' e1 e2 e3
    rw [hsl] at e1 ⊢
    have hat : va_at (cm_G D) vwCl (cm_b0 D + k, cm_cell D h' (k + 2) (.inl ci)) H' := by
      show va_at (cm_G D) vwCl (cm_b0 D + k, .inr (ci, cm_fs D h' ci (k + 2))) H'
      rw [← cm_fs_set (h := h) (v := cm_v D v) ht (by rw [hv]) ho1]
      exact ⟨_, hc, t_OB.to (V := updV (vp_V (cm_fs D h ci (k + 2))) j (cm_v D v)) ⟨_, e1, q2, q3, t_set q4 hap hj _⟩ (fun i _ => vp_updV_set hl9 _ i)⟩
    exact kk p l e R s m args below meth c H' _ lsA E (hP.set hs ha.2 hat e2 e3 ho2) (hK.keep hs) (hS.put e2 e3 (Nat.le_add_right _ _)) hl
  rcases hlk with hlk | ⟨host, hlk⟩
  · exact W.putK E.1 E.2.1 (f := f) ⟨E.2.2.2.2.1, hts _ hlk, ⟨_, _, _, by rw [hTC] at hi; exact hi⟩, hst⟩ (by rw [q2]; exact h6) q1 q3 (by rw [hsl]; exact k2_hasslot (q4 j hj)) rfl rfl hd key
  · exact va_WputK E.1 E.2.1 (f := f) E.2.2.2.2.1 (va_Nw.use (cm_nest_on hlk) (hK0.2.2.1 _ hlk)) (by rw [hTC] at hi; exact hi) hst (by rw [q2]; exact h6) q1 q3 (by rw [hsl]; exact k2_hasslot (q4 j hj)) rfl rfl hd key
theorem cm_putI {ci j idx a : Nat} {x : Int32} (hF : cm_FP M.1.cls idx ci j 0) (hd : decode M.2.1 pc = .ok (.putfield idx, 3)) (ha : cm_ob sh a ci) (kk : cm_g D M d rc rs Q cells slots (pc + 3) ls st (sh, va_up hi a (upd (hi a) j x), hl, hr)) : cm_g D M d rc rs Q cells slots pc ls (.int x :: .ref a :: st) (sh, hi, hl, hr) := by
  refine cm_put (h := (sh, hi, hl, hr)) (h' := (sh, va_up hi a (upd (hi a) j x), hl, hr)) hF hd ha rfl ?_ ?_ ?_ (cm_fit_i x) kk
  · show Value.int (va_up hi a (upd (hi a) j x) a j) = .int x
    rw [va_up_self]
    simp [upd]
  · intro i t' hij
    match t' with
    | 0 =>
      show Value.int (va_up hi a (upd (hi a) j x) a i) = .int (hi a i)
      rw [va_up_self]
      simp [upd, hij]
    | 1 => rfl
    | _ + 2 => rfl
  · intro b hb
    exact ⟨va_up_ne _ _ hb, rfl, rfl⟩
theorem cm_putL {ci j idx a : Nat} {x : Int64} (hF : cm_FP M.1.cls idx ci j 1) (hd : decode M.2.1 pc = .ok (.putfield idx, 3)) (ha : cm_ob sh a ci) (kk : cm_g D M d rc rs Q cells slots (pc + 3) ls st (sh, hi, va_up hl a (vp_updL (hl a) j x), hr)) : cm_g D M d rc rs Q cells slots pc ls (.long x :: .ref a :: st) (sh, hi, hl, hr) := by
  refine cm_put (h := (sh, hi, hl, hr)) (h' := (sh, hi, va_up hl a (vp_updL (hl a) j x), hr)) hF hd ha rfl ?_ ?_ ?_ (cm_fit_l x) kk
  · show Value.long (va_up hl a (vp_updL (hl a) j x) a j) = .long x
    rw [va_up_self]
    simp [vp_updL]
  · intro i t' hij
    match t' with
    | 0 => rfl
    | 1 =>
      show Value.long (va_up hl a (vp_updL (hl a) j x) a i) = .long (hl a i)
      rw [va_up_self]
      simp [vp_updL, hij]
    | _ + 2 => rfl
  · intro b hb
    exact ⟨rfl, va_up_ne _ _ hb, rfl⟩
theorem cm_putR {ci j idx a b : Nat} (hF : cm_FP M.1.cls idx ci j 2) (hd : decode M.2.1 pc = .ok (.putfield idx, 3)) (ha : cm_ob sh a ci) (kk : cm_g D M d rc rs Q cells slots (pc + 3) ls st (sh, hi, hl, va_up hr a (va_up (hr a) j (some b)))) : cm_g D M d rc rs Q cells slots pc ls (.ref b :: .ref a :: st) (sh, hi, hl, hr) := by
  refine cm_put (h := (sh, hi, hl, hr)) (h' := (sh, hi, hl, va_up hr a (va_up (hr a) j (some b)))) hF hd ha rfl ?_ ?_ ?_ (cm_fit_r b) kk
  · show cm_rf (va_up hr a (va_up (hr a) j (some b)) a j) = .ref b
    rw [va_up_self, va_up_self]
    rfl
  · intro i t' hij
    match t' with
    | 0 => rfl
    | 1 => rfl
    | _ + 2 =>
      show cm_rf (va_up hr a (va_up (hr a) j (some b)) a i) = cm_rf (hr a i)
      rw [va_up_self, va_up_ne _ _ hij]
  · intro b' hb
    exact ⟨rfl, rfl, va_up_ne _ _ hb⟩
theorem cm_putF {ci j idx a b : Nat} (hini : M.1.name = "<init>") (hF : cm_FF M.1.cls idx ci j 2) (hd : decode M.2.1 pc = .ok (.putfield idx, 3)) (ha : cm_ob sh a ci) (kk : cm_g D M d rc rs Q cells slots (pc + 3) ls st (sh, hi, hl, va_up hr a (va_up (hr a) j (some b)))) : cm_g D M d rc rs Q cells slots pc ls (.ref b :: .ref a :: st) (sh, hi, hl, hr) := by
  intro p l e R s m args below meth c H locs lsA E hP hK hS hl9
  obtain ⟨T, N, ty0, ⟨hc, hin, hty, hnm, hN, htk, -⟩, hj, ht, hTC, hfin, hlk⟩ := hF
  obtain ⟨k, rfl⟩ := cm_two ha.1
  have hK0 := E.2.2.2.2.2.2.2.2.2.1
  have hts := E.2.2.2.2.2.1
  have hap := va_apart (own := M.1.cls) hts hin ty0 hty hnm hK0.va hc
  obtain ⟨r, h1, cell, q1, q2, q3, q4⟩ := hP.2 k _ ha.2
  have hr9 : r = (M.1.cls, T, N) := Option.some.inj (h1.symm.trans hc)
  subst hr9
  obtain ⟨hS1, hfc, kC, hkC, hkind⟩ := hK0.1 ci _ hc
  obtain ⟨cf, kf, fi, f, hi9, hsl⟩ := hS1 j hj
  have hlay := hts _ (hin _ (u_in_lay hj))
  unfold u_lay at hlay
  rw [if_pos hfin] at hlay
  have hst := (u_facts hfc hkC (u_lays hts hin hj) hi9).1
  have hcf : m.cls = cf := by
    obtain ⟨_, _, c', _, _, _, -, -, hf', -, -, -, hown2, -⟩ := Cond.laysFinal_spec hlay
    have e1 : c' = cf := by have := hi9.symm.trans hf'; simp at this; exact this.1.symm
    rw [hTC] at hown2
    rw [← e1]; exact Option.some.inj (E.2.2.2.2.1.symm.trans hown2)
  obtain ⟨hn, hfit⟩ := cm_fit_r (D := D) b (ty0 j) (htk j 2 ht)
  have h6 := u_fits hfc hkC hkind (Or.inr hlay) hi9 (hty j hj) hn hfit
  have hlen : j < (cm_fs D (sh, hi, hl, hr) ci (k + 2)).length := by rw [cm_fs_len, ← hN]; exact hj
  refine W.putFinK E.1 E.2.1 E.2.2.2.2.1 (hts _ hlk) (by rw [hTC] at hi9; exact hi9) hst hcf (E.2.2.2.2.2.2.2.1 hini) (by rw [q2]; exact h6) q1 q3 (by rw [hsl]; exact k2_hasslot (q4 j hj)) rfl rfl hd fun H' e1 e2 e3 => ?_
  rw [hsl] at e1 ⊢
  have ho1 : ∀ i t', i ≠ j → cm_fv (sh, hi, hl, va_up hr (k + 2) (va_up (hr (k + 2)) j (some b))) (k + 2) i t' = cm_fv (sh, hi, hl, hr) (k + 2) i t' := by
    intro i t' hij
    match t' with
    | 0 => rfl
    | 1 => rfl
    | _ + 2 =>
      show cm_rf (va_up hr (k + 2) (va_up (hr (k + 2)) j (some b)) (k + 2) i) = cm_rf (hr (k + 2) i)
      rw [va_up_self, va_up_ne _ _ hij]
  have hat : va_at (cm_G D) vwCl (cm_b0 D + k, cm_cell D (sh, hi, hl, va_up hr (k + 2) (va_up (hr (k + 2)) j (some b))) (k + 2) (.inl ci)) H' := by
    show va_at (cm_G D) vwCl (cm_b0 D + k, .inr (ci, cm_fs D (sh, hi, hl, va_up hr (k + 2) (va_up (hr (k + 2)) j (some b))) ci (k + 2))) H'
    rw [← cm_fs_set (h := (sh, hi, hl, hr)) (v := cm_v D (.ref b)) ht (by
      show cm_v D (cm_rf (va_up hr (k + 2) (va_up (hr (k + 2)) j (some b)) (k + 2) j)) = cm_v D (.ref b)
      rw [va_up_self, va_up_self]
      rfl) ho1]
    exact ⟨_, hc, t_OB.to (V := updV (vp_V (cm_fs D (sh, hi, hl, hr) ci (k + 2))) j (cm_v D (.ref b))) ⟨_, e1, q2, q3, t_set q4 hap hj _⟩ (fun i _ => vp_updV_set hlen _ i)⟩
  exact kk p l e R s m args below meth c H' _ lsA E (cm_P.set hP rfl ha.2 hat e2 e3 (fun b' hb => ⟨rfl, rfl, va_up_ne _ _ hb⟩)) (cm_K1.keep hK rfl) (hS.put e2 e3 (Nat.le_add_right _ _)) hl9
/-- an array of ints: read, written, measured -/
theorem cm_iald {a n : Nat} {i : Int32} (hd : decode M.2.1 pc = .ok (.iaload, 1)) (ha : cm_ar sh a 0 n) (hin : vp_in i n) (kk : cm_g D M d rc rs Q cells slots (pc + 1) ls (.int (hi a i.toNatClampNeg) :: st) (sh, hi, hl, hr)) : cm_g D M d rc rs Q cells slots pc ls (.int i :: .ref a :: st) (sh, hi, hl, hr) := by
  intro p l e R s m args below meth c H locs lsA E hP hK hS hl9
  obtain ⟨k, rfl⟩ := cm_two ha.1
  exact va_iald (D := cm_G D) (cl := vwCl) (ws := [(cm_b0 D + k, cm_cell D (sh, hi, hl, hr) (k + 2) (.inr (0, n)))]) (tys := [(cm_cA D 0, cm_et 0)]) E.1 E.2.1 (E.2.2.2.2.2.2.2.2.2.1.vt hK ha.2) (cm_one hP ha.2) 0 0 rfl rfl hin hd (kk p l e R s m args below meth c H locs lsA E hP hK hS hl9)
theorem cm_lald {a n : Nat} {i : Int32} (hd : decode M.2.1 pc = .ok (.laload, 1)) (ha : cm_ar sh a 1 n) (hin : vp_in i n) (kk : cm_g D M d rc rs Q cells slots (pc + 1) ls (.long (hl a i.toNatClampNeg) :: st) (sh, hi, hl, hr)) : cm_g D M d rc rs Q cells slots pc ls (.int i :: .ref a :: st) (sh, hi, hl, hr) := by
  intro p l e R s m args below meth c H locs lsA E hP hK hS hl9
  obtain ⟨k, rfl⟩ := cm_two ha.1
  exact va_lald (D := cm_G D) (cl := vwCl) (ws := [(cm_b0 D + k, cm_cell D (sh, hi, hl, hr) (k + 2) (.inr (1, n)))]) (tys := [(cm_cA D 1, cm_et 1)]) E.1 E.2.1 (E.2.2.2.2.2.2.2.2.2.1.vt hK ha.2) (cm_one hP ha.2) 0 0 rfl rfl hin hd (kk p l e R s m args below meth c H locs lsA E hP hK hS hl9)
theorem cm_aald2 {a n b : Nat} {i : Int32} (hd : decode M.2.1 pc = .ok (.aaload, 1)) (ha : cm_ar sh a 2 n) (hin : vp_in i n) (hb : hr a i.toNatClampNeg = some b) (kk : cm_g D M d rc rs Q cells slots (pc + 1) ls (.ref b :: st) (sh, hi, hl, hr)) : cm_g D M d rc rs Q cells slots pc ls (.int i :: .ref a :: st) (sh, hi, hl, hr) := by
  intro p l e R s m args below meth c H locs lsA E hP hK hS hl9
  obtain ⟨k, rfl⟩ := cm_two ha.1
  refine va_aldq (D := cm_G D) (cl := vwCl) (ws := [(cm_b0 D + k, cm_cell D (sh, hi, hl, hr) (k + 2) (.inr (2, n)))]) (tys := [(cm_cA D 2, cm_et 2)]) (C := RX4) (f := fun j => (hr (k + 2) j).map (cm_ad D)) E.1 E.2.1 (E.2.2.2.2.2.2.2.2.2.1.vt hK ha.2) (cm_one hP ha.2) 0 0 rfl rfl hin hd ?_
  rw [hb]
  exact kk p l e R s m args below meth c H locs lsA E hP hK hS hl9
theorem cm_aald3 {a n b : Nat} {i : Int32} (hd : decode M.2.1 pc = .ok (.aaload, 1)) (ha : cm_ar sh a 3 n) (hin : vp_in i n) (hb : hr a i.toNatClampNeg = some b) (kk : cm_g D M d rc rs Q cells slots (pc + 1) ls (.ref b :: st) (sh, hi, hl, hr)) : cm_g D M d rc rs Q cells slots pc ls (.int i :: .ref a :: st) (sh, hi, hl, hr) := by
  intro p l e R s m args below meth c H locs lsA E hP hK hS hl9
  obtain ⟨k, rfl⟩ := cm_two ha.1
  refine va_aldq (D := cm_G D) (cl := vwCl) (ws := [(cm_b0 D + k, cm_cell D (sh, hi, hl, hr) (k + 2) (.inr (3, n)))]) (tys := [(cm_cA D 3, cm_et 3)]) (C := RX2) (f := fun j => (hr (k + 2) j).map (cm_ad D)) E.1 E.2.1 (E.2.2.2.2.2.2.2.2.2.1.vt hK ha.2) (cm_one hP ha.2) 0 0 rfl rfl hin hd ?_
  rw [hb]
  exact kk p l e R s m args below meth c H locs lsA E hP hK hS hl9
theorem cm_alen {a t n : Nat} (hd : decode M.2.1 pc = .ok (.arraylength, 1)) (ha : cm_ar sh a t n) (kk : cm_g D M d rc rs Q cells slots (pc + 1) ls (.int (nI n) :: st) (sh, hi, hl, hr)) : cm_g D M d rc rs Q cells slots pc ls (.ref a :: st) (sh, hi, hl, hr) := by
  intro p l e R s m args below meth c H locs lsA E hP hK hS hl9
  obtain ⟨k, rfl⟩ := cm_two ha.1
  have hn : (cm_arr D (sh, hi, hl, hr) (k + 2) t n).1 = n := by
    unfold cm_arr
    split <;> rfl
  exact va_alen (D := cm_G D) (cl := vwCl) (ws := [(cm_b0 D + k, cm_cell D (sh, hi, hl, hr) (k + 2) (.inr (t, n)))]) (tys := [(cm_cA D t, cm_et t)]) E.1 E.2.1 (E.2.2.2.2.2.2.2.2.2.1.vt hK ha.2) (cm_one hP ha.2) 0 0 rfl rfl (by rw [hn]; rfl) hd (kk p l e R s m args below meth c H locs lsA E hP hK hS hl9)
theorem cm_iast {a n : Nat} {i x : Int32} (hd : decode M.2.1 pc = .ok (.iastore, 1)) (ha : cm_ar sh a 0 n) (hin : vp_in i n) (kk : cm_g D M d rc rs Q cells slots (pc + 1) ls st (sh, va_up hi a (upd (hi a) i.toNatClampNeg x), hl, hr)) : cm_g D M d rc rs Q cells slots pc ls (.int x :: .int i :: .ref a :: st) (sh, hi, hl, hr) := by
  intro p l e R s m args below meth c H locs lsA E hP hK hS hl9
  obtain ⟨k, rfl⟩ := cm_two ha.1
  have hcell : H[cm_b0 D + k]? = some (vp_cell (cm_cA D 0) (n, .inl (hi (k + 2)))) := hP.2 k _ ha.2
  refine W.iast E.1 E.2.1 hcell ((hK k 0 n ha.2).1 n (fun j => .int (hi (k + 2) j))) (fun q => by cases q) (by show ¬ (i < 0 ∨ (arrV _ _ _).slots.size ≤ _); rw [arrV_size]; exact hin) rfl rfl hd fun H1 e1 z oq => ?_
  refine kk p l e R s m args below meth c H1 _ lsA E (cm_P.set hP rfl ha.2 ?_ z oq (fun b hb => ⟨va_up_ne _ _ hb, rfl, rfl⟩)) (cm_K1.keep hK rfl) (hS.put z oq (Nat.le_add_right _ _)) hl9
  show H1[cm_b0 D + k]? = some (vp_cell (cm_cA D 0) (n, .inl (va_up hi (k + 2) (upd (hi (k + 2)) i.toNatClampNeg x) (k + 2))))
  rw [e1, va_up_self, vp_cell_i, vp_cell_i, arrV_store]
  congr 2
  funext q
  by_cases hq : q = i.toNatClampNeg
  · subst hq
    simp [updV, upd]
  · simp [updV, upd, hq]
theorem cm_lastr {a n : Nat} {i : Int32} {x : Int64} (hd : decode M.2.1 pc = .ok (.lastore, 1)) (ha : cm_ar sh a 1 n) (hin : vp_in i n) (kk : cm_g D M d rc rs Q cells slots (pc + 1) ls st (sh, hi, va_up hl a (vp_updL (hl a) i.toNatClampNeg x), hr)) : cm_g D M d rc rs Q cells slots pc ls (.long x :: .int i :: .ref a :: st) (sh, hi, hl, hr) := by
  intro p l e R s m args below meth c H locs lsA E hP hK hS hl9
  obtain ⟨k, rfl⟩ := cm_two ha.1
  have hcell : H[cm_b0 D + k]? = some (vp_cell (cm_cA D 1) (n, .inr (.inl (hl (k + 2))))) := hP.2 k _ ha.2
  refine W.last E.1 E.2.1 hcell ((hK k 1 n ha.2).1 n (fun j => .long (hl (k + 2) j))) (fun q => by cases q) (by show ¬ (i < 0 ∨ (arrV _ _ _).slots.size ≤ _); rw [arrV_size]; exact hin) rfl rfl hd fun H1 e1 z oq => ?_
  refine kk p l e R s m args below meth c H1 _ lsA E (cm_P.set hP rfl ha.2 ?_ z oq (fun b hb => ⟨rfl, va_up_ne _ _ hb, rfl⟩)) (cm_K1.keep hK rfl) (hS.put z oq (Nat.le_add_right _ _)) hl9
  show H1[cm_b0 D + k]? = some (vp_cell (cm_cA D 1) (n, .inr (.inl (va_up hl (k + 2) (vp_updL (hl (k + 2)) i.toNatClampNeg x) (k + 2)))))
  rw [e1, va_up_self, vp_cell_l, vp_cell_l, arrV_store]
  congr 2
  funext q
  by_cases hq : q = i.toNatClampNeg
  · subst hq
    simp [updV, vp_updL]
  · simp [updV, vp_updL, hq]
/-- the script, and the letters -/
theorem cm_sald {i : Int32} (hd : decode M.2.1 pc = .ok (.iaload, 1)) (hin : vp_in i (cm_L D)) (kk : cm_g D M d rc rs Q cells slots (pc + 1) ls (.int (cm_xs D i.toNatClampNeg) :: st) h) : cm_g D M d rc rs Q cells slots pc ls (.int i :: .ref 0 :: st) h := by
  intro p l e R s m args below meth c H locs lsA E hP hK hS hl9
  obtain ⟨h0, ⟨h1, h1'⟩, -⟩ := E.2.2.2.2.2.2.2.2.2.2
  exact va_sld (b := cm_b D) E.1 E.2.1 h1 (Nat.lt_of_lt_of_le h1' h0) (cm_A_lt h1') hS hin hd (kk p l e R s m args below meth c H locs lsA E hP hK hS hl9)
theorem cm_slen (hd : decode M.2.1 pc = .ok (.arraylength, 1)) (kk : cm_g D M d rc rs Q cells slots (pc + 1) ls (.int (nI (cm_L D)) :: st) h) : cm_g D M d rc rs Q cells slots pc ls (.ref 0 :: st) h := by
  intro p l e R s m args below meth c H locs lsA E hP hK hS hl9
  obtain ⟨h0, ⟨h1, h1'⟩, -⟩ := E.2.2.2.2.2.2.2.2.2.2
  exact va_slen (b := cm_b D) E.1 E.2.1 h1 (Nat.lt_of_lt_of_le h1' h0) (cm_A_lt h1') hS hd (kk p l e R s m args below meth c H locs lsA E hP hK hS hl9)
theorem cm_tald {i : Int32} (hd : decode M.2.1 pc = .ok (.iaload, 1)) (hin : vp_in i 6) (kk : cm_g D M d rc rs Q cells slots (pc + 1) ls (.int (cm_letters i.toNatClampNeg) :: st) h) : cm_g D M d rc rs Q cells slots pc ls (.int i :: .ref 1 :: st) h := by
  intro p l e R s m args below meth c H locs lsA E hP hK hS hl9
  obtain ⟨h0, -, h1, -⟩ := E.2.2.2.2.2.2.2.2.2.2
  exact va_ti (t := cm_lt D) E.1 E.2.1 h1 hS hin rfl hd (kk p l e R s m args below meth c H locs lsA E hP hK hS hl9)
theorem cm_tlen (hd : decode M.2.1 pc = .ok (.arraylength, 1)) (kk : cm_g D M d rc rs Q cells slots (pc + 1) ls (.int 6 :: st) h) : cm_g D M d rc rs Q cells slots pc ls (.ref 1 :: st) h := by
  intro p l e R s m args below meth c H locs lsA E hP hK hS hl9
  obtain ⟨h0, -, h1, -⟩ := E.2.2.2.2.2.2.2.2.2.2
  exact va_tlen (t := cm_lt D) E.1 E.2.1 h1 hS (v := 6) rfl hd (kk p l e R s m args below meth c H locs lsA E hP hK hS hl9)
theorem cm_gets {idx : Nat} (hlk : Cond.fieldLink M.1.cls idx RX3 "LETTERS" "[I" ∈ cm_good) (hd : decode M.2.1 pc = .ok (.getstatic idx, 3)) (kk : cm_g D M d rc rs Q cells slots (pc + 3) ls (.ref 1 :: st) h) : cm_g D M d rc rs Q cells slots pc ls st h := by
  intro p l e R s m args below meth c H locs lsA E hP hK hS hl9
  obtain ⟨h0, -, -, hZ⟩ := E.2.2.2.2.2.2.2.2.2.2
  exact va_gets E.1 E.2.1 hZ hS E.2.2.2.2.1 (E.2.2.2.2.2.1 _ hlk) (fun x hx => hx) hd (kk p l e R s m args below meth c H locs lsA E hP hK hS hl9)
end CMD
