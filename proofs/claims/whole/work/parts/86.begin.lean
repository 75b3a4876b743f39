/-! PART begin: what the constructors lay -/
def fz (n : Nat) (hi : cm_g2) (hl : Nat → Nat → Int64) (hr : Nat → Nat → Option Nat) : Prop := ∀ c, n ≤ c → hi c = (fun _ => 0) ∧ hl c = (fun _ => 0) ∧ hr c = (fun _ => none)
def st9 (hr : Nat → Nat → Option Nat) (a j b : Nat) : Nat → Nat → Option Nat := va_up hr a (va_up (hr a) j (some b))
def sv9 (hi : cm_g2) (a j : Nat) (x : Int32) : cm_g2 := va_up hi a (upd (hi a) j x)
section FZ
variable {n : Nat} {hi : cm_g2} {hl : Nat → Nat → Int64} {hr : Nat → Nat → Option Nat} {sh : List cm_Sh}
theorem fz.up (h : fz n hi hl hr) : fz (n + 1) hi hl hr := fun c hc => h c (by omega)
theorem fz.st (h : fz n hi hl hr) (a j b : Nat) (ha : a < n) : fz n hi hl (st9 hr a j b) := fun c hc => ⟨(h c hc).1, (h c hc).2.1, by unfold st9; rw [va_up_ne _ _ (by omega)]; exact (h c hc).2.2⟩
theorem fz.sv (h : fz n hi hl hr) (a j : Nat) (x : Int32) (ha : a < n) : fz n (sv9 hi a j x) hl hr := fun c hc => ⟨by unfold sv9; rw [va_up_ne _ _ (by omega)]; exact (h c hc).1, (h c hc).2⟩
theorem la1 {q : cm_Sh} (h : sh.length = n) : (sh ++ [q]).length = n + 1 := by rw [List.length_append, h]; rfl
theorem va_up_id {α : Type} {f : Nat → α} {a : Nat} {g : α} (h : f a = g) : va_up f a g = f := by
  funext c
  by_cases q : c = a
  · subst q; rw [va_up_self, h]
  · rw [va_up_ne _ _ q]
theorem cm_mk_fz {q : cm_Sh} (hz : fz n hi hl hr) (hn : sh.length = n) : cm_mk (sh, hi, hl, hr) q = (sh ++ [q], hi, hl, hr) := by
  subst hn
  have h := hz sh.length (Nat.le_refl _)
  unfold cm_mk
  rw [va_up_id h.1, va_up_id h.2.1, va_up_id h.2.2]
theorem cm_ob.app {a ci : Nat} {q : List cm_Sh} (h : cm_ob sh a ci) : cm_ob (sh ++ q) a ci := ⟨h.1, by rw [List.getElem?_append_left (List.getElem?_eq_some_iff.mp h.2).1]; exact h.2⟩
theorem ob_last {ci : Nat} (h2 : 2 ≤ n) (h : sh.length = n) : cm_ob (sh ++ [.inl ci]) n ci := ⟨h2, by subst h; simp⟩
end FZ
section NW
variable {D : cm_D} {M : cm_M} {d rc rs cells slots pc : Nat} {Q : Option Value → cm_H → Prop} {ls : List (Option Value)} {st : List Value} {sh : List cm_Sh} {hi : cm_g2} {hl : Nat → Nat → Int64} {hr : Nat → Nat → Option Nat} {k0 : Nat}
theorem nw_I {n : Int32} {N : Nat} (hz : fz k0 hi hl hr) (hk : sh.length = k0) (hw : Cond.arrayClass .int ∈ cm_good) (hd : decode M.2.1 pc = .ok (.newarray .int, 2)) (hn : ¬ n < 0) (hN : n.toNatClampNeg = N) (hN2 : N ≤ 100000) (h1 : cells + 1 ≤ rc) (h2 : slots + N ≤ rs) (kk : cm_g D M d rc rs Q (cells + 1) (slots + N) (pc + 2) ls (.ref k0 :: st) (sh ++ [.inr (0, N)], hi, hl, hr)) : cm_g D M d rc rs Q cells slots pc ls (.int n :: st) (sh, hi, hl, hr) := by
  refine cm_newI hw hd hn hN hN2 h1 h2 ?_
  rw [cm_mk_fz hz hk]
  rw [← hk] at kk
  exact kk
theorem nw_L {n : Int32} {N : Nat} (hz : fz k0 hi hl hr) (hk : sh.length = k0) (hw : Cond.arrayClass .long ∈ cm_good) (hd : decode M.2.1 pc = .ok (.newarray .long, 2)) (hn : ¬ n < 0) (hN : n.toNatClampNeg = N) (hN2 : N ≤ 100000) (h1 : cells + 1 ≤ rc) (h2 : slots + N ≤ rs) (kk : cm_g D M d rc rs Q (cells + 1) (slots + N) (pc + 2) ls (.ref k0 :: st) (sh ++ [.inr (1, N)], hi, hl, hr)) : cm_g D M d rc rs Q cells slots pc ls (.int n :: st) (sh, hi, hl, hr) := by
  refine cm_newL hw hd hn hN hN2 h1 h2 ?_
  rw [cm_mk_fz hz hk]
  rw [← hk] at kk
  exact kk
theorem nw_Q {t idx : Nat} {n : Int32} {N : Nat} {C : String} (hz : fz k0 hi hl hr) (hk : sh.length = k0) (hC : cm_et t = .object C) (ht : ∃ j, t = j + 2) (hao : ∀ s : State, cm_K0 D s → va_AO C s) (hlk : Cond.classLink M.1.cls idx C ∈ cm_good) (hd : decode M.2.1 pc = .ok (.anewarray idx, 3)) (hn : ¬ n < 0) (hN : n.toNatClampNeg = N) (hN2 : N ≤ 100000) (h1 : cells + 1 ≤ rc) (h2 : slots + N ≤ rs) (kk : cm_g D M d rc rs Q (cells + 1) (slots + N) (pc + 3) ls (.ref k0 :: st) (sh ++ [.inr (t, N)], hi, hl, hr)) : cm_g D M d rc rs Q cells slots pc ls (.int n :: st) (sh, hi, hl, hr) := by
  refine cm_newQ hC ht hao hlk hd hn hN hN2 h1 h2 ?_
  rw [cm_mk_fz hz hk]
  rw [← hk] at kk
  exact kk
theorem nw_O {ci idx : Nat} {C : String} {T : u_T} {N : Nat} {ty0 : Nat → FieldType} (hz : fz k0 hi hl hr) (hk : sh.length = k0) (hC : cm_CF ci C T N ty0) (hlk : Cond.classLink M.1.cls idx C ∈ cm_good) (hd : decode M.2.1 pc = .ok (.new idx, 3)) (h1 : cells + 1 ≤ rc) (h2 : slots + N ≤ rs) (kk : cm_g D M d rc rs Q (cells + 1) (slots + N) (pc + 3) ls (.ref k0 :: st) (sh ++ [.inl ci], hi, hl, hr)) : cm_g D M d rc rs Q cells slots pc ls st (sh, hi, hl, hr) := by
  refine cm_newO hC hlk hd h1 h2 ?_
  rw [cm_mk_fz hz hk]
  rw [← hk] at kk
  exact kk
theorem put_F {ci j idx a b : Nat} (hini : M.1.name = "<init>") (hF : cm_FF M.1.cls idx ci j 2) (hd : decode M.2.1 pc = .ok (.putfield idx, 3)) (ha : cm_ob sh a ci) (kk : cm_g D M d rc rs Q cells slots (pc + 3) ls st (sh, hi, hl, st9 hr a j b)) : cm_g D M d rc rs Q cells slots pc ls (.ref b :: .ref a :: st) (sh, hi, hl, hr) := cm_putF hini hF hd ha kk
theorem put_R {ci j idx a b : Nat} (hF : cm_FP M.1.cls idx ci j 2) (hd : decode M.2.1 pc = .ok (.putfield idx, 3)) (ha : cm_ob sh a ci) (kk : cm_g D M d rc rs Q cells slots (pc + 3) ls st (sh, hi, hl, st9 hr a j b)) : cm_g D M d rc rs Q cells slots pc ls (.ref b :: .ref a :: st) (sh, hi, hl, hr) := cm_putR hF hd ha kk
theorem put_I {ci j idx a : Nat} {x : Int32} (hF : cm_FP M.1.cls idx ci j 0) (hd : decode M.2.1 pc = .ok (.putfield idx, 3)) (ha : cm_ob sh a ci) (kk : cm_g D M d rc rs Q cells slots (pc + 3) ls st (sh, sv9 hi a j x, hl, hr)) : cm_g D M d rc rs Q cells slots pc ls (.int x :: .ref a :: st) (sh, hi, hl, hr) := cm_putI hF hd ha kk
theorem aast9 {a t n b ci k : Nat} {i : Int32} {r : vw_C} (ht : ∃ j, t = j + 2) (hty : cm_et t = .object r.1) (hc : vwCl[ci]? = some r) (hd : decode M.2.1 pc = .ok (.aastore, 1)) (ha : cm_ar sh a t n) (hb : cm_ob sh b ci) (h0 : ¬ i < 0) (hk : i.toNatClampNeg = k) (hkn : k < n) (kk : cm_g D M d rc rs Q cells slots (pc + 1) ls st (sh, hi, hl, st9 hr a k b)) : cm_g D M d rc rs Q cells slots pc ls (.ref b :: .int i :: .ref a :: st) (sh, hi, hl, hr) := by
  subst hk
  exact cm_aast ht hty hc hd ha hb (fun q => q.elim h0 (fun w => by omega)) kk
theorem iast9 {a n k : Nat} {i x : Int32} (hd : decode M.2.1 pc = .ok (.iastore, 1)) (ha : cm_ar sh a 0 n) (h0 : ¬ i < 0) (hk : i.toNatClampNeg = k) (hkn : k < n) (kk : cm_g D M d rc rs Q cells slots (pc + 1) ls st (sh, sv9 hi a k x, hl, hr)) : cm_g D M d rc rs Q cells slots pc ls (.int x :: .int i :: .ref a :: st) (sh, hi, hl, hr) := by
  subst hk
  exact cm_iast hd ha (fun q => q.elim h0 (fun w => by omega)) kk
end NW
section IN
variable {D : cm_D} {d a n : Nat} {sh : List cm_Sh} {hi : cm_g2} {hl : Nat → Nat → Int64} {hr : Nat → Nat → Option Nat} {x : Int32}
def shM (sh : List cm_Sh) : List cm_Sh := ((((((((((sh ++ [.inr (0, 6)]) ++ [.inr (0, 6)]) ++ [.inr (0, 6)]) ++ [.inr (0, 6)]) ++ [.inr (0, 6)]) ++ [.inr (0, 6)]) ++ [.inr (0, 6)]) ++ [.inr (0, 6)]) ++ [.inr (0, 6)]) ++ [.inr (0, 200)])
def hrM (hr : Nat → Nat → Option Nat) (a : Nat) : Nat → Nat → Option Nat := (st9 (st9 (st9 (st9 (st9 (st9 (st9 (st9 (st9 (st9 hr a 4 (a + 1)) a 5 (a + 2)) a 6 (a + 3)) a 7 (a + 4)) a 8 (a + 5)) a 9 (a + 6)) a 10 (a + 7)) a 11 (a + 8)) a 12 (a + 9)) a 13 (a + 10))
set_option maxRecDepth 20000 in
theorem i_X2 (zz : fz (a + 1) hi hl hr) (zn : sh.length = a + 1) (ha : cm_ob sh a 2) : cm_ct D mX2_init (d + 1) 10 254 [.ref a] (sh, hi, hl, hr) (fun r9 h9 => r9 = none ∧ h9 = ((shM sh), hi, hl, (hrM hr a))) := by
  have h2 := ha.1
  refine cm_ct_of (ls := [some (.ref a)]) 0 (by decide +kernel) rfl rfl ?_
  refine cm_aload0 (pc := 0) dX2_init_0 ?_
  refine cm_objInit (pc := 1) oiX2_3 dX2_init_1 (by omega) (Nat.le_of_ble_eq_true rfl) ?_
  refine cm_aload0 (pc := 4) dX2_init_4 ?_
  refine cm_bipush (pc := 5) (v := 6) dX2_init_5 (by decide) ?_
  refine nw_I (pc := 7) (N := 6) zz zn arr_int dX2_init_7 (by decide) (by decide) (by decide) (by decide) (by decide) ?_
  have zn1 := la1 (q := .inr (0, 6)) zn
  have zz1 := zz.up
  refine put_F (pc := 9) rfl ffX2_9 dX2_init_9 (ha.app) ?_
  have zz2 := zz1.st a 4 (a + 1) (by omega)
  refine cm_aload0 (pc := 12) dX2_init_12 ?_
  refine cm_bipush (pc := 13) (v := 6) dX2_init_13 (by decide) ?_
  refine nw_I (pc := 15) (N := 6) zz2 zn1 arr_int dX2_init_15 (by decide) (by decide) (by decide) (by decide) (by decide) ?_
  have zn3 := la1 (q := .inr (0, 6)) zn1
  have zz3 := zz2.up
  refine put_F (pc := 17) rfl ffX2_15 dX2_init_17 (ha.app.app) ?_
  have zz4 := zz3.st a 5 (a + 2) (by omega)
  refine cm_aload0 (pc := 20) dX2_init_20 ?_
  refine cm_bipush (pc := 21) (v := 6) dX2_init_21 (by decide) ?_
  refine nw_I (pc := 23) (N := 6) zz4 zn3 arr_int dX2_init_23 (by decide) (by decide) (by decide) (by decide) (by decide) ?_
  have zn5 := la1 (q := .inr (0, 6)) zn3
  have zz5 := zz4.up
  refine put_F (pc := 25) rfl ffX2_18 dX2_init_25 (ha.app.app.app) ?_
  have zz6 := zz5.st a 6 (a + 3) (by omega)
  refine cm_aload0 (pc := 28) dX2_init_28 ?_
  refine cm_bipush (pc := 29) (v := 6) dX2_init_29 (by decide) ?_
  refine nw_I (pc := 31) (N := 6) zz6 zn5 arr_int dX2_init_31 (by decide) (by decide) (by decide) (by decide) (by decide) ?_
  have zn7 := la1 (q := .inr (0, 6)) zn5
  have zz7 := zz6.up
  refine put_F (pc := 33) rfl ffX2_21 dX2_init_33 (ha.app.app.app.app) ?_
  have zz8 := zz7.st a 7 (a + 4) (by omega)
  refine cm_aload0 (pc := 36) dX2_init_36 ?_
  refine cm_bipush (pc := 37) (v := 6) dX2_init_37 (by decide) ?_
  refine nw_I (pc := 39) (N := 6) zz8 zn7 arr_int dX2_init_39 (by decide) (by decide) (by decide) (by decide) (by decide) ?_
  have zn9 := la1 (q := .inr (0, 6)) zn7
  have zz9 := zz8.up
  refine put_F (pc := 41) rfl ffX2_24 dX2_init_41 (ha.app.app.app.app.app) ?_
  have zz10 := zz9.st a 8 (a + 5) (by omega)
  refine cm_aload0 (pc := 44) dX2_init_44 ?_
  refine cm_bipush (pc := 45) (v := 6) dX2_init_45 (by decide) ?_
  refine nw_I (pc := 47) (N := 6) zz10 zn9 arr_int dX2_init_47 (by decide) (by decide) (by decide) (by decide) (by decide) ?_
  have zn11 := la1 (q := .inr (0, 6)) zn9
  have zz11 := zz10.up
  refine put_F (pc := 49) rfl ffX2_27 dX2_init_49 (ha.app.app.app.app.app.app) ?_
  have zz12 := zz11.st a 9 (a + 6) (by omega)
  refine cm_aload0 (pc := 52) dX2_init_52 ?_
  refine cm_bipush (pc := 53) (v := 6) dX2_init_53 (by decide) ?_
  refine nw_I (pc := 55) (N := 6) zz12 zn11 arr_int dX2_init_55 (by decide) (by decide) (by decide) (by decide) (by decide) ?_
  have zn13 := la1 (q := .inr (0, 6)) zn11
  have zz13 := zz12.up
  refine put_F (pc := 57) rfl ffX2_30 dX2_init_57 (ha.app.app.app.app.app.app.app) ?_
  have zz14 := zz13.st a 10 (a + 7) (by omega)
  refine cm_aload0 (pc := 60) dX2_init_60 ?_
  refine cm_bipush (pc := 61) (v := 6) dX2_init_61 (by decide) ?_
  refine nw_I (pc := 63) (N := 6) zz14 zn13 arr_int dX2_init_63 (by decide) (by decide) (by decide) (by decide) (by decide) ?_
  have zn15 := la1 (q := .inr (0, 6)) zn13
  have zz15 := zz14.up
  refine put_F (pc := 65) rfl ffX2_33 dX2_init_65 (ha.app.app.app.app.app.app.app.app) ?_
  have zz16 := zz15.st a 11 (a + 8) (by omega)
  refine cm_aload0 (pc := 68) dX2_init_68 ?_
  refine cm_bipush (pc := 69) (v := 6) dX2_init_69 (by decide) ?_
  refine nw_I (pc := 71) (N := 6) zz16 zn15 arr_int dX2_init_71 (by decide) (by decide) (by decide) (by decide) (by decide) ?_
  have zn17 := la1 (q := .inr (0, 6)) zn15
  have zz17 := zz16.up
  refine put_F (pc := 73) rfl ffX2_36 dX2_init_73 (ha.app.app.app.app.app.app.app.app.app) ?_
  have zz18 := zz17.st a 12 (a + 9) (by omega)
  refine cm_aload0 (pc := 76) dX2_init_76 ?_
  refine cm_sipush (pc := 77) (v := 200) dX2_init_77 (by decide) ?_
  refine nw_I (pc := 80) (N := 200) zz18 zn17 arr_int dX2_init_80 (by decide) (by decide) (by decide) (by decide) (by decide) ?_
  have zn19 := la1 (q := .inr (0, 200)) zn17
  have zz19 := zz18.up
  refine put_F (pc := 82) rfl ffX2_39 dX2_init_82 (ha.app.app.app.app.app.app.app.app.app.app) ?_
  have zz20 := zz19.st a 13 (a + 10) (by omega)
  exact cm_vret (pc := 85) dX2_init_85 rfl ⟨rfl, rfl⟩
theorem laM {sh : List cm_Sh} {n : Nat} (h : sh.length = n) : (shM sh).length = n + 10 := by
  unfold shM
  simp only [List.length_append, List.length_cons, List.length_nil, h]

theorem fz.mk (h : fz (a + 1) hi hl hr) : fz (a + 11) hi hl (hrM hr a) := fun c hc => ⟨(h c (by omega)).1, (h c (by omega)).2.1, by
  unfold hrM st9
  have hc2 : c ≠ a := by omega
  simp only [va_up_ne _ _ hc2]
  exact (h c (by omega)).2.2⟩
theorem cm_ob.appM {b ci : Nat} (h : cm_ob sh b ci) : cm_ob (shM sh) b ci := by
  unfold shM
  exact h.app.app.app.app.app.app.app.app.app.app
set_option maxRecDepth 20000 in
theorem i_X1 (zz : fz (a + 1) hi hl hr) (zn : sh.length = a + 1) (ha : cm_ob sh a 1) : cm_ct D mX1_init (d + 1) 1 1440 [.ref a] (sh, hi, hl, hr) (fun r9 h9 => r9 = none ∧ h9 = ((sh ++ [.inr (0, 1440)]), hi, hl, (st9 hr a 0 (a + 1)))) := by
  have h2 := ha.1
  refine cm_ct_of (ls := [some (.ref a)]) 0 (by decide +kernel) rfl rfl ?_
  refine cm_aload0 (pc := 0) dX1_init_0 ?_
  refine cm_objInit (pc := 1) oiX1_3 dX1_init_1 (by omega) (Nat.le_of_ble_eq_true rfl) ?_
  refine cm_aload0 (pc := 4) dX1_init_4 ?_
  refine cm_sipush (pc := 5) (v := 1440) dX1_init_5 (by decide) ?_
  refine nw_I (pc := 8) (N := 1440) zz zn arr_int dX1_init_8 (by decide) (by decide) (by decide) (by decide) (by decide) ?_
  have zn1 := la1 (q := .inr (0, 1440)) zn
  have zz1 := zz.up
  refine put_F (pc := 10) rfl ffX1_11 dX1_init_10 (ha.app) ?_
  have zz2 := zz1.st a 0 (a + 1) (by omega)
  exact cm_vret (pc := 13) dX1_init_13 rfl ⟨rfl, rfl⟩
set_option maxRecDepth 20000 in
theorem i_X4 (zz : fz (a + 1) hi hl hr) (zn : sh.length = a + 1) (ha : cm_ob sh a 4) (hx : ¬ x < 0) (hN : x.toNatClampNeg = n) (hn : n ≤ 100000) : cm_ct D mX4_init (d + 1) 1 (0 + n) [.ref a, .int x] (sh, hi, hl, hr) (fun r9 h9 => r9 = none ∧ h9 = ((sh ++ [.inr (0, n)]), (sv9 hi a 1 (-1)), hl, (st9 hr a 0 (a + 1)))) := by
  have h2 := ha.1
  refine cm_ct_of (ls := [some (.ref a), some (.int x)]) 0 (by decide +kernel) rfl rfl ?_
  refine cm_aload0 (pc := 0) dX4_init_0 ?_
  refine cm_objInit (pc := 1) oiX4_3 dX4_init_1 (by omega) (Nat.le_of_ble_eq_true rfl) ?_
  refine cm_aload0 (pc := 4) dX4_init_4 ?_
  refine cm_iconst (pc := 5) (v := -1) dX4_init_5 (by decide) ?_
  refine put_I (pc := 6) fpX4_11 dX4_init_6 (ha) ?_
  have zz1 := zz.sv a 1 (-1) (by omega)
  refine cm_aload0 (pc := 9) dX4_init_9 ?_
  refine cm_iload1 (pc := 10) dX4_init_10 ?_
  refine nw_I (pc := 11) (N := n) zz1 zn arr_int dX4_init_11 hx hN hn (by decide) (Nat.le_refl _) ?_
  have zn2 := la1 (q := .inr (0, n)) zn
  have zz2 := zz1.up
  refine put_F (pc := 13) rfl ffX4_15 dX4_init_13 (ha.app) ?_
  have zz3 := zz2.st a 0 (a + 1) (by omega)
  exact cm_vret (pc := 16) dX4_init_16 rfl ⟨rfl, rfl⟩
set_option maxRecDepth 20000 in
theorem i_X3 (zz : fz (a + 1) hi hl hr) (zn : sh.length = a + 1) (ha : cm_ob sh a 3) : cm_ct D mX3_init (d + 2) 13 270 [.ref a] (sh, hi, hl, hr) (fun r9 h9 => r9 = none ∧ h9 = ((((shM (sh ++ [.inl 2])) ++ [.inl 4]) ++ [.inr (0, 0)]), (sv9 hi (a + 12) 1 (-1)), hl, (st9 (st9 (st9 (hrM hr (a + 1)) a 0 (a + 1)) (a + 12) 0 (a + 13)) a 1 (a + 12)))) := by
  have h2 := ha.1
  refine cm_ct_of (ls := [some (.ref a)]) 0 (by decide +kernel) rfl rfl ?_
  refine cm_aload0 (pc := 0) dX3_init_0 ?_
  refine cm_objInit (pc := 1) oiX3_3 dX3_init_1 (by omega) (Nat.le_of_ble_eq_true rfl) ?_
  refine cm_aload0 (pc := 4) dX3_init_4 ?_
  refine nw_O (pc := 5) zz zn cfX2 clX3_9 dX3_init_5 (by decide) (by decide) ?_
  have zn1 := la1 (q := .inl 2) zn
  have zz1 := zz.up
  refine cm_dup (pc := 8) dX3_init_8 rfl ?_
  refine cm_I0 (pc := 9) mX2_init_i mlX3_11 dX3_init_9 (by omega) (Nat.le_of_ble_eq_true rfl) (by decide) (by decide) (i_X2 (d := d) (a := (a + 1)) zz1 zn1 ((ob_last (by omega) zn))) (fun r9 h9 hq => ?_)
  obtain ⟨rfl, rfl⟩ := hq
  have zn2 := laM zn1
  have zz2 := zz1.mk
  refine put_F (pc := 12) rfl ffX3_12 dX3_init_12 (ha.app.appM) ?_
  have zz3 := zz2.st a 0 (a + 1) (by omega)
  refine cm_aload0 (pc := 15) dX3_init_15 ?_
  refine nw_O (pc := 16) zz3 zn2 cfX4 clX3_18 dX3_init_16 (by decide) (by decide) ?_
  have zn4 := la1 (q := .inl 4) zn2
  have zz4 := zz3.up
  refine cm_dup (pc := 19) dX3_init_19 rfl ?_
  refine cm_iconst (pc := 20) (v := 0) dX3_init_20 (by decide) ?_
  refine cm_I1 (pc := 21) mX4_init_i mlX3_20 dX3_init_21 (by omega) (Nat.le_of_ble_eq_true rfl) (by decide) (by decide) (i_X4 (d := d) (a := (a + 12)) zz4 zn4 ((ob_last (by omega) zn2)) (n := 0) (by decide) (by decide) (by decide)) (fun r21 h21 hq => ?_)
  obtain ⟨rfl, rfl⟩ := hq
  have zz5 := zz4.sv (a + 12) 1 (-1) (by omega)
  have zn6 := la1 (q := .inr (0, 0)) zn4
  have zz6 := zz5.up
  have zz7 := zz6.st (a + 12) 0 (a + 13) (by omega)
  refine put_R (pc := 24) fpX3_23 dX3_init_24 (ha.app.appM.app.app) ?_
  have zz8 := zz7.st a 1 (a + 12) (by omega)
  exact cm_vret (pc := 27) dX3_init_27 rfl ⟨rfl, rfl⟩
set_option maxRecDepth 20000 in
theorem i_X0 (zz : fz (a + 1) hi hl hr) (zn : sh.length = a + 1) (ha : cm_ob sh a 0) : cm_ct D mX0_init (d + 2) 13 281 [.ref a] (sh, hi, hl, hr) (fun r9 h9 => r9 = none ∧ h9 = ((((shM (sh ++ [.inl 2])) ++ [.inr (0, 6)]) ++ [.inr (1, 7)]), hi, hl, (st9 (st9 (st9 (hrM hr (a + 1)) a 0 (a + 1)) a 1 (a + 12)) a 2 (a + 13)))) := by
  have h2 := ha.1
  refine cm_ct_of (ls := [some (.ref a)]) 0 (by decide +kernel) rfl rfl ?_
  refine cm_aload0 (pc := 0) dX0_init_0 ?_
  refine cm_objInit (pc := 1) oiX0_3 dX0_init_1 (by omega) (Nat.le_of_ble_eq_true rfl) ?_
  refine cm_aload0 (pc := 4) dX0_init_4 ?_
  refine nw_O (pc := 5) zz zn cfX2 clX0_9 dX0_init_5 (by decide) (by decide) ?_
  have zn1 := la1 (q := .inl 2) zn
  have zz1 := zz.up
  refine cm_dup (pc := 8) dX0_init_8 rfl ?_
  refine cm_I0 (pc := 9) mX2_init_i mlX0_11 dX0_init_9 (by omega) (Nat.le_of_ble_eq_true rfl) (by decide) (by decide) (i_X2 (d := d) (a := (a + 1)) zz1 zn1 ((ob_last (by omega) zn))) (fun r9 h9 hq => ?_)
  obtain ⟨rfl, rfl⟩ := hq
  have zn2 := laM zn1
  have zz2 := zz1.mk
  refine put_F (pc := 12) rfl ffX0_12 dX0_init_12 (ha.app.appM) ?_
  have zz3 := zz2.st a 0 (a + 1) (by omega)
  refine cm_aload0 (pc := 15) dX0_init_15 ?_
  refine cm_bipush (pc := 16) (v := 6) dX0_init_16 (by decide) ?_
  refine nw_I (pc := 18) (N := 6) zz3 zn2 arr_int dX0_init_18 (by decide) (by decide) (by decide) (by decide) (by decide) ?_
  have zn4 := la1 (q := .inr (0, 6)) zn2
  have zz4 := zz3.up
  refine put_F (pc := 20) rfl ffX0_18 dX0_init_20 (ha.app.appM.app) ?_
  have zz5 := zz4.st a 1 (a + 12) (by omega)
  refine cm_aload0 (pc := 23) dX0_init_23 ?_
  refine cm_bipush (pc := 24) (v := 7) dX0_init_24 (by decide) ?_
  refine nw_L (pc := 26) (N := 7) zz5 zn4 arr_long dX0_init_26 (by decide) (by decide) (by decide) (by decide) (by decide) ?_
  have zn6 := la1 (q := .inr (1, 7)) zn4
  have zz6 := zz5.up
  refine put_F (pc := 28) rfl ffX0_22 dX0_init_28 (ha.app.appM.app.app) ?_
  have zz7 := zz6.st a 2 (a + 13) (by omega)
  exact cm_vret (pc := 31) dX0_init_31 rfl ⟨rfl, rfl⟩
set_option maxRecDepth 20000 in
theorem i_X5 (zz : fz (a + 1) hi hl hr) (zn : sh.length = a + 1) (ha : cm_ob sh a 5) : cm_ct D mX5_init (d + 2) 12 274 [.ref a] (sh, hi, hl, hr) (fun r9 h9 => r9 = none ∧ h9 = (((shM (sh ++ [.inl 2])) ++ [.inr (0, 6)]), hi, hl, (st9 (st9 (hrM hr (a + 1)) a 0 (a + 1)) a 1 (a + 12)))) := by
  have h2 := ha.1
  refine cm_ct_of (ls := [some (.ref a)]) 0 (by decide +kernel) rfl rfl ?_
  refine cm_aload0 (pc := 0) dX5_init_0 ?_
  refine cm_objInit (pc := 1) oiX5_3 dX5_init_1 (by omega) (Nat.le_of_ble_eq_true rfl) ?_
  refine cm_aload0 (pc := 4) dX5_init_4 ?_
  refine nw_O (pc := 5) zz zn cfX2 clX5_9 dX5_init_5 (by decide) (by decide) ?_
  have zn1 := la1 (q := .inl 2) zn
  have zz1 := zz.up
  refine cm_dup (pc := 8) dX5_init_8 rfl ?_
  refine cm_I0 (pc := 9) mX2_init_i mlX5_11 dX5_init_9 (by omega) (Nat.le_of_ble_eq_true rfl) (by decide) (by decide) (i_X2 (d := d) (a := (a + 1)) zz1 zn1 ((ob_last (by omega) zn))) (fun r9 h9 hq => ?_)
  obtain ⟨rfl, rfl⟩ := hq
  have zn2 := laM zn1
  have zz2 := zz1.mk
  refine put_F (pc := 12) rfl ffX5_12 dX5_init_12 (ha.app.appM) ?_
  have zz3 := zz2.st a 0 (a + 1) (by omega)
  refine cm_aload0 (pc := 15) dX5_init_15 ?_
  refine cm_bipush (pc := 16) (v := 6) dX5_init_16 (by decide) ?_
  refine nw_I (pc := 18) (N := 6) zz3 zn2 arr_int dX5_init_18 (by decide) (by decide) (by decide) (by decide) (by decide) ?_
  have zn4 := la1 (q := .inr (0, 6)) zn2
  have zz4 := zz3.up
  refine put_F (pc := 20) rfl ffX5_18 dX5_init_20 (ha.app.appM.app) ?_
  have zz5 := zz4.st a 1 (a + 12) (by omega)
  exact cm_vret (pc := 23) dX5_init_23 rfl ⟨rfl, rfl⟩
end IN
