/-! PART pairs: the class is asked, then the reference: the same answer, both memories the same -/
def LI (sh : List cm_Sh) (hi : cm_g2) (hr : Nat → Nat → Option Nat) : Prop := cm_cls sh hr ∧ cm_mdl sh hr 114 ∧ ∃ nb ns u, RR hi u nb ns ∧ cm_us hi 114 u = hi
def LJ (sh : List cm_Sh) (h : cm_H) : Prop := ∃ hi hl hr, h = (sh, hi, hl, hr) ∧ LI sh hi hr
def oQ (D : cm_D) (sh : List cm_Sh) (M : cm_M) (as : List Value) : Option Value → cm_H → Prop := fun r h => ∃ x : Int32, r = some (.int x) ∧ cm_ob h.1 114 7 ∧ cm_ct D M 39 0 0 (.ref 114 :: as) h (fun r' h' => r' = some (.int x) ∧ LJ sh h')
def oL (D : cm_D) (sh : List cm_Sh) (M : cm_M) (as : List Value) : Option Value → cm_H → Prop := fun r h => ∃ x : Int64, r = some (.long x) ∧ cm_ob h.1 114 7 ∧ cm_ct D M 39 0 0 (.ref 114 :: as) h (fun r' h' => r' = some (.long x) ∧ LJ sh h')
theorem us9 {hi H u : cm_g2} (e : cm_us hi 114 u = hi) (f : ∀ c, 114 ≤ c → H c = hi c) : cm_us H 114 u = H := by
  funext c
  by_cases q : 114 ≤ c
  · have h := congrFun e c
    unfold cm_us at h ⊢
    rw [if_pos q] at h ⊢
    rw [h, f c q]
  · unfold cm_us
    rw [if_neg q]
theorem us_us9 {H v : cm_g2} : cm_us (cm_us H 114 v) 114 v = cm_us H 114 v := by
  funext c
  unfold cm_us
  by_cases q : 114 ≤ c
  · rw [if_pos q, if_pos q]
  · rw [if_neg q, if_neg q]
theorem mdl_congr {sh : List cm_Sh} {hr hr' : Nat → Nat → Option Nat} (h : cm_mdl sh hr 114) (k : hrOk hr hr') : cm_mdl sh hr' 114 := by
  have e := k.1 114 (by decide)
  unfold cm_mdl at h ⊢
  rw [e]
  exact h
theorem rFin_int {n : Nat} {H : cm_g2} {r9 : Option Value} {X : Except Nat pA} (h : rFin n H r9 X) : ∃ x, r9 = some (.int x) := by
  cases X with
  | error q => exact ⟨_, h.2⟩
  | ok B => exact ⟨_, h.1⟩
theorem cRT_c {hi : cm_g2} {nb s c : Nat} {set : Int32} (h : 114 ≤ c) : (cRT hi nb set s).2 c = hi c := by
  unfold cRT
  split
  · rfl
  · split
    · split
      · exact kRef_c (by omega)
      · split
        · split
          · exact kRef_c (by omega)
          · rfl
        · exact kRef_c (by omega)
    · rfl
theorem sR_lt {r : Int32} (h : ¬ isW r 6 = false) : sR r < 114 ∧ sR r + 1 < 114 := by
  have := isW_lt (n := 6) (tru h) (show (6 : Int32).toInt ≤ ((6 : Nat) : Int) by decide)
  show 61 + 2 * r.toNatClampNeg < 114 ∧ 61 + 2 * r.toNatClampNeg + 1 < 114
  omega
section PR
variable {D : cm_D} {sh : List cm_Sh} {hi H : cm_g2} {hl : Nat → Nat → Int64} {hr : Nat → Nat → Option Nat} {u v : cm_g2} {nb ns : Nat}
theorem ct_h9 {M : cm_M} {d mc ms : Nat} {as : List Value} {Q : Option Value → cm_H → Prop} (e : cm_us H 114 u = H) (k : cm_ct D M d mc ms as (sh, cm_us H 114 u, hl, hr) Q) : cm_ct D M d mc ms as (sh, H, hl, hr) Q := by
  rw [e] at k
  exact k
theorem LJ.of (hX : cm_cls sh hr) (hE : cm_mdl sh hr 114) (R : RR H v nb ns) : LJ sh (sh, cm_us H 114 v, hl, hr) := ⟨_, _, _, rfl, hX, hE, nb, ns, v, R.us, us_us9⟩
theorem o_row {a0 a1 : Int32} (L : LI sh hi hr) : cm_ct D mX6_row 39 0 0 [.ref 2, .int a0, .int a1] (sh, hi, hl, hr) (oQ D sh mX7_row [.int a0, .int a1]) := by
  obtain ⟨hX, hE, nb, ns, u, R, e⟩ := L
  refine cm_ct_imp (fun r h hq => ?_) (k_row (d := 37) hX R.ci)
  obtain ⟨rfl, rfl⟩ := hq
  have o := op_row (r := a0) (n := a1) R
  refine ⟨_, rfl, hE.1, ct_h9 (us9 e o.2.2) ?_⟩
  refine cm_ct_imp (fun r h hq => ?_) (r_row (d := 37) hE)
  obtain ⟨rfl, rfl⟩ := hq
  exact ⟨congrArg (fun z => some (Value.int z)) o.1.symm, LJ.of hX hE o.2.1⟩
theorem o_lay {a0 a1 a2 : Int32} (L : LI sh hi hr) : cm_ct D mX6_lay 39 0 0 [.ref 2, .int a0, .int a1, .int a2] (sh, hi, hl, hr) (oQ D sh mX7_lay [.int a0, .int a1, .int a2]) := by
  obtain ⟨hX, hE, nb, ns, u, R, e⟩ := L
  refine cm_ct_imp (fun r h hq => ?_) (k_lay (d := 34) hX R.ci)
  obtain ⟨rfl, rfl⟩ := hq
  have o := op_lay (r := a0) (i := a1) (w := a2) R
  refine ⟨_, rfl, hE.1, ct_h9 (us9 e o.2.2) ?_⟩
  refine cm_ct_imp (fun r h hq => ?_) (r_lay (d := 35) hE R.ui)
  obtain ⟨rfl, rfl⟩ := hq
  exact ⟨congrArg (fun z => some (Value.int z)) o.1.symm, LJ.of hX hE o.2.1⟩
theorem o_at {a0 a1 : Int32} (L : LI sh hi hr) : cm_ct D mX6_at 39 0 0 [.ref 2, .int a0, .int a1] (sh, hi, hl, hr) (oQ D sh mX7_at [.int a0, .int a1]) := by
  obtain ⟨hX, hE, nb, ns, u, R, e⟩ := L
  refine cm_ct_imp (fun r h hq => ?_) (k_at (d := 34) hX R.ci)
  obtain ⟨rfl, rfl⟩ := hq
  have o := op_at (r := a0) (i := a1) R
  refine ⟨_, rfl, hE.1, ct_h9 (us9 e o.2.2) ?_⟩
  refine cm_ct_imp (fun r h hq => ?_) (r_at (d := 36) hE R.ui)
  obtain ⟨rfl, rfl⟩ := hq
  exact ⟨congrArg (fun z => some (Value.int z)) o.1.symm, LJ.of hX hE o.2.1⟩
theorem o_tear {a0 : Int32} (L : LI sh hi hr) : cm_ct D mX6_tear 39 0 0 [.ref 2, .int a0] (sh, hi, hl, hr) (oQ D sh mX7_tear [.int a0]) := by
  obtain ⟨hX, hE, nb, ns, u, R, e⟩ := L
  refine cm_ct_imp (fun r h hq => ?_) (k_tear (d := 37) hX R.ci)
  obtain ⟨rfl, rfl⟩ := hq
  have o := op_tear (r := a0) R
  refine ⟨_, rfl, hE.1, ct_h9 (us9 e o.2.2) ?_⟩
  refine cm_ct_imp (fun r h hq => ?_) (r_tear (d := 36) hE R.ui)
  obtain ⟨rfl, rfl⟩ := hq
  exact ⟨congrArg (fun z => some (Value.int z)) o.1.symm, LJ.of hX hE o.2.1⟩
theorem o_copy {a0 a1 a2 a3 a4 : Int32} (L : LI sh hi hr) : cm_ct D mX6_copy 39 0 0 [.ref 2, .int a0, .int a1, .int a2, .int a3, .int a4] (sh, hi, hl, hr) (oQ D sh mX7_copy [.int a0, .int a1, .int a2, .int a3, .int a4]) := by
  obtain ⟨hX, hE, nb, ns, u, R, e⟩ := L
  refine cm_ct_imp (fun r h hq => ?_) (k_copy (d := 36) hX R.ci)
  obtain ⟨rfl, rfl⟩ := hq
  have hw : ∃ o9, uCopy u a0 a1 a2 a3 a4 o9 := by
    unfold uCopy
    repeat' split
    all_goals first | exact ⟨_, rfl⟩ | exact ⟨_, fun _ => 0, rfl⟩
  obtain ⟨o9, ho9⟩ := hw
  refine ⟨_, rfl, hE.1, ct_h9 (us9 e (op_copy R ho9).2.2) ?_⟩
  refine cm_ct_imp (fun r h hq => ?_) (r_copy (d := 36) hE R.ui)
  obtain ⟨o8, rfl, rfl, ho⟩ := hq
  have o := op_copy R ho
  exact ⟨congrArg (fun z => some (Value.int z)) o.1.symm, LJ.of hX hE o.2.1⟩
theorem o_mean {a0 : Int32} (L : LI sh hi hr) : cm_ct D mX6_mean 39 0 0 [.ref 2, .int a0] (sh, hi, hl, hr) (oQ D sh mX7_mean [.int a0]) := by
  obtain ⟨hX, hE, nb, ns, u, R, e⟩ := L
  refine cm_ct_imp (fun r h hq => ?_) (k_mean (d := 37) hX R.ci)
  obtain ⟨rfl, rfl⟩ := hq
  have o := op_mean (r := a0) R
  refine ⟨_, rfl, hE.1, ct_h9 (us9 e o.2.2) ?_⟩
  refine cm_ct_imp (fun r h hq => ?_) (r_mean (d := 36) hE R.ui)
  obtain ⟨rfl, rfl⟩ := hq
  exact ⟨congrArg (fun z => some (Value.int z)) o.1.symm, LJ.of hX hE o.2.1⟩
theorem o_text {a0 a1 : Int32} (L : LI sh hi hr) : cm_ct D mX6_text 39 0 0 [.ref 2, .int a0, .int a1] (sh, hi, hl, hr) (oQ D sh mX7_text [.int a0, .int a1]) := by
  obtain ⟨hX, hE, nb, ns, u, R, e⟩ := L
  refine cm_ct_imp (fun r h hq => ?_) (k_text (d := 37) hX R.ci)
  obtain ⟨rfl, rfl⟩ := hq
  have o := op_text (r := a0) (n := a1) R
  refine ⟨_, rfl, hE.1, ct_h9 (us9 e o.2.2) ?_⟩
  refine cm_ct_imp (fun r h hq => ?_) (r_text (d := 37) hE)
  obtain ⟨rfl, rfl⟩ := hq
  exact ⟨congrArg (fun z => some (Value.int z)) o.1.symm, LJ.of hX hE o.2.1⟩
theorem o_put {a0 a1 a2 : Int32} (L : LI sh hi hr) : cm_ct D mX6_put 39 0 0 [.ref 2, .int a0, .int a1, .int a2] (sh, hi, hl, hr) (oQ D sh mX7_put [.int a0, .int a1, .int a2]) := by
  obtain ⟨hX, hE, nb, ns, u, R, e⟩ := L
  refine cm_ct_imp (fun r h hq => ?_) (k_put (d := 34) hX R.ci)
  obtain ⟨rfl, rfl⟩ := hq
  have o := op_put (t := a0) (i := a1) (w := a2) R
  refine ⟨_, rfl, hE.1, ct_h9 (us9 e o.2.2) ?_⟩
  refine cm_ct_imp (fun r h hq => ?_) (r_put (d := 36) hE R.ui)
  obtain ⟨rfl, rfl⟩ := hq
  exact ⟨congrArg (fun z => some (Value.int z)) o.1.symm, LJ.of hX hE o.2.1⟩
theorem o_buyer {a0 a1 : Int32} (L : LI sh hi hr) : cm_ct D mX6_buyer 39 0 0 [.ref 2, .int a0, .int a1] (sh, hi, hl, hr) (oQ D sh mX7_buyer [.int a0, .int a1]) := by
  obtain ⟨hX, hE, nb, ns, u, R, e⟩ := L
  refine cm_ct_imp (fun r h hq => ?_) (k_buyer (d := 37) hX R.mo)
  obtain ⟨rfl, rfl⟩ := hq
  have o := op_buyer (i := a0) (w := a1) R
  refine ⟨_, rfl, hE.1, ct_h9 (us9 e o.2.2) ?_⟩
  refine cm_ct_imp (fun r h hq => ?_) (r_buyer (d := 37) hE R.uo)
  obtain ⟨rfl, rfl⟩ := hq
  exact ⟨congrArg (fun z => some (Value.int z)) o.1.symm, LJ.of hX hE o.2.1⟩
theorem o_stall {a0 a1 : Int32} (L : LI sh hi hr) : cm_ct D mX6_stall 39 0 0 [.ref 2, .int a0, .int a1] (sh, hi, hl, hr) (oQ D sh mX7_stall [.int a0, .int a1]) := by
  obtain ⟨hX, hE, nb, ns, u, R, e⟩ := L
  refine cm_ct_imp (fun r h hq => ?_) (k_stall (d := 37) hX R.mo)
  obtain ⟨rfl, rfl⟩ := hq
  have o := op_stall (i := a0) (w := a1) R
  refine ⟨_, rfl, hE.1, ct_h9 (us9 e o.2.2) ?_⟩
  refine cm_ct_imp (fun r h hq => ?_) (r_stall (d := 37) hE R.uo)
  obtain ⟨rfl, rfl⟩ := hq
  exact ⟨congrArg (fun z => some (Value.int z)) o.1.symm, LJ.of hX hE o.2.1⟩
theorem o_mark {a0 a1 : Int32} (L : LI sh hi hr) : cm_ct D mX6_mark 39 0 0 [.ref 2, .int a0, .int a1] (sh, hi, hl, hr) (oQ D sh mX7_mark [.int a0, .int a1]) := by
  obtain ⟨hX, hE, nb, ns, u, R, e⟩ := L
  refine cm_ct_imp (fun r h hq => ?_) (k_mark (d := 34) hX R.mo)
  obtain ⟨rfl, rfl⟩ := hq
  have o := op_mark (i := a0) (kd := a1) R
  refine ⟨_, rfl, hE.1, ct_h9 (us9 e o.2.2) ?_⟩
  refine cm_ct_imp (fun r h hq => ?_) (r_mark (d := 35) hE R.uo)
  obtain ⟨rfl, rfl⟩ := hq
  exact ⟨congrArg (fun z => some (Value.int z)) o.1.symm, LJ.of hX hE o.2.1⟩
theorem o_want {a0 a1 : Int32} (L : LI sh hi hr) : cm_ct D mX6_want 39 0 0 [.ref 2, .int a0, .int a1] (sh, hi, hl, hr) (oQ D sh mX7_want [.int a0, .int a1]) := by
  obtain ⟨hX, hE, nb, ns, u, R, e⟩ := L
  refine cm_ct_imp (fun r h hq => ?_) (k_want (d := 37) hX R.mo)
  obtain ⟨rfl, rfl⟩ := hq
  have o := op_want (i := a0) (gd := a1) R
  refine ⟨_, rfl, hE.1, ct_h9 (us9 e o.2.2) ?_⟩
  refine cm_ct_imp (fun r h hq => ?_) (r_want (d := 37) hE R.uo)
  obtain ⟨rfl, rfl⟩ := hq
  exact ⟨congrArg (fun z => some (Value.int z)) o.1.symm, LJ.of hX hE o.2.1⟩
theorem o_price {a0 a1 : Int32} (L : LI sh hi hr) : cm_ct D mX6_price 39 0 0 [.ref 2, .int a0, .int a1] (sh, hi, hl, hr) (oQ D sh mX7_price [.int a0, .int a1]) := by
  obtain ⟨hX, hE, nb, ns, u, R, e⟩ := L
  refine cm_ct_imp (fun r h hq => ?_) (k_price (d := 37) hX R.mo)
  obtain ⟨rfl, rfl⟩ := hq
  have o := op_price (k := a0) (v := a1) R
  refine ⟨_, rfl, hE.1, ct_h9 (us9 e o.2.2) ?_⟩
  refine cm_ct_imp (fun r h hq => ?_) (r_price (d := 37) hE R.uo)
  obtain ⟨rfl, rfl⟩ := hq
  exact ⟨congrArg (fun z => some (Value.int z)) o.1.symm, LJ.of hX hE o.2.1⟩
theorem o_wish {a0 : Int32} (L : LI sh hi hr) : cm_ct D mX6_wish 39 0 0 [.ref 2, .int a0] (sh, hi, hl, hr) (oQ D sh mX7_wish [.int a0]) := by
  obtain ⟨hX, hE, nb, ns, u, R, e⟩ := L
  refine cm_ct_imp (fun r h hq => ?_) (k_wish (d := 37) hX R.mo)
  obtain ⟨rfl, rfl⟩ := hq
  have o := op_wish (i := a0) R
  refine ⟨_, rfl, hE.1, ct_h9 (us9 e o.2.2) ?_⟩
  refine cm_ct_imp (fun r h hq => ?_) (r_wish (d := 36) hE R.uo)
  obtain ⟨rfl, rfl⟩ := hq
  exact ⟨congrArg (fun z => some (Value.int z)) o.1.symm, LJ.of hX hE o.2.1⟩
theorem o_minutes {a0 : Int32} (L : LI sh hi hr) : cm_ct D mX6_minutes 39 0 0 [.ref 2, .int a0] (sh, hi, hl, hr) (oQ D sh mX7_minutes [.int a0]) := by
  obtain ⟨hX, hE, nb, ns, u, R, e⟩ := L
  refine cm_ct_imp (fun r h hq => ?_) (k_minutes (d := 35) hX R.mo R.min.2)
  obtain ⟨rfl, rfl⟩ := hq
  have o := op_minutes (n := a0) R
  refine ⟨_, rfl, hE.1, ct_h9 (us9 e o.2.2) ?_⟩
  refine cm_ct_imp (fun r h hq => ?_) (r_minutes (d := 34) hE R.uo (by rw [R.min.1]; exact R.min.2))
  obtain ⟨rfl, rfl⟩ := hq
  exact ⟨congrArg (fun z => some (Value.int z)) o.1.symm, LJ.of hX hE o.2.1⟩
theorem o_turn {a0 : Int32} (L : LI sh hi hr) : cm_ct D mX6_turn 39 0 0 [.ref 2, .int a0] (sh, hi, hl, hr) (oQ D sh mX7_turn [.int a0]) := by
  obtain ⟨hX, hE, nb, ns, u, R, e⟩ := L
  refine cm_ct_imp (fun r h hq => ?_) (k_turn (d := 37) hX R.mo)
  obtain ⟨rfl, rfl⟩ := hq
  have o := op_turn (way := a0) R
  refine ⟨_, rfl, hE.1, ct_h9 (us9 e o.2.2) ?_⟩
  refine cm_ct_imp (fun r h hq => ?_) (r_turn (d := 37) hE R.uo)
  obtain ⟨rfl, rfl⟩ := hq
  exact ⟨congrArg (fun z => some (Value.int z)) o.1.symm, LJ.of hX hE o.2.1⟩
theorem o_shade (L : LI sh hi hr) : cm_ct D mX6_shade 39 0 0 [.ref 2] (sh, hi, hl, hr) (oQ D sh mX7_shade []) := by
  obtain ⟨hX, hE, nb, ns, u, R, e⟩ := L
  refine cm_ct_imp (fun r h hq => ?_) (k_shade (d := 37) hX R.mo)
  obtain ⟨rfl, rfl⟩ := hq
  have o := op_shade R
  refine ⟨_, rfl, hE.1, ct_h9 (us9 e o.2.2) ?_⟩
  refine cm_ct_imp (fun r h hq => ?_) (r_shade (d := 38) hE R.uo)
  obtain ⟨rfl, rfl⟩ := hq
  exact ⟨congrArg (fun z => some (Value.int z)) o.1.symm, LJ.of hX hE o.2.1⟩
theorem o_shaded (L : LI sh hi hr) : cm_ct D mX6_shaded 39 0 0 [.ref 2] (sh, hi, hl, hr) (oQ D sh mX7_shaded []) := by
  obtain ⟨hX, hE, nb, ns, u, R, e⟩ := L
  refine cm_ct_imp (fun r h hq => ?_) (k_shaded (d := 36) hX R.mo)
  obtain ⟨rfl, rfl⟩ := hq
  have o := op_shaded R
  refine ⟨_, rfl, hE.1, ct_h9 (us9 e o.2.2) ?_⟩
  refine cm_ct_imp (fun r h hq => ?_) (r_shaded (d := 36) hE R.uo)
  obtain ⟨rfl, rfl⟩ := hq
  exact ⟨congrArg (fun z => some (Value.int z)) o.1.symm, LJ.of hX hE o.2.1⟩
theorem o_fewest (L : LI sh hi hr) : cm_ct D mX6_fewest 39 0 0 [.ref 2] (sh, hi, hl, hr) (oQ D sh mX7_fewest []) := by
  obtain ⟨hX, hE, nb, ns, u, R, e⟩ := L
  refine cm_ct_imp (fun r h hq => ?_) (k_fewest (d := 36) hX R.mo)
  obtain ⟨rfl, rfl⟩ := hq
  have o := op_fewest R
  refine ⟨_, rfl, hE.1, ct_h9 (us9 e o.2.2) ?_⟩
  refine cm_ct_imp (fun r h hq => ?_) (r_fewest (d := 37) hE R.uo)
  obtain ⟨rfl, rfl⟩ := hq
  exact ⟨congrArg (fun z => some (Value.int z)) o.1.symm, LJ.of hX hE o.2.1⟩
theorem o_turns (L : LI sh hi hr) : cm_ct D mX6_turns 39 0 0 [.ref 2] (sh, hi, hl, hr) (oQ D sh mX7_turns []) := by
  obtain ⟨hX, hE, nb, ns, u, R, e⟩ := L
  refine cm_ct_imp (fun r h hq => ?_) (k_turns (d := 35) hX R.mo)
  obtain ⟨rfl, rfl⟩ := hq
  have o := op_turns R
  refine ⟨_, rfl, hE.1, ct_h9 (us9 e o.2.2) ?_⟩
  refine cm_ct_imp (fun r h hq => ?_) (r_turns (d := 36) hE R.uo)
  obtain ⟨rfl, rfl⟩ := hq
  exact ⟨congrArg (fun z => some (Value.int z)) o.1.symm, LJ.of hX hE o.2.1⟩
theorem o_asked (L : LI sh hi hr) : cm_ct D mX6_asked 39 0 0 [.ref 2] (sh, hi, hl, hr) (oQ D sh mX7_asked []) := by
  obtain ⟨hX, hE, nb, ns, u, R, e⟩ := L
  refine cm_ct_imp (fun r h hq => ?_) (k_asked (d := 39) hX)
  obtain ⟨rfl, rfl⟩ := hq
  have o := op_asked R
  refine ⟨_, rfl, hE.1, ct_h9 (us9 e o.2.2) ?_⟩
  refine cm_ct_imp (fun r h hq => ?_) (r_asked (d := 39) hE)
  obtain ⟨rfl, rfl⟩ := hq
  exact ⟨congrArg (fun z => some (Value.int z)) o.1.symm, LJ.of hX hE o.2.1⟩
theorem o_count {a0 : Int32} (L : LI sh hi hr) : cm_ct D mX6_count 39 0 0 [.ref 2, .int a0] (sh, hi, hl, hr) (oQ D sh mX7_count [.int a0]) := by
  obtain ⟨hX, hE, nb, ns, u, R, e⟩ := L
  refine cm_ct_imp (fun r h hq => ?_) (k_count (d := 36) hX R.mo)
  obtain ⟨rfl, rfl⟩ := hq
  have o := op_count (w := a0) R
  refine ⟨_, rfl, hE.1, ct_h9 (us9 e o.2.2) ?_⟩
  refine cm_ct_imp (fun r h hq => ?_) (r_count (d := 37) hE R.uo)
  obtain ⟨rfl, rfl⟩ := hq
  exact ⟨congrArg (fun z => some (Value.int z)) o.1.symm, LJ.of hX hE o.2.1⟩
theorem o_finding (L : LI sh hi hr) : cm_ct D mX6_finding 39 0 0 [.ref 2] (sh, hi, hl, hr) (oQ D sh mX7_finding []) := by
  obtain ⟨hX, hE, nb, ns, u, R, e⟩ := L
  refine cm_ct_imp (fun r h hq => ?_) (k_finding (d := 39) hX)
  obtain ⟨rfl, rfl⟩ := hq
  have o := op_finding R
  refine ⟨_, rfl, hE.1, ct_h9 (us9 e o.2.2) ?_⟩
  refine cm_ct_imp (fun r h hq => ?_) (r_finding (d := 39) hE)
  obtain ⟨rfl, rfl⟩ := hq
  exact ⟨congrArg (fun z => some (Value.int z)) o.1.symm, LJ.of hX hE o.2.1⟩
theorem o_findings {a0 : Int32} (L : LI sh hi hr) : cm_ct D mX6_findings 39 0 0 [.ref 2, .int a0] (sh, hi, hl, hr) (oQ D sh mX7_findings [.int a0]) := by
  obtain ⟨hX, hE, nb, ns, u, R, e⟩ := L
  refine cm_ct_imp (fun r h hq => ?_) (k_findings (d := 39) hX)
  obtain ⟨rfl, rfl⟩ := hq
  have o := op_findings (f := a0) R
  refine ⟨_, rfl, hE.1, ct_h9 (us9 e o.2.2) ?_⟩
  refine cm_ct_imp (fun r h hq => ?_) (r_findings (d := 38) hE)
  obtain ⟨rfl, rfl⟩ := hq
  exact ⟨congrArg (fun z => some (Value.int z)) o.1.symm, LJ.of hX hE o.2.1⟩
theorem o_when {a0 : Int32} (L : LI sh hi hr) : cm_ct D mX6_when 39 0 0 [.ref 2, .int a0] (sh, hi, hl, hr) (oQ D sh mX7_when [.int a0]) := by
  obtain ⟨hX, hE, nb, ns, u, R, e⟩ := L
  refine cm_ct_imp (fun r h hq => ?_) (k_when (d := 33) hX R.mo)
  obtain ⟨H, rfl, hc⟩ := hq
  have hf : (∃ x, r = some (.int x)) ∧ ∀ c, 114 ≤ c → H c = hi c := by
    have hm := hc
    split at hm
    · exact ⟨⟨_, hm.1⟩, fun c _ => by rw [hm.2]⟩
    · obtain ⟨g, _, F, hm⟩ := hm
      refine ⟨?_, fun c hcc => F c (by omega) (by omega)⟩
      split at hm <;> exact ⟨_, hm.1⟩
  obtain ⟨⟨x, rfl⟩, hf⟩ := hf
  refine ⟨x, rfl, hE.1, ct_h9 (us9 e hf) ?_⟩
  refine cm_ct_imp (fun r h hq => ?_) (r_when (d := 34) hE R.uo)
  obtain ⟨v, rfl, hu⟩ := hq
  obtain ⟨y, e1, e2, nb9, ns9, R9⟩ := op_when (i := a0) R hc hu
  exact ⟨by rw [e2, ← e1], LJ.of hX hE R9⟩
theorem o_bought {a0 : Int32} (L : LI sh hi hr) : cm_ct D mX6_bought 39 0 0 [.ref 2, .int a0] (sh, hi, hl, hr) (oQ D sh mX7_bought [.int a0]) := by
  obtain ⟨hX, hE, nb, ns, u, R, e⟩ := L
  refine cm_ct_imp (fun r h hq => ?_) (k_bought (d := 33) hX R.mo)
  obtain ⟨H, rfl, hc⟩ := hq
  have hf : (∃ x, r = some (.int x)) ∧ ∀ c, 114 ≤ c → H c = hi c := by
    have hm := hc
    split at hm
    · exact ⟨⟨_, hm.1⟩, fun c _ => by rw [hm.2]⟩
    · obtain ⟨g, _, F, hm⟩ := hm
      exact ⟨⟨_, hm.1⟩, fun c hcc => F c (by omega) (by omega)⟩
  obtain ⟨⟨x, rfl⟩, hf⟩ := hf
  refine ⟨x, rfl, hE.1, ct_h9 (us9 e hf) ?_⟩
  refine cm_ct_imp (fun r h hq => ?_) (r_bought (d := 33) hE R.uo)
  obtain ⟨rfl, rfl⟩ := hq
  obtain ⟨y, e1, e2, nb9, ns9, R9⟩ := op_bought (n := a0) R hc
  exact ⟨by rw [e2, ← e1], LJ.of hX hE R9⟩
theorem o_rest (L : LI sh hi hr) : cm_ct D mX6_rest 39 0 0 [.ref 2] (sh, hi, hl, hr) (oQ D sh mX7_rest []) := by
  obtain ⟨hX, hE, nb, ns, u, R, e⟩ := L
  refine cm_ct_imp (fun r h hq => ?_) (k_rest (d := 33) hX R.mo)
  obtain ⟨H, hl9, rfl, hc⟩ := hq
  have hf : (∃ x, r = some (.int x)) ∧ ∀ c, 114 ≤ c → H c = hi c := by
    have hm := hc
    split at hm
    · exact ⟨⟨_, hm.1⟩, fun c _ => by rw [hm.2]⟩
    · obtain ⟨g, _, F, hm⟩ := hm
      refine ⟨?_, fun c hcc => F c (by omega) (by omega)⟩
      split at hm <;> exact ⟨_, hm.1⟩
  obtain ⟨⟨x, rfl⟩, hf⟩ := hf
  refine ⟨x, rfl, hE.1, ct_h9 (us9 e hf) ?_⟩
  refine cm_ct_imp (fun r h hq => ?_) (r_rest (d := 34) hE R.uo)
  obtain ⟨v, rfl, hu⟩ := hq
  obtain ⟨y, e1, e2, nb9, ns9, R9⟩ := op_rest R hc hu
  exact ⟨by rw [e2, ← e1], LJ.of hX hE R9⟩
theorem o_track {a0 a1 : Int32} (L : LI sh hi hr) : cm_ct D mX6_track 39 0 0 [.ref 2, .int a0, .int a1] (sh, hi, hl, hr) (oQ D sh mX7_track [.int a0, .int a1]) := by
  obtain ⟨hX, hE, nb, ns, u, R, e⟩ := L
  refine cm_ct_imp (fun r h hq => ?_) (k_track (d := 33) hX R.mo)
  obtain ⟨H, rfl, hc⟩ := hq
  have hf : (∃ x, r = some (.int x)) ∧ ∀ c, 114 ≤ c → H c = hi c := by
    have hm := hc
    split at hm
    · exact ⟨⟨_, hm.1⟩, fun c _ => by rw [hm.2]⟩
    · next hn =>
      obtain ⟨g, _, F, _, _, hm⟩ := hm
      have hs := sR_lt (fun w => hn (Or.inr w))
      exact ⟨⟨_, hm.1⟩, fun c hcc => F c (by omega) (by omega) (Nat.ne_of_gt (Nat.lt_of_lt_of_le hs.1 hcc)) (Nat.ne_of_gt (Nat.lt_of_lt_of_le hs.2 hcc))⟩
  obtain ⟨⟨x, rfl⟩, hf⟩ := hf
  refine ⟨x, rfl, hE.1, ct_h9 (us9 e hf) ?_⟩
  refine cm_ct_imp (fun r h hq => ?_) (r_track (d := 33) hE R.uo)
  obtain ⟨v, rfl, hu⟩ := hq
  obtain ⟨y, e1, e2, nb9, ns9, R9⟩ := op_track (n := a0) (r := a1) R hc hu
  exact ⟨by rw [e2, ← e1], LJ.of hX hE R9⟩
theorem o_best {a0 a1 : Int32} (L : LI sh hi hr) : cm_ct D mX6_best 39 0 0 [.ref 2, .int a0, .int a1] (sh, hi, hl, hr) (oQ D sh mX7_best [.int a0, .int a1]) := by
  obtain ⟨hX, hE, nb, ns, u, R, e⟩ := L
  refine cm_ct_imp (fun r h hq => ?_) (k_best (d := 31) hX R.mo)
  obtain ⟨H, rfl, hc⟩ := hq
  have hf : (∃ x, r = some (.int x)) ∧ ∀ c, 114 ≤ c → H c = hi c := by
    have hm := hc
    split at hm
    · exact ⟨⟨_, hm.1⟩, fun c _ => by rw [hm.2]⟩
    · next hn =>
      split at hm
      · exact ⟨⟨_, hm.1⟩, fun c _ => by rw [hm.2]⟩
      · obtain ⟨m9, b9, F, _, hm⟩ := hm
        have hs := sR_lt (fun w => hn (Or.inr w))
        exact ⟨⟨_, hm.1⟩, fun c hcc => F c (by omega) (Nat.ne_of_gt (Nat.lt_of_lt_of_le hs.1 hcc)) (Nat.ne_of_gt (Nat.lt_of_lt_of_le hs.2 hcc))⟩
  obtain ⟨⟨x, rfl⟩, hf⟩ := hf
  refine ⟨x, rfl, hE.1, ct_h9 (us9 e hf) ?_⟩
  refine cm_ct_imp (fun r h hq => ?_) (r_best (d := 26) hE R.uo)
  obtain ⟨v, rfl, hu⟩ := hq
  obtain ⟨y, e1, e2, nb9, ns9, R9⟩ := op_best (n := a0) (r := a1) R hc hu
  exact ⟨by rw [e2, ← e1], LJ.of hX hE R9⟩
theorem o_spot {a0 a1 : Int32} (L : LI sh hi hr) : cm_ct D mX6_spot 39 0 0 [.ref 2, .int a0, .int a1] (sh, hi, hl, hr) (oQ D sh mX7_spot [.int a0, .int a1]) := by
  obtain ⟨hX, hE, nb, ns, u, R, e⟩ := L
  refine cm_ct_imp (fun r h hq => ?_) (k_spot (d := 32) hX R.mo)
  obtain ⟨H, rfl, hc⟩ := hq
  have hf : (∃ x, r = some (.int x)) ∧ ∀ c, 114 ≤ c → H c = hi c := by
    have hm := hc
    split at hm
    · exact ⟨⟨_, hm.1⟩, fun c _ => by rw [hm.2]⟩
    · split at hm
      · exact ⟨⟨_, hm.1⟩, fun c _ => by rw [hm.2]⟩
      · obtain ⟨g, F, _, hm⟩ := hm
        exact ⟨⟨_, hm.1⟩, fun c hcc => F c (by omega) (by omega)⟩
  obtain ⟨⟨x, rfl⟩, hf⟩ := hf
  refine ⟨x, rfl, hE.1, ct_h9 (us9 e hf) ?_⟩
  refine cm_ct_imp (fun r h hq => ?_) (r_spot (d := 34) hE R.uo)
  obtain ⟨rfl, rfl⟩ := hq
  obtain ⟨y, e1, e2, nb9, ns9, R9⟩ := op_spot (k := a0) (n := a1) R hc
  exact ⟨by rw [e2, ← e1], LJ.of hX hE R9⟩
theorem o_missed {a0 : Int32} (L : LI sh hi hr) : cm_ct D mX6_missed 39 0 0 [.ref 2, .int a0] (sh, hi, hl, hr) (oQ D sh mX7_missed [.int a0]) := by
  obtain ⟨hX, hE, nb, ns, u, R, e⟩ := L
  refine cm_ct_imp (fun r h hq => ?_) (k_missed (d := 32) hX R.mo)
  obtain ⟨H, rfl, hc⟩ := hq
  have hf : (∃ x, r = some (.int x)) ∧ ∀ c, 114 ≤ c → H c = hi c := by
    have hm := hc
    split at hm
    · exact ⟨⟨_, hm.1⟩, fun c _ => by rw [hm.2]⟩
    · split at hm
      · exact ⟨⟨_, hm.1⟩, fun c _ => by rw [hm.2]⟩
      · obtain ⟨g, g0, F, _, _, hm⟩ := hm
        exact ⟨⟨_, hm.1⟩, fun c hcc => F c (by omega) (by omega)⟩
  obtain ⟨⟨x, rfl⟩, hf⟩ := hf
  refine ⟨x, rfl, hE.1, ct_h9 (us9 e hf) ?_⟩
  refine cm_ct_imp (fun r h hq => ?_) (r_missed (d := 33) hE R.uo)
  obtain ⟨rfl, rfl⟩ := hq
  obtain ⟨y, e1, e2, nb9, ns9, R9⟩ := op_missed (n := a0) R hc
  exact ⟨by rw [e2, ← e1], LJ.of hX hE R9⟩
theorem o_winds {a0 a1 : Int32} (L : LI sh hi hr) : cm_ct D mX6_winds 39 0 0 [.ref 2, .int a0, .int a1] (sh, hi, hl, hr) (oQ D sh mX7_winds [.int a0, .int a1]) := by
  obtain ⟨hX, hE, nb, ns, u, R, e⟩ := L
  refine cm_ct_imp (fun r h hq => ?_) (k_winds (d := 33) hX R.mo)
  obtain ⟨H, rfl, hc⟩ := hq
  have hf : (∃ x, r = some (.int x)) ∧ ∀ c, 114 ≤ c → H c = hi c := by
    have hm := hc
    split at hm
    · exact ⟨⟨_, hm.1⟩, fun c _ => by rw [hm.2]⟩
    · split at hm
      · exact ⟨⟨_, hm.1⟩, fun c _ => by rw [hm.2]⟩
      · obtain ⟨g, _, F, hm⟩ := hm
        exact ⟨⟨_, hm.1⟩, fun c hcc => F c (by omega) (by omega)⟩
  obtain ⟨⟨x, rfl⟩, hf⟩ := hf
  refine ⟨x, rfl, hE.1, ct_h9 (us9 e hf) ?_⟩
  refine cm_ct_imp (fun r h hq => ?_) (r_winds (d := 34) hE R.uo)
  obtain ⟨v, rfl, hu⟩ := hq
  obtain ⟨y, e1, e2, nb9, ns9, R9⟩ := op_winds (n := a0) (seed := a1) R hc hu
  exact ⟨by rw [e2, ← e1], LJ.of hX hE R9⟩
theorem o_fits {a0 a1 a2 : Int32} (L : LI sh hi hr) : cm_ct D mX6_fits 39 0 0 [.ref 2, .int a0, .int a1, .int a2] (sh, hi, hl, hr) (oQ D sh mX7_fits [.int a0, .int a1, .int a2]) := by
  obtain ⟨hX, hE, nb, ns, u, R, e⟩ := L
  refine cm_ct_imp (fun r h hq => ?_) (k_fits (d := 31) hX R.mo R.ci)
  obtain ⟨H, rfl, hc⟩ := hq
  have hf : (∃ x, r = some (.int x)) ∧ ∀ c, 114 ≤ c → H c = hi c := by
    have hm := hc
    split at hm
    · exact ⟨⟨_, hm.1⟩, fun c _ => by rw [hm.2]⟩
    · split at hm
      · obtain ⟨g, F, _, hm⟩ := hm
        exact ⟨⟨_, hm.1⟩, fun c hcc => F c (by omega) (by omega)⟩
      · exact ⟨⟨_, hm.1⟩, fun c hcc => by rw [hm.2]; exact cRT_c hcc⟩
  obtain ⟨⟨x, rfl⟩, hf⟩ := hf
  refine ⟨x, rfl, hE.1, ct_h9 (us9 e hf) ?_⟩
  refine cm_ct_imp (fun r h hq => ?_) (r_fits (d := 25) hE R.uo R.ui)
  obtain ⟨v, rfl, hu⟩ := hq
  obtain ⟨y, e1, e2, nb9, ns9, R9⟩ := (op_fits (set := a0) (n := a1) (r := a2) R hc hu).1
  exact ⟨by rw [e2, ← e1], LJ.of hX hE R9⟩
theorem o_could {a0 a1 a2 a3 : Int32} (L : LI sh hi hr) : cm_ct D mX6_could 39 0 0 [.ref 2, .int a0, .int a1, .int a2, .int a3] (sh, hi, hl, hr) (oQ D sh mX7_could [.int a0, .int a1, .int a2, .int a3]) := by
  obtain ⟨hX, hE, nb, ns, u, R, e⟩ := L
  refine cm_ct_imp (fun r h hq => ?_) (k_could (d := 31) hX R.mo R.ci)
  obtain ⟨H, rfl, hc⟩ := hq
  have hf : (∃ x, r = some (.int x)) ∧ ∀ c, 114 ≤ c → H c = hi c := by
    have hm := hc
    split at hm
    · exact ⟨⟨_, hm.1⟩, fun c _ => by rw [hm.2]⟩
    · split at hm
      · obtain ⟨g, F, _, hm⟩ := hm
        exact ⟨⟨_, hm.1⟩, fun c hcc => F c (by omega) (by omega)⟩
      · exact ⟨⟨_, hm.1⟩, fun c hcc => by rw [hm.2]; exact cRT_c hcc⟩
  obtain ⟨⟨x, rfl⟩, hf⟩ := hf
  refine ⟨x, rfl, hE.1, ct_h9 (us9 e hf) ?_⟩
  refine cm_ct_imp (fun r h hq => ?_) (r_could (d := 25) hE R.uo R.ui)
  obtain ⟨v, rfl, hu⟩ := hq
  obtain ⟨y, e1, e2, nb9, ns9, R9⟩ := (op_could (set := a0) (n := a1) (r := a2) (i := a3) R hc hu).1
  exact ⟨by rw [e2, ← e1], LJ.of hX hE R9⟩
theorem o_fault {a0 : Int32} (L : LI sh hi hr) : cm_ct D mX6_fault 39 0 0 [.ref 2, .int a0] (sh, hi, hl, hr) (oQ D sh mX7_fault [.int a0]) := by
  obtain ⟨hX, hE, nb, ns, u, R, e⟩ := L
  refine cm_ct_imp (fun r h hq => ?_) (k_fault (d := 31) hX R.ci)
  obtain ⟨H, hr9, rfl, hk, hc⟩ := hq
  have hf : (∃ x, r = some (.int x)) ∧ ∀ c, 114 ≤ c → H c = hi c := by
    have hm := hc
    split at hm
    · exact ⟨⟨_, hm.1⟩, fun c _ => by rw [hm.2]⟩
    · split at hm
      · exact ⟨⟨_, hm.1⟩, fun c hcc => by rw [hm.2]; exact kRef_c (by omega)⟩
      · exact ⟨rFin_int hm.2, fun c hcc => hm.1 c (by omega)⟩
  obtain ⟨⟨x, rfl⟩, hf⟩ := hf
  have hE := mdl_congr hE hk
  have hX := hX.congr hk
  refine ⟨x, rfl, hE.1, ct_h9 (us9 e hf) ?_⟩
  refine cm_ct_imp (fun r h hq => ?_) (r_fault (d := 33) hE R.ui)
  obtain ⟨v, rfl, hu⟩ := hq
  obtain ⟨y, e1, e2, nb9, ns9, R9⟩ := (op_fault (t := a0) R hc hu).1
  exact ⟨by rw [e2, ← e1], LJ.of hX hE R9⟩
theorem o_market {a0 : Int32} (L : LI sh hi hr) : cm_ct D mX6_market 39 0 0 [.ref 2, .int a0] (sh, hi, hl, hr) (oQ D sh mX7_market [.int a0]) := by
  obtain ⟨hX, hE, nb, ns, u, R, e⟩ := L
  refine cm_ct_imp (fun r h hq => ?_) (k_market (d := 31) hX R.ci)
  obtain ⟨H, hr9, rfl, hk, hc⟩ := hq
  have hf : (∃ x, r = some (.int x)) ∧ ∀ c, 114 ≤ c → H c = hi c := by
    have hm := hc
    split at hm
    · exact ⟨⟨_, hm.1⟩, fun c _ => by rw [hm.2]⟩
    · split at hm
      · exact ⟨⟨_, hm.1⟩, fun c hcc => by rw [hm.2]; exact kRef_c (by omega)⟩
      · split at hm
        · exact ⟨⟨_, hm.1⟩, fun c hcc => hm.2 c (by omega)⟩
        · exact ⟨⟨_, hm.1⟩, fun c hcc => hm.2.2.2.2.2 c (by omega)⟩
  obtain ⟨⟨x, rfl⟩, hf⟩ := hf
  have hE := mdl_congr hE hk
  have hX := hX.congr hk
  refine ⟨x, rfl, hE.1, ct_h9 (us9 e hf) ?_⟩
  refine cm_ct_imp (fun r h hq => ?_) (r_market (d := 33) hE R.ui)
  obtain ⟨v, rfl, hu⟩ := hq
  obtain ⟨y, e1, e2, nb9, ns9, R9⟩ := (op_market (t := a0) R hc hu).1
  exact ⟨by rw [e2, ← e1], LJ.of hX hE R9⟩
theorem o_undo {a0 : Int32} (L : LI sh hi hr) : cm_ct D mX6_undo 39 0 0 [.ref 2, .int a0] (sh, hi, hl, hr) (oQ D sh mX7_undo [.int a0]) := by
  obtain ⟨hX, hE, nb, ns, u, R, e⟩ := L
  refine cm_ct_imp (fun r h hq => ?_) (k_undo (d := 37) hX R.min.2 R.2.2.2.1.2.1)
  obtain ⟨H, rfl, hc⟩ := hq
  obtain ⟨⟨y, rfl, e2, nb9, ns9, R9⟩, hf⟩ := op_undo (n := a0) R hc
  cases e2
  refine ⟨_, rfl, hE.1, ct_h9 (us9 e hf) ?_⟩
  refine cm_ct_imp (fun r h hq => ?_) (r_undo (d := 38) hE (by rw [R.min.1]; exact R.min.2) (by rw [← R.2.2.2.1.1]; exact R.2.2.2.1.2.1))
  obtain ⟨rfl, rfl⟩ := hq
  exact ⟨rfl, LJ.of hX hE R9⟩
theorem o_keep {a0 : Int32} (L : LI sh hi hr) : cm_ct D mX6_keep 39 0 0 [.ref 2, .int a0] (sh, hi, hl, hr) (oQ D sh mX7_keep [.int a0]) := by
  obtain ⟨hX, hE, nb, ns, u, R, e⟩ := L
  refine cm_ct_imp (fun r h hq => ?_) (k_keep (d := 37) hX)
  obtain ⟨H, rfl, hc⟩ := hq
  obtain ⟨⟨y, rfl, e2, nb9, ns9, R9⟩, hf⟩ := op_keep (k := a0) R hc
  cases e2
  refine ⟨_, rfl, hE.1, ct_h9 (us9 e hf) ?_⟩
  refine cm_ct_imp (fun r h hq => ?_) (r_keep (d := 38) hE)
  obtain ⟨rfl, rfl⟩ := hq
  exact ⟨rfl, LJ.of hX hE R9⟩
theorem o_on {a0 : Int32} (L : LI sh hi hr) : cm_ct D mX6_on 39 0 0 [.ref 2, .int a0] (sh, hi, hl, hr) (oQ D sh mX7_on [.int a0]) := by
  obtain ⟨hX, hE, nb, ns, u, R, e⟩ := L
  refine cm_ct_imp (fun r h hq => ?_) (k_on (d := 37) hX)
  obtain ⟨H, rfl, hc⟩ := hq
  obtain ⟨⟨y, rfl, e2, nb9, ns9, R9⟩, hf⟩ := op_on (k := a0) R hc
  cases e2
  refine ⟨_, rfl, hE.1, ct_h9 (us9 e hf) ?_⟩
  refine cm_ct_imp (fun r h hq => ?_) (r_on (d := 38) hE)
  obtain ⟨rfl, rfl⟩ := hq
  exact ⟨rfl, LJ.of hX hE R9⟩
theorem o_upper (L : LI sh hi hr) : cm_ct D mX6_upper 39 0 0 [.ref 2] (sh, hi, hl, hr) (oL D sh mX7_upper []) := by
  obtain ⟨hX, hE, nb, ns, u, R, e⟩ := L
  refine cm_ct_imp (fun r h hq => ?_) (k_upper (d := 36) hX R.mo)
  obtain ⟨rfl, rfl⟩ := hq
  obtain ⟨P, S, hP, hS, e1, e2, e3, e4⟩ := sums R
  have o := (up_low hP hS e2 e4).1
  refine ⟨_, rfl, hE.1, ct_h9 e ?_⟩
  refine cm_ct_imp (fun r h hq => ?_) (r_upper (d := 38) hE R.uo e1 e3 hP hS)
  obtain ⟨rfl, rfl⟩ := hq
  exact ⟨congrArg (fun z => some (Value.long z)) o.symm, LJ.of hX hE R⟩
theorem o_lower (L : LI sh hi hr) : cm_ct D mX6_lower 39 0 0 [.ref 2] (sh, hi, hl, hr) (oL D sh mX7_lower []) := by
  obtain ⟨hX, hE, nb, ns, u, R, e⟩ := L
  refine cm_ct_imp (fun r h hq => ?_) (k_lower (d := 36) hX R.mo)
  obtain ⟨rfl, rfl⟩ := hq
  obtain ⟨P, S, hP, hS, e1, e2, e3, e4⟩ := sums R
  have o := (up_low hP hS e2 e4).2
  refine ⟨_, rfl, hE.1, ct_h9 e ?_⟩
  refine cm_ct_imp (fun r h hq => ?_) (r_lower (d := 38) hE R.uo e1 e3 hP hS)
  obtain ⟨rfl, rfl⟩ := hq
  exact ⟨congrArg (fun z => some (Value.long z)) o.symm, LJ.of hX hE R⟩
theorem o_digest (L : LI sh hi hr) : cm_ct D mX6_digest 39 0 0 [.ref 2] (sh, hi, hl, hr) (oL D sh mX7_digest []) := by
  obtain ⟨hX, hE, nb, ns, u, R, e⟩ := L
  refine cm_ct_imp (fun r h hq => ?_) (k_digest (d := 35) hX R.mo R.ci)
  obtain ⟨rfl, rfl⟩ := hq
  refine ⟨_, rfl, hE.1, ct_h9 e ?_⟩
  refine cm_ct_imp (fun r h hq => ?_) (r_digest (d := 36) hE R.uo R.ui)
  obtain ⟨hl9, rfl, rfl⟩ := hq
  exact ⟨congrArg (fun z => some (Value.long z)) (dig_same R).symm, LJ.of hX hE R⟩
end PR
