/-! PART start: the law's entry out of the judgement -/
abbrev mL_law : cm_M := (⟨RL, "law", "([I)Z"⟩, cL_law, 4, some .boolean)
def cm_h0 : cm_H := ([.inr (0, 0), .inr (0, 0)], fun _ _ => 0, fun _ _ => 0, fun _ _ => none)
theorem cm_W.mono {p : Program} {l : Launch} {e : Env} {R : Room} {s : State} {m : MethodId} {args : Array Value} {below : List Frame} {meth : Method} {c : Code} {H : Heap} {locs : List Loc} {cells slots : Nat} {Q Q' : State → Prop} {g : JFrame} (h : ∀ t, Q t → Q' t) (k : W p l e R s m args below meth c H locs cells slots Q g) : W p l e R s m args below meth c H locs cells slots Q' g := fun T hT X => by
  obtain ⟨t, a, b⟩ := k T hT X
  exact ⟨t, a, h t b⟩
set_option maxHeartbeats 4000000 in
theorem cm_start {p : Program} {e : Env} {s : State} {m : MethodId} {below : List Frame} {meth : Method} {c : Code} (l : Launch) {b L : Nat} {xs : Nat → Int32} (hL : L ≤ 3072) (C0 : lw_At p s m meth c b L xs) {C S : Nat} (hC : C ≤ 600000) (hS : S ≤ 7302250)
    (hg : ∀ D : cm_D, cm_L D ≤ 3072 → cm_g D mL_law 40 C S (fun r _ => r = some (.int 1)) 0 0 0 [some (.ref 0), none, none, none] [] cm_h0) : W p l e room_1 s m #[Value.ref b] below meth c s.heap [] 0 0 (lw_Z below #[Value.ref b] s) (entryFrame m ([Value.ref b] : List Value).toArray 4) := by
  obtain ⟨hx, hb, hr, hml, hown, hts, hX, hbl, hlocks, hgv⟩ := id C0
  have hgd : ∀ w ∈ cm_good, w.before #[Value.ref b] s = true := fun w hw => hts w (List.mem_filter.mp hw).1
  have hflat := flat_of_before _ hgv
  have hA : ∀ a : Nat, a < s.heap.size → ¬ (fun q : Nat => s.heap.size ≤ q) a := fun a h => Nat.not_le.mpr h
  have e1 : (Term.length (.static RX3 "LETTERS" "[I")).eval #[Value.ref b] s none [] s = some (.int (Int32.ofNat 6)) := va_eqt (hflat (Cond.eq (.length (.static RX3 "LETTERS" "[I")) (.int 6)) (by decide +kernel))
  obtain ⟨lt, hlt, hT⟩ := va_Tof (args := #[Value.ref b]) (s := s) (tm := .static RX3 "LETTERS" "[I") (ty := .int) (N := 6) (f := fun j => .int (cm_letters j)) (A := fun q : Nat => s.heap.size ≤ q) (by decide) (hflat _ (by decide +kernel)) e1 (fun j hj => by
    rcases (show j = 0 ∨ j = 1 ∨ j = 2 ∨ j = 3 ∨ j = 4 ∨ j = 5 by omega) with rfl | rfl | rfl | rfl | rfl | rfl
    · exact va_eqt (hflat (Cond.eq (.elem (.static RX3 "LETTERS" "[I") (.int 0)) (.int 98)) (by decide +kernel))
    · exact va_eqt (hflat (Cond.eq (.elem (.static RX3 "LETTERS" "[I") (.int 1)) (.int 114)) (by decide +kernel))
    · exact va_eqt (hflat (Cond.eq (.elem (.static RX3 "LETTERS" "[I") (.int 2)) (.int 100)) (by decide +kernel))
    · exact va_eqt (hflat (Cond.eq (.elem (.static RX3 "LETTERS" "[I") (.int 3)) (.int 99)) (by decide +kernel))
    · exact va_eqt (hflat (Cond.eq (.elem (.static RX3 "LETTERS" "[I") (.int 4)) (.int 116)) (by decide +kernel))
    · exact va_eqt (hflat (Cond.eq (.elem (.static RX3 "LETTERS" "[I") (.int 5)) (.int 112)) (by decide +kernel))) hA
  have hZ : va_Z RX3 "LETTERS" "[I" (.ref lt) (fun q : Nat => s.heap.size ≤ q) s s.heap := va_Zref (hts (.laysStatic RX3 "LETTERS" "[I") (by decide +kernel)) (hts (.initialized RX3) (by decide +kernel)) hlt hA
  have hcl : ∀ k : Nat, ∃ (cC : ClassId) (iS : Nat → Nat), ∀ q : vw_C, vwCl[k]? = some q → u_Kn s q.1 q.2.1 q.2.2 cC iS := by
    intro k
    match k with
    | 0 => obtain ⟨c0, i0, h0⟩ := u_known (C := RX0) (T := TX0) (N := 4) (n := 4) hgd cfX0.2.1 (hgd _ cfX0.2.2.2.2.2.2.1); exact ⟨c0, i0, fun q hq => by cases hq; exact h0⟩
    | 1 => obtain ⟨c0, i0, h0⟩ := u_known (C := RX1) (T := TX1) (N := 2) (n := 2) hgd cfX1.2.1 (hgd _ cfX1.2.2.2.2.2.2.1); exact ⟨c0, i0, fun q hq => by cases hq; exact h0⟩
    | 2 => obtain ⟨c0, i0, h0⟩ := u_known (C := RX2) (T := TX2) (N := 14) (n := 14) hgd cfX2.2.1 (hgd _ cfX2.2.2.2.2.2.2.1); exact ⟨c0, i0, fun q hq => by cases hq; exact h0⟩
    | 3 => obtain ⟨c0, i0, h0⟩ := u_known (C := RX3) (T := TX3) (N := 4) (n := 4) hgd cfX3.2.1 (hgd _ cfX3.2.2.2.2.2.2.1); exact ⟨c0, i0, fun q hq => by cases hq; exact h0⟩
    | 4 => obtain ⟨c0, i0, h0⟩ := u_known (C := RX4) (T := TX4) (N := 2) (n := 2) hgd cfX4.2.1 (hgd _ cfX4.2.2.2.2.2.2.1); exact ⟨c0, i0, fun q hq => by cases hq; exact h0⟩
    | 5 => obtain ⟨c0, i0, h0⟩ := u_known (C := RX5) (T := TX5) (N := 4) (n := 4) hgd cfX5.2.1 (hgd _ cfX5.2.2.2.2.2.2.1); exact ⟨c0, i0, fun q hq => by cases hq; exact h0⟩
    | 6 => obtain ⟨c0, i0, h0⟩ := u_known (C := RX6) (T := TX6) (N := 11) (n := 11) hgd cfX6.2.1 (hgd _ cfX6.2.2.2.2.2.2.1); exact ⟨c0, i0, fun q hq => by cases hq; exact h0⟩
    | 7 => obtain ⟨c0, i0, h0⟩ := u_known (C := RX7) (T := TX7) (N := 44) (n := 44) hgd cfX7.2.1 (hgd _ cfX7.2.2.2.2.2.2.1); exact ⟨c0, i0, fun q hq => by cases hq; exact h0⟩
    | k + 8 => exact ⟨0, fun _ => 0, fun q hq => by simp [vwCl] at hq⟩
  obtain ⟨dC, hdC⟩ := Classical.axiomOfChoice hcl
  obtain ⟨dI, hdI⟩ := Classical.axiomOfChoice hdC
  generalize hD : (((b, L, lt, s.heap.size), xs, dC, dI, fun t => (s.vm.findClass ("[" ++ (cm_et t).toString)).getD 0) : cm_D) = D
  have hb0 : cm_b0 D = s.heap.size := by rw [← hD]; rfl
  have hAD : cm_A D = fun q : Nat => s.heap.size ≤ q := by rw [← hD]; rfl
  have hK0 : cm_K0 D s := by
    refine ⟨fun c q hq => ?_, fun t => ?_, fun w hw => va_Nw.of (cm_nest_on hw) (hts w (List.mem_filter.mp hw).1), va_AO.of (hts (.arrayOver (.object RX4)) (by decide +kernel)), va_AO.of (hts (.arrayOver (.object RX2)) (by decide +kernel))⟩
    · rw [← hD]; exact hdI c q hq
    · rw [← hD]; rfl
  have hX9 : cm_X D s := by
    refine ⟨by rw [hb0]; exact Nat.le_refl _, ⟨?_, ?_⟩, ?_, ?_⟩
    · rw [← hD]; exact hX
    · rw [hb0, ← hD]; exact hbl
    · rw [hAD, ← hD]; exact hT
    · rw [hAD, ← hD]; exact hZ
  have hl := lv_entry ([.ref b]) (n := 4) (Nat.le_of_ble_eq_true rfl)
  rw [lg_entry_eq]
  generalize (lg_sl ([.ref b]) ++ List.replicate (4 - (lg_sl ([.ref b])).length) Slot.unset).toArray = lsA at hl ⊢
  have hlv : cm_lv D lsA 4 [some (.ref 0), none, none, none] := by
    refine ⟨hl.1, hl.2.1, fun i v hi => ?_⟩
    match i, hi with
    | 0, hi =>
      cases hi
      rw [show cm_v D (.ref 0) = .ref b by rw [← hD]; rfl]
      exact hl.2.2 (0, .ref b) List.mem_cons_self
    | 1, hi => cases hi
    | 2, hi => cases hi
    | 3, hi => cases hi
    | i + 4, hi => simp at hi
  have hP : cm_P D cm_h0 s.heap := ⟨⟨Nat.le_refl _, by rw [hb0]; rfl⟩, fun k q hk => by simp [cm_h0] at hk⟩
  have hK1 : cm_K1 D cm_h0 s := fun k t n hk => by simp [cm_h0] at hk
  have hW := hg D (by rw [← hD]; exact hL) p l e room_1 s m #[Value.ref b] below meth c s.heap [] lsA ⟨hx, hb, hr, hml, hown, hgd, hlocks, fun h => absurd h (by decide), ⟨by decide, by decide, hC, hS⟩, hK0, hX9⟩ hP hK1 va_S.rf hlv
  refine cm_W.mono (fun t ht => ?_) hW
  obtain ⟨o, h1, h2, ⟨⟨r, h', ho, hq, -⟩, -⟩, Lc, ⟨hv, hw, hsame⟩, hLc⟩ := ht
  rw [show r = some (.int 1) from hq] at ho
  refine ⟨o, h1, h2, ho, hv, hw, hsame.weaken (fun y hy hlt => ?_) hC hS⟩
  exact absurd hlt (Nat.not_lt.mpr (by rw [← hb0]; exact hLc y hy))
