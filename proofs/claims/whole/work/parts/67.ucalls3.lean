/-! PART ucalls3: the reference's calls: minutes, undo, turn, kept markets; minutes aside -/
def uWr (u : cm_g2) (cc at_ : Nat) : cm_g2 := va_up u cc (fun x => if at_ ≤ x ∧ x < at_ + 24 then uBk u (x - at_) else u cc x)
def uRd (u : cm_g2) (cc at_ : Nat) : cm_g2 := va_up (va_up (va_up (va_up u 8 (fun i => if i < 6 then u cc (at_ + i) else u 8 i)) 9 (fun i => if i < 6 then u cc (at_ + 6 + i) else u 9 i)) 10 (fun i => if i < 6 then u cc (at_ + 12 + i) else u 10 i)) 14 (fun i => if i < 6 then u cc (at_ + 18 + i) else u 14 i)
theorem wrOk.eq {u V : cm_g2} {cc at_ : Nat} (h : wrOk u V cc at_ 6) : V = uWr u cc at_ := by
  refine upG h.1 (funext fun x => ?_)
  rw [h.2 x]
  by_cases q : at_ ≤ x ∧ x < at_ + 24
  · rw [if_pos q, if_pos ⟨q.1, q.2, Nat.mod_lt _ (by decide)⟩]
  · rw [if_neg q, if_neg (fun w => q ⟨w.1, w.2.1⟩)]
theorem rdOk.eq {u V : cm_g2} {cc at_ : Nat} (h : rdOk u V cc at_ 6) : V = uRd u cc at_ := by
  funext c
  unfold uRd
  by_cases q14 : c = 14
  · subst q14; rw [va_up_self]; funext i; exact (h.2 i).2.2.2
  · rw [va_up_ne _ _ q14]
    by_cases q10 : c = 10
    · subst q10; rw [va_up_self]; funext i; exact (h.2 i).2.2.1
    · rw [va_up_ne _ _ q10]
      by_cases q9 : c = 9
      · subst q9; rw [va_up_self]; funext i; exact (h.2 i).2.1
      · rw [va_up_ne _ _ q9]
        by_cases q8 : c = 8
        · subst q8; rw [va_up_self]; funext i; exact (h.2 i).1
        · rw [va_up_ne _ _ q8]; exact h.1 c q8 q9 q10 q14
theorem uRd_c {u : cm_g2} {cc at_ c : Nat} (h : c ≠ 8 ∧ c ≠ 9 ∧ c ≠ 10 ∧ c ≠ 14) : uRd u cc at_ c = u c := by
  unfold uRd
  rw [va_up_ne _ _ h.2.2.2, va_up_ne _ _ h.2.2.1, va_up_ne _ _ h.2.1, va_up_ne _ _ h.1]
theorem uRd_8 {u : cm_g2} {cc at_ i : Nat} (h : i < 6) : uRd u cc at_ 8 i = u cc (at_ + i) ∧ uRd u cc at_ 9 i = u cc (at_ + 6 + i) ∧ uRd u cc at_ 10 i = u cc (at_ + 12 + i) ∧ uRd u cc at_ 14 i = u cc (at_ + 18 + i) := by
  unfold uRd
  refine ⟨?_, ?_, ?_, ?_⟩
  · rw [va_up_ne _ _ (by decide), va_up_ne _ _ (by decide), va_up_ne _ _ (by decide), va_up_self]; exact if_pos h
  · rw [va_up_ne _ _ (by decide), va_up_ne _ _ (by decide), va_up_self]; exact if_pos h
  · rw [va_up_ne _ _ (by decide), va_up_self]; exact if_pos h
  · rw [va_up_self]; exact if_pos h
theorem uWr_bk {u : cm_g2} {cc at_ y : Nat} (h : y < 24) : uWr u cc at_ cc (at_ + y) = uBk u y := by
  unfold uWr
  rw [va_up_self]
  show (if _ then _ else _) = _
  rw [if_pos (by omega), show at_ + y - at_ = y by omega]
theorem uWr_c {u : cm_g2} {cc at_ c : Nat} (h : c ≠ cc) : uWr u cc at_ c = u c := va_up_ne _ _ h
/-- what a MINUTE leaves alone -/
theorem uRichs_c {u : cm_g2} {nb ns c : Nat} (h : c ≠ 8) : ∀ i, uRichs u nb ns i c = u c
  | 0 => rfl
  | i + 1 => by
    unfold uRichs
    split
    · split
      · unfold uRich; rw [uMv_c h, uMv_c h, uRichs_c h i]
      · unfold uRich; rw [uMv_c h, uRichs_c h i]
    · exact uRichs_c h i
theorem uPlains_c {u : cm_g2} {nb ns c : Nat} (h : c ≠ 8) : ∀ i, uPlains u nb ns i c = u c
  | 0 => rfl
  | i + 1 => by
    unfold uPlains
    split
    · exact uPlains_c h i
    · split
      · exact uPlains_c h i
      · rw [uStep_c h, uPlains_c h i]
theorem uBuy1_c {u : cm_g2} {nb ns c i : Nat} {w lk : Int32} (h : c ≠ 0 ∧ c ≠ 9 ∧ c ≠ 10 ∧ c ≠ 14) : uBuy1 u nb ns w lk i c = u c := by
  unfold uBuy1
  cases hq : uBuy u nb i (uSun u + w) ns 0 with
  | none => rfl
  | some k =>
    dsimp only
    rw [va_up_ne _ _ h.2.1, va_up_ne _ _ h.2.2.2, va_up_ne _ _ h.2.2.1, va_up_ne _ _ h.1]
theorem uBuy1_0 {u : cm_g2} {nb ns j i : Nat} {w lk : Int32} (h : j ≠ 25 ∧ j ≠ 26 ∧ j ≠ 27) : uBuy1 u nb ns w lk i 0 j = u 0 j := by
  unfold uBuy1
  cases hq : uBuy u nb i (uSun u + w) ns 0 with
  | none => rfl
  | some k =>
    dsimp only
    rw [va_up_ne _ _ (by decide), va_up_ne _ _ (by decide), va_up_ne _ _ (by decide), va_up_self, pk_un h.2.2, pk_un h.2.1, pk_un h.1]
theorem uBuys_c {u : cm_g2} {nb ns c : Nat} {w lk : Int32} (h : c ≠ 0 ∧ c ≠ 9 ∧ c ≠ 10 ∧ c ≠ 14) : ∀ i, uBuys u nb ns w lk i c = u c
  | 0 => rfl
  | i + 1 => by
    show uBuy1 _ nb ns w lk i c = u c
    rw [uBuy1_c h, uBuys_c h i]
theorem uBuys_0 {u : cm_g2} {nb ns j : Nat} {w lk : Int32} (h : j ≠ 25 ∧ j ≠ 26 ∧ j ≠ 27) : ∀ i, uBuys u nb ns w lk i 0 j = u 0 j
  | 0 => rfl
  | i + 1 => by
    show uBuy1 _ nb ns w lk i 0 j = u 0 j
    rw [uBuy1_0 h, uBuys_0 h i]
theorem uPass_c {u : cm_g2} {nb ns c : Nat} {w lk : Int32} (h : c ≠ 0 ∧ c ≠ 8 ∧ c ≠ 9 ∧ c ≠ 10 ∧ c ≠ 14) : uPass u nb ns w lk c = u c := by
  unfold uPass
  rw [uBuys_c ⟨h.1, h.2.2⟩]
  unfold uTick
  rw [va_up_ne _ _ h.1, uPlains_c h.2.1, uRichs_c h.2.1]
theorem uPass_0 {u : cm_g2} {nb ns j : Nat} {w lk : Int32} (h : j ≠ 19 ∧ j ≠ 25 ∧ j ≠ 26 ∧ j ≠ 27) : uPass u nb ns w lk 0 j = u 0 j := by
  unfold uPass
  rw [uBuys_0 h.2]
  unfold uTick
  rw [va_up_self, pk_un h.2.2.1, pk_un h.2.1, pk_un h.1, uPlains_c (by decide), uRichs_c (by decide)]
theorem uPass_19 {u : cm_g2} {nb ns : Nat} {w lk : Int32} : uPass u nb ns w lk 0 19 = u 0 19 + 1 := by
  unfold uPass
  rw [uBuys_0 (by decide)]
  unfold uTick
  rw [va_up_self, pk_un (by decide), pk_un (by decide), pk_us, uPlains_c (by decide), uRichs_c (by decide)]
theorem uMv_hi {u : cm_g2} {s way : Int32} {j i : Nat} (h : j ≤ i) : uMv u s way j 8 i = u 8 i := by
  unfold uMv
  rw [va_up_self]
  show (if _ then _ else _) = _
  rw [if_neg (by omega)]
theorem uRichs_hi {u : cm_g2} {nb ns x : Nat} (hx : nb ≤ x) : ∀ i, uRichs u nb ns i 8 x = u 8 x
  | 0 => rfl
  | i + 1 => by
    unfold uRichs
    split
    · split
      · unfold uRich; rw [uMv_hi hx, uMv_hi hx, uRichs_hi hx i]
      · unfold uRich; rw [uMv_hi hx, uRichs_hi hx i]
    · exact uRichs_hi hx i
theorem uStep_hi {u : cm_g2} {nb i x : Nat} {way : Int32} (h : i < x) : uStep u nb i way 8 x = u 8 x := by
  unfold uStep
  split
  · rw [va_up_self, pk_un (by omega)]
  · rfl
theorem uPlains_hi {u : cm_g2} {nb ns x : Nat} : ∀ i, i ≤ x → uPlains u nb ns i 8 x = u 8 x
  | 0, _ => rfl
  | i + 1, h => by
    unfold uPlains
    split
    · exact uPlains_hi i (by omega)
    · split
      · exact uPlains_hi i (by omega)
      · rw [uStep_hi (by omega), uPlains_hi i (by omega)]
theorem uBuy1_hi {u : cm_g2} {nb ns i x : Nat} {w lk : Int32} (hi : i < x) (hs : ns ≤ x) : uBuy1 u nb ns w lk i 9 x = u 9 x ∧ uBuy1 u nb ns w lk i 10 x = u 10 x ∧ uBuy1 u nb ns w lk i 14 x = u 14 x := by
  unfold uBuy1
  cases hq : uBuy u nb i (uSun u + w) ns 0 with
  | none => exact ⟨rfl, rfl, rfl⟩
  | some k =>
    have := uBuy_lt hq
    dsimp only
    refine ⟨?_, ?_, ?_⟩
    · rw [va_up_self, pk_un (by omega)]
    · rw [va_up_ne _ _ (by decide), va_up_ne _ _ (by decide), va_up_self, pk_un (by omega)]
    · rw [va_up_ne _ _ (by decide), va_up_self, pk_un (by omega)]
theorem uBuys_hi {u : cm_g2} {nb ns x : Nat} {w lk : Int32} (hs : ns ≤ x) : ∀ i, i ≤ x → uBuys u nb ns w lk i 9 x = u 9 x ∧ uBuys u nb ns w lk i 10 x = u 10 x ∧ uBuys u nb ns w lk i 14 x = u 14 x
  | 0, _ => ⟨rfl, rfl, rfl⟩
  | i + 1, h => by
    have h1 := uBuys_hi (u := u) (nb := nb) (w := w) (lk := lk) hs i (by omega)
    have h2 := uBuy1_hi (u := uBuys u nb ns w lk i) (nb := nb) (w := w) (lk := lk) (i := i) (x := x) (by omega) hs
    exact ⟨h2.1.trans h1.1, h2.2.1.trans h1.2.1, h2.2.2.trans h1.2.2⟩
theorem uOk.pass {u : cm_g2} {nb ns : Nat} {w lk : Int32} (h : uOk u nb ns) : uOk (uPass u nb ns w lk) nb ns := ((h.richs nb).plains nb).tick.buys nb
def uItW (u : cm_g2) (nb ns : Nat) (w : Nat → Int32) (lk : Int32) : Nat → cm_g2
  | 0 => u
  | m + 1 => uPass (uItW u nb ns w lk m) nb ns (w m) lk
theorem uOk.itw {u : cm_g2} {nb ns : Nat} {w : Nat → Int32} {lk : Int32} (h : uOk u nb ns) : ∀ m, uOk (uItW u nb ns w lk m) nb ns
  | 0 => h
  | m + 1 => (uOk.itw h m).pass
theorem uItW_c {u : cm_g2} {nb ns c : Nat} {w : Nat → Int32} {lk : Int32} (h : c ≠ 0 ∧ c ≠ 8 ∧ c ≠ 9 ∧ c ≠ 10 ∧ c ≠ 14) : ∀ m, uItW u nb ns w lk m c = u c
  | 0 => rfl
  | m + 1 => by
    show uPass _ _ _ _ _ c = u c
    rw [uPass_c h, uItW_c h m]
theorem uItW_0 {u : cm_g2} {nb ns j : Nat} {w : Nat → Int32} {lk : Int32} (h : j ≠ 19 ∧ j ≠ 25 ∧ j ≠ 26 ∧ j ≠ 27) : ∀ m, uItW u nb ns w lk m 0 j = u 0 j
  | 0 => rfl
  | m + 1 => by
    show uPass _ _ _ _ _ 0 j = u 0 j
    rw [uPass_0 h, uItW_0 h m]
/-- all that calls show is as it was -/
def uEq (u v : cm_g2) : Prop := (∀ j, j = 0 ∨ j = 2 ∨ j = 8 ∨ j = 9 ∨ j = 10 ∨ j = 19 ∨ j = 20 → v 0 j = u 0 j) ∧ (∀ c, c = 1 ∨ c = 2 ∨ c = 3 ∨ c = 5 ∨ c = 6 ∨ c = 15 ∨ c = 16 → v c = u c) ∧ (∀ c, 7 ≤ c → c ≤ 14 → ∀ i, i < 6 → v c i = u c i)
theorem uEq.refl {u : cm_g2} : uEq u u := ⟨fun _ _ => rfl, fun _ _ => rfl, fun _ _ _ _ _ => rfl⟩
theorem uEq.trans {u v w : cm_g2} (h : uEq u v) (k : uEq v w) : uEq u w := ⟨fun j hj => (k.1 j hj).trans (h.1 j hj), fun c hc => (k.2.1 c hc).trans (h.2.1 c hc), fun c h1 h2 i hi => (k.2.2 c h1 h2 i hi).trans (h.2.2 c h1 h2 i hi)⟩
def uPA (u : cm_g2) : cm_g2 := va_up (uWr u 17 0) 0 (upd (u 0) 31 (u 0 19))
def uCB (u : cm_g2) : cm_g2 := va_up (uRd u 17 0) 0 (upd (u 0) 19 (u 0 31))
/-- put aside, anything that keeps what is aside, come back -/
theorem uCB_eq {u v : cm_g2} (h0 : ∀ j, j = 0 ∨ j = 2 ∨ j = 8 ∨ j = 9 ∨ j = 10 ∨ j = 20 → v 0 j = u 0 j) (h31 : v 0 31 = u 0 19) (h17 : ∀ y, y < 24 → v 17 y = uBk u y) (hc : ∀ c, c = 1 ∨ c = 2 ∨ c = 3 ∨ c = 5 ∨ c = 6 ∨ c = 15 ∨ c = 16 → v c = u c) (hs : ∀ c, c = 7 ∨ c = 11 ∨ c = 12 ∨ c = 13 → ∀ i, i < 6 → v c i = u c i) : uEq u (uCB v) := by
  unfold uCB
  refine ⟨fun j hj => ?_, fun c hc9 => ?_, fun c h1 h2 i hi => ?_⟩
  · rw [va_up_self]
    unfold upd
    split
    · next q => rw [q, h31]
    · exact h0 j (by omega)
  · rw [va_up_ne _ _ (by omega), uRd_c (by omega)]
    exact hc c hc9
  · rw [va_up_ne _ _ (by omega)]
    have r8 := uRd_8 (u := v) (cc := 17) (at_ := 0) hi
    by_cases q8 : c = 8
    · subst q8; rw [r8.1, h17 _ (by omega)]; unfold uBk; rw [if_pos (by omega), Nat.zero_add]
    · by_cases q9 : c = 9
      · subst q9; rw [r8.2.1, h17 _ (by omega)]; unfold uBk; rw [if_neg (by omega), if_pos (by omega), show 0 + 6 + i - 6 = i by omega]
      · by_cases q10 : c = 10
        · subst q10; rw [r8.2.2.1, h17 _ (by omega)]; unfold uBk; rw [if_neg (by omega), if_neg (by omega), if_pos (by omega), show 0 + 12 + i - 12 = i by omega]
        · by_cases q14 : c = 14
          · subst q14; rw [r8.2.2.2, h17 _ (by omega)]; unfold uBk; rw [if_neg (by omega), if_neg (by omega), if_neg (by omega), show 0 + 18 + i - 18 = i by omega]
          · rw [uRd_c (by omega)]
            exact hs c (by omega) i hi
theorem uPA_eq {u : cm_g2} : (∀ c, c ≠ 0 → c ≠ 17 → uPA u c = u c) ∧ (∀ j, j ≠ 31 → uPA u 0 j = u 0 j) ∧ uPA u 0 31 = u 0 19 ∧ ∀ y, y < 24 → uPA u 17 y = uBk u y := by
  unfold uPA
  refine ⟨fun c h0 h17 => by rw [va_up_ne _ _ h0, uWr_c h17], fun j hj => by rw [va_up_self, pk_un hj], by rw [va_up_self, pk_us], fun y hy => ?_⟩
  rw [va_up_ne _ _ (by decide)]
  have := uWr_bk (u := u) (cc := 17) (at_ := 0) hy
  rw [Nat.zero_add] at this
  exact this
theorem uOk.pa {u : cm_g2} {nb ns : Nat} (h : uOk u nb ns) : uOk (uPA u) nb ns := by
  have e := uPA_eq (u := u)
  refine ⟨by rw [e.2.1 9 (by decide), e.2.1 10 (by decide)]; exact h.1, fun i hi => by rw [e.1 8 (by decide) (by decide)]; exact h.2.1 i hi, fun k hk => by rw [e.1 11 (by decide) (by decide)]; exact h.2.2 k hk⟩
/-- put aside, MINUTES, come back -/
theorem uIt_back {u : cm_g2} {nb ns : Nat} {w : Nat → Int32} {lk : Int32} (m : Nat) : uEq u (uCB (uItW (uPA u) nb ns w lk m)) := by
  have e := uPA_eq (u := u)
  refine uCB_eq (fun j hj => ?_) ?_ (fun y hy => ?_) (fun c hc => ?_) (fun c hc i hi => ?_)
  · rw [uItW_0 (by omega), e.2.1 j (by omega)]
  · rw [uItW_0 (by decide), e.2.2.1]
  · rw [uItW_c (by decide), e.2.2.2 y hy]
  · rw [uItW_c (by omega), e.1 c (by omega) (by omega)]
  · rw [uItW_c (by omega), e.1 c (by omega) (by omega)]
section U3
variable {D : cm_D} {d : Nat} {sh : List cm_Sh} {hi u : cm_g2} {hl : Nat → Nat → Int64} {hr : Nat → Nat → Option Nat} {e nb ns : Nat}
set_option maxRecDepth 20000 in
theorem r_putAside (hE : cm_mdl sh hr e)  : cm_ct D mX7_putAside (d + 1) 0 0 [.ref e] (sh, cm_us hi e u, hl, hr) (fun r9 h9 => r9 = none ∧ h9 = (sh, cm_us hi e (uPA u), hl, hr)) := by
  refine cm_ct_of (ls := [some (.ref e)]) 0 (by decide +kernel) rfl rfl ?_
  refine cm_aload0 (pc := 0) dX7_putAside_0 ?_
  refine cm_aload0 (pc := 1) dX7_putAside_1 ?_
  refine cm_getR (pc := 2) flX7_58 dX7_putAside_2 hE.1 hE.r30 ?_
  refine cm_iconst (pc := 5) (v := 0) dX7_putAside_5 (by decide) ?_
  refine cm_V2 (pc := 6) mX7_write_v mlX7_237 dX7_putAside_6 hE.1 (by omega) (Nat.le_of_ble_eq_true rfl) (Nat.le_refl _) (Nat.le_refl _) (r_write (d := d) (cc := 17) (at_ := 0) hE (by decide) hE.a17 (by omega) (by decide)) (fun r6 h6 hq6 => ?_)
  obtain ⟨rfl, v6, rfl, t6⟩ := hq6
  rw [t6.eq]
  refine cm_aload0 (pc := 9) dX7_putAside_9 ?_
  refine cm_aload0 (pc := 10) dX7_putAside_10 ?_
  refine mk_fld (pc := 11) flX7_160 dX7_putAside_11 hE.1 ?_
  rw [uWr_c (by decide)]
  refine mk_set (pc := 14) fpX7_250 dX7_putAside_14 hE.1 ?_
  
  exact cm_vret (pc := 17) dX7_putAside_17 rfl ⟨rfl, by rw [uWr_c (by decide)]; rfl⟩
set_option maxRecDepth 20000 in
theorem r_comeBack (hE : cm_mdl sh hr e)  : cm_ct D mX7_comeBack (d + 1) 0 0 [.ref e] (sh, cm_us hi e u, hl, hr) (fun r9 h9 => r9 = none ∧ h9 = (sh, cm_us hi e (uCB u), hl, hr)) := by
  refine cm_ct_of (ls := [some (.ref e)]) 0 (by decide +kernel) rfl rfl ?_
  refine cm_aload0 (pc := 0) dX7_comeBack_0 ?_
  refine cm_aload0 (pc := 1) dX7_comeBack_1 ?_
  refine cm_getR (pc := 2) flX7_58 dX7_comeBack_2 hE.1 hE.r30 ?_
  refine cm_iconst (pc := 5) (v := 0) dX7_comeBack_5 (by decide) ?_
  refine cm_V2 (pc := 6) mX7_read_v mlX7_244 dX7_comeBack_6 hE.1 (by omega) (Nat.le_of_ble_eq_true rfl) (Nat.le_refl _) (Nat.le_refl _) (r_read (d := d) (cc := 17) (at_ := 0) hE (by decide) hE.a17 (by omega) (by decide)) (fun r6 h6 hq6 => ?_)
  obtain ⟨rfl, v6, rfl, t6⟩ := hq6
  rw [t6.eq]
  refine cm_aload0 (pc := 9) dX7_comeBack_9 ?_
  refine cm_aload0 (pc := 10) dX7_comeBack_10 ?_
  refine mk_fld (pc := 11) flX7_250 dX7_comeBack_11 hE.1 ?_
  rw [uRd_c (by decide)]
  refine mk_set (pc := 14) fpX7_160 dX7_comeBack_14 hE.1 ?_
  exact cm_vret (pc := 17) dX7_comeBack_17 rfl ⟨rfl, by rw [uRd_c (by decide)]; rfl⟩
def uMn (u : cm_g2) (nb ns : Nat) : Nat → cm_g2 × Int32
  | 0 => (u, 0)
  | k + 1 => (uPass (uWr (uMn u nb ns k).1 15 (24 * ((uMn u nb ns k).1 0 19).toNatClampNeg)) nb ns 0 (-9), (uMn u nb ns k).2 + uSz (uPass (uWr (uMn u nb ns k).1 15 (24 * ((uMn u nb ns k).1 0 19).toNatClampNeg)) nb ns 0 (-9) 0 25) 10)
def uMinutes (u : cm_g2) (nb ns : Nat) (n : Int32) : Int32 × cm_g2 := if uIn n 0 20 = false then (-1, u) else if u 0 9 = 0 then (-4, u) else if u 0 19 + n ≤ 60 then ((uMn u nb ns n.toNatClampNeg).2, (uMn u nb ns n.toNatClampNeg).1) else (-2, u)
theorem uOk.wr {u : cm_g2} {nb ns at_ : Nat} (h : uOk u nb ns) : uOk (uWr u 15 at_) nb ns := by
  refine ⟨by rw [uWr_c (by decide)]; exact h.1, fun i hi => by rw [uWr_c (by decide)]; exact h.2.1 i hi, fun k hk => by rw [uWr_c (by decide)]; exact h.2.2 k hk⟩
theorem uMn_ok {u : cm_g2} {nb ns m0 : Nat} (h : uOk u nb ns) (h1 : u 0 19 = nI m0) : ∀ k, uOk (uMn u nb ns k).1 nb ns ∧ (uMn u nb ns k).1 0 19 = nI (m0 + k)
  | 0 => ⟨h, h1⟩
  | k + 1 => by
    have ih := uMn_ok h h1 k
    refine ⟨ih.1.wr.pass, ?_⟩
    show uPass _ nb ns 0 (-9) 0 19 = _
    rw [uPass_19, uWr_c (by decide), ih.2, nI_1]
    rfl
set_option maxRecDepth 20000 in
theorem l_rmins (hE : cm_mdl sh hr e) {n m0 : Nat} (h : uOk u nb ns) (h1 : u 0 19 = nI m0) (hmn : m0 + n ≤ 60) : ∀ q k : Nat, k + q = n → cm_g D mX7_minutes (d + 5) 0 0 (fun r9 h9 => r9 = some (.int (uMn u nb ns n).2) ∧ h9 = (sh, cm_us hi e ((uMn u nb ns n).1), hl, hr)) 0 0 40 [some (.ref e), some (.int (nI n)), some (.int (uMn u nb ns k).2), some (.int (nI k))] [] (sh, cm_us hi e ((uMn u nb ns k).1), hl, hr) := by
  intro q
  induction q with
  | zero =>
    intro k hk
    have h1 : k = n := by omega
    subst h1
    refine cm_iload3 (pc := 40) dX7_minutes_40 ?_
    refine cm_iload1 (pc := 41) dX7_minutes_41 ?_
    refine cm_geN (pc := 42) (tgt := 83) dX7_minutes_42 (by decide) (by omega) (by omega) (fun c42 => ?_) (fun c42 => ?_)
    · refine cm_iload2 (pc := 83) dX7_minutes_83 ?_
      exact cm_iret (pc := 84) dX7_minutes_84 rfl ⟨rfl, rfl⟩
    · exact absurd c42 (by omega)
  | succ q ih =>
    intro k hk
    have hst := ih (k + 1) (by omega)
    refine cm_iload3 (pc := 40) dX7_minutes_40 ?_
    refine cm_iload1 (pc := 41) dX7_minutes_41 ?_
    refine cm_geN (pc := 42) (tgt := 83) dX7_minutes_42 (by decide) (by omega) (by omega) (fun c42 => ?_) (fun c42 => ?_)
    · exact absurd c42 (by omega)
    · refine cm_aload0 (pc := 45) dX7_minutes_45 ?_
      refine cm_aload0 (pc := 46) dX7_minutes_46 ?_
      refine cm_getR (pc := 47) flX7_52 dX7_minutes_47 hE.1 hE.r28 ?_
      refine cm_bipush (pc := 50) (v := 24) dX7_minutes_50 (by decide) ?_
      refine cm_aload0 (pc := 52) dX7_minutes_52 ?_
      refine mk_fld (pc := 53) flX7_160 dX7_minutes_53 hE.1 ?_
      rw [(uMn_ok h h1 k).2]
      refine cm_imul (pc := 56) dX7_minutes_56 ?_
      rw [show (24 : Int32) * nI (m0 + k) = nI (24 * (m0 + k)) by rw [show (24 : Int32) = nI 24 from rfl, pk_mul]]
      refine cm_V2 (pc := 57) mX7_write_v mlX7_237 dX7_minutes_57 hE.1 (by omega) (Nat.le_of_ble_eq_true rfl) (Nat.le_refl _) (Nat.le_refl _) (r_write (d := d + 4) (cc := 15) (at_ := 24 * (m0 + k)) hE (by decide) hE.a15 (by omega) (by decide)) (fun r57 h57 hq57 => ?_)
      obtain ⟨rfl, v57, rfl, t57⟩ := hq57
      rw [t57.eq, show m0 + k = ((uMn u nb ns k).1 0 19).toNatClampNeg by rw [(uMn_ok h h1 k).2]; exact (nI_clamp (by omega)).symm]
      refine cm_aload0 (pc := 60) dX7_minutes_60 ?_
      refine cm_iconst (pc := 61) (v := 0) dX7_minutes_61 (by decide) ?_
      refine cm_bipush (pc := 62) (v := -9) dX7_minutes_62 (by decide) ?_
      refine cm_V2 (pc := 64) mX7_passMinute_v mlX7_241 dX7_minutes_64 hE.1 (by omega) (Nat.le_of_ble_eq_true rfl) (Nat.le_refl _) (Nat.le_refl _) (r_passMinute (d := d) hE (uMn_ok h h1 k).1.wr) (fun r64 h64 hq64 => ?_)
      obtain ⟨rfl, rfl⟩ := hq64
      refine cm_iload2 (pc := 67) dX7_minutes_67 ?_
      refine cm_aload0 (pc := 68) dX7_minutes_68 ?_
      refine mk_fld (pc := 69) flX7_218 dX7_minutes_69 hE.1 ?_
      refine cm_S1 (pc := 72) mX7_sizeOf_s mlX7_192 dX7_minutes_72 (by omega) (Nat.le_of_ble_eq_true rfl) (Nat.le_refl _) (Nat.le_refl _) (r_sizeOf (d := d + 4)) (fun r72 h72 hq72 => ?_)
      obtain ⟨rfl, rfl⟩ := hq72
      refine cm_iadd (pc := 75) dX7_minutes_75 ?_
      refine cm_istore2 (pc := 76) dX7_minutes_76 (by decide) rfl ?_
      refine cm_incN3 (pc := 77) dX7_minutes_77 (by decide) rfl ?_
      refine cm_goto (pc := 80) (tgt := 40) dX7_minutes_80 (by decide) ?_
      exact hst
set_option maxRecDepth 20000 in
theorem r_minutes (hE : cm_mdl sh hr e) {n : Int32} (h : uOk u nb ns) (hm0 : 0 ≤ (u 0 19).toInt ∧ (u 0 19).toInt ≤ 60) : cm_ct D mX7_minutes (d + 5) 0 0 [.ref e, .int n] (sh, cm_us hi e u, hl, hr) (fun r9 h9 => r9 = some (.int (uMinutes u nb ns n).1) ∧ h9 = (sh, cm_us hi e (uMinutes u nb ns n).2, hl, hr)) := by
  refine cm_ct_of (ls := [some (.ref e), some (.int n), none, none]) 2 (by decide +kernel) rfl rfl ?_
  refine cm_iload1 (pc := 0) dX7_minutes_0 ?_
  refine cm_iconst (pc := 1) (v := 0) dX7_minutes_1 (by decide) ?_
  refine cm_bipush (pc := 2) (v := 20) dX7_minutes_2 (by decide) ?_
  refine cm_S3 (pc := 4) mX7_in_s mlX7_83 dX7_minutes_4 (by omega) (Nat.le_of_ble_eq_true rfl) (Nat.le_refl _) (Nat.le_refl _) (r_in (d := d + 4)) (fun r4 h4 hq4 => ?_)
  obtain ⟨rfl, rfl⟩ := hq4
  refine cm_ifneB (pc := 7) (tgt := 12) dX7_minutes_7 (by decide) (fun c7 => ?_) (fun c7 => ?_)
  · refine cm_aload0 (pc := 12) dX7_minutes_12 ?_
    refine mk_fld (pc := 13) flX7_151 dX7_minutes_13 hE.1 ?_
    refine cm_if_ne (pc := 16) (tgt := 22) dX7_minutes_16 (by decide) (fun c16 => ?_) (fun c16 => ?_)
    · refine cm_aload0 (pc := 22) dX7_minutes_22 ?_
      refine mk_fld (pc := 23) flX7_160 dX7_minutes_23 hE.1 ?_
      refine cm_iload1 (pc := 26) dX7_minutes_26 ?_
      refine cm_iadd (pc := 27) dX7_minutes_27 ?_
      refine cm_bipush (pc := 28) (v := 60) dX7_minutes_28 (by decide) ?_
      refine cm_icmp_le (pc := 30) (tgt := 36) dX7_minutes_30 (by decide) (fun c30 => ?_) (fun c30 => ?_)
      · refine cm_iconst (pc := 36) (v := 0) dX7_minutes_36 (by decide) ?_
        refine cm_istore2 (pc := 37) dX7_minutes_37 (by decide) rfl ?_
        refine cm_iconst (pc := 38) (v := 0) dX7_minutes_38 (by decide) ?_
        refine cm_istore3 (pc := 39) dX7_minutes_39 (by decide) rfl ?_
        have zn := uIn_zz.mp c7
        have z0 : (0 : Int32).toInt = 0 := by decide
        have e20 : (20 : Int32).toInt = 20 := by decide
        rw [z0, e20] at zn
        have c30z : (u 0 19).toInt + n.toInt ≤ 60 := by
          have e60 : (60 : Int32).toInt = 60 := by decide
          have := Int32.le_iff_toInt_le.mp c30
          rw [zadd (by omega), e60] at this
          exact this
        have w1 : n.toNatClampNeg = n.toInt.toNat := rfl
        have w2 : (u 0 19).toNatClampNeg = (u 0 19).toInt.toNat := rfl
        have k9 := l_rmins (D := D) (d := d) (sh := sh) (hi := hi) (hl := hl) (n := n.toNatClampNeg) (m0 := (u 0 19).toNatClampNeg) hE h (z_of hm0.1) (by omega) n.toNatClampNeg 0 (Nat.zero_add _)
        have e9 : n = nI n.toNatClampNeg := z_of zn.1
        rw [← e9] at k9
        have hspec : uMinutes u nb ns n = ((uMn u nb ns n.toNatClampNeg).2, (uMn u nb ns n.toNatClampNeg).1) := by
          unfold uMinutes
          rw [if_neg (by rw [c7]; decide), if_neg c16, if_pos c30]
        rw [hspec]
        exact k9
      · refine cm_bipush (pc := 33) (v := -2) dX7_minutes_33 (by decide) ?_
        exact cm_iret (pc := 35) dX7_minutes_35 rfl ⟨by simp [uMinutes, *], by simp [uMinutes, *]⟩
    · refine cm_bipush (pc := 19) (v := -4) dX7_minutes_19 (by decide) ?_
      exact cm_iret (pc := 21) dX7_minutes_21 rfl ⟨by simp [uMinutes, *], by simp [uMinutes, *]⟩
  · refine cm_iconst (pc := 10) (v := -1) dX7_minutes_10 (by decide) ?_
    exact cm_iret (pc := 11) dX7_minutes_11 rfl ⟨by simp [uMinutes, *], by simp [uMinutes, *]⟩
def uUndo (u : cm_g2) (n : Int32) : Int32 × cm_g2 := if uIn n (u 0 20) (u 0 19) = false then (-1, u) else if u 0 19 - n ≤ 0 then (u 0 19 - n, u) else (u 0 19 - n, va_up (uRd u 15 (24 * n.toNatClampNeg)) 0 (upd (u 0) 19 n))
set_option maxRecDepth 20000 in
theorem r_undo (hE : cm_mdl sh hr e) {n : Int32} (hm0 : 0 ≤ (u 0 19).toInt ∧ (u 0 19).toInt ≤ 60) (hb0 : 0 ≤ (u 0 20).toInt) : cm_ct D mX7_undo (d + 1) 0 0 [.ref e, .int n] (sh, cm_us hi e u, hl, hr) (fun r9 h9 => r9 = some (.int (uUndo u n).1) ∧ h9 = (sh, cm_us hi e (uUndo u n).2, hl, hr)) := by
  refine cm_ct_of (ls := [some (.ref e), some (.int n), none]) 1 (by decide +kernel) rfl rfl ?_
  refine cm_iload1 (pc := 0) dX7_undo_0 ?_
  refine cm_aload0 (pc := 1) dX7_undo_1 ?_
  refine mk_fld (pc := 2) flX7_163 dX7_undo_2 hE.1 ?_
  refine cm_aload0 (pc := 5) dX7_undo_5 ?_
  refine mk_fld (pc := 6) flX7_160 dX7_undo_6 hE.1 ?_
  refine cm_S3 (pc := 9) mX7_in_s mlX7_83 dX7_undo_9 (by omega) (Nat.le_of_ble_eq_true rfl) (Nat.le_refl _) (Nat.le_refl _) (r_in (d := d)) (fun r9 h9 hq9 => ?_)
  obtain ⟨rfl, rfl⟩ := hq9
  refine cm_ifneB (pc := 12) (tgt := 17) dX7_undo_12 (by decide) (fun c12 => ?_) (fun c12 => ?_)
  · refine cm_aload0 (pc := 17) dX7_undo_17 ?_
    refine mk_fld (pc := 18) flX7_160 dX7_undo_18 hE.1 ?_
    refine cm_iload1 (pc := 21) dX7_undo_21 ?_
    refine cm_isub (pc := 22) dX7_undo_22 ?_
    refine cm_istore2 (pc := 23) dX7_undo_23 (by decide) rfl ?_
    refine cm_iload2 (pc := 24) dX7_undo_24 ?_
    refine cm_if_le (pc := 25) (tgt := 45) dX7_undo_25 (by decide) (fun c25 => ?_) (fun c25 => ?_)
    · refine cm_iload2 (pc := 45) dX7_undo_45 ?_
      exact cm_iret (pc := 46) dX7_undo_46 rfl ⟨by unfold uUndo; rw [if_neg (by rw [c12]; decide), if_pos c25], by unfold uUndo; rw [if_neg (by rw [c12]; decide), if_pos c25]⟩
    · have zn := uIn_zz.mp c12
      have e9 : n = nI n.toNatClampNeg := z_of (by omega)
      have w1 : n.toNatClampNeg = n.toInt.toNat := rfl
      have c25z : 0 < (u 0 19 - n).toInt := by
        have := Int32.not_le.mp c25
        rw [Int32.lt_iff_toInt_lt] at this
        exact this
      rw [zsub (by omega)] at c25z
      generalize hq9 : n.toNatClampNeg = q9 at *
      subst e9
      refine cm_aload0 (pc := 28) dX7_undo_28 ?_
      refine cm_aload0 (pc := 29) dX7_undo_29 ?_
      refine cm_getR (pc := 30) flX7_52 dX7_undo_30 hE.1 hE.r28 ?_
      refine cm_bipush (pc := 33) (v := 24) dX7_undo_33 (by decide) ?_
      refine cm_iload1 (pc := 35) dX7_undo_35 ?_
      refine cm_imul (pc := 36) dX7_undo_36 ?_
      rw [show (24 : Int32) * nI q9 = nI (24 * q9) by rw [show (24 : Int32) = nI 24 from rfl, pk_mul]]
      refine cm_V2 (pc := 37) mX7_read_v mlX7_244 dX7_undo_37 hE.1 (by omega) (Nat.le_of_ble_eq_true rfl) (Nat.le_refl _) (Nat.le_refl _) (r_read (d := d) (cc := 15) (at_ := 24 * q9) hE (by decide) hE.a15 (by omega) (by decide)) (fun r37 h37 hq37 => ?_)
      obtain ⟨rfl, v37, rfl, t37⟩ := hq37
      rw [t37.eq]
      refine cm_aload0 (pc := 40) dX7_undo_40 ?_
      refine cm_iload1 (pc := 41) dX7_undo_41 ?_
      refine mk_set (pc := 42) fpX7_160 dX7_undo_42 hE.1 ?_
      refine cm_iload2 (pc := 45) dX7_undo_45 ?_
      exact cm_iret (pc := 46) dX7_undo_46 rfl ⟨by unfold uUndo; rw [if_neg (by rw [c12]; decide), if_neg c25], by unfold uUndo; rw [if_neg (by rw [c12]; decide), if_neg c25, hq9, uRd_c (by decide)]⟩
  · refine cm_iconst (pc := 15) (v := -1) dX7_undo_15 (by decide) ?_
    exact cm_iret (pc := 16) dX7_undo_16 rfl ⟨by simp [uUndo, *], by simp [uUndo, *]⟩
def uTurn (u : cm_g2) (nb : Nat) (way : Int32) : Int32 × cm_g2 := if uIn way 0 1 = false then (-1, u) else if u 0 9 = 0 then (-4, u) else if uIn (u 8 0 + (if way = 0 then -1 else 1)) 0 19 = true ∧ uIn (u 8 (nb - 1) + (if way = 0 then -1 else 1)) 0 19 = true then (1, va_up u 8 (fun x => if x < nb then u 8 x + (if way = 0 then -1 else 1) else u 8 x)) else (0, u)
set_option maxRecDepth 20000 in
theorem l_rturn (hE : cm_mdl sh hr e) {way by_ : Int32} (h : uOk u nb ns) : ∀ q k : Nat, k + q = nb → cm_g D mX7_turn (d + 1) 0 0 (fun r9 h9 => r9 = some (.int 1) ∧ h9 = (sh, cm_us hi e (va_up u 8 (fun x => if x < nb then u 8 x + by_ else u 8 x)), hl, hr)) 0 0 68 [some (.ref e), some (.int way), some (.int by_), some (.int (nI k))] [] (sh, cm_us hi e (va_up u 8 (fun x => if x < k then u 8 x + by_ else u 8 x)), hl, hr) := by
  have hnb := h.1.2.1
  have hns := h.1.2.2.2
  intro q
  induction q with
  | zero =>
    intro k hk
    have h1 : k = nb := by omega
    subst h1
    refine cm_iload3 (pc := 68) dX7_turn_68 ?_
    refine cm_aload0 (pc := 69) dX7_turn_69 ?_
    refine mk_fld (pc := 70) flX7_151 dX7_turn_70 hE.1 ?_
    refine cm_top_eq (show (va_up u 8 (fun x => if x < k then u 8 x + by_ else u 8 x)) 0 9 = nI k by rw [va_up_ne _ _ (by decide)]; exact h.1.1) ?_
    refine cm_geN (pc := 73) (tgt := 92) dX7_turn_73 (by decide) (by omega) (by omega) (fun c73 => ?_) (fun c73 => ?_)
    · refine cm_iconst (pc := 92) (v := 1) dX7_turn_92 (by decide) ?_
      exact cm_iret (pc := 93) dX7_turn_93 rfl ⟨rfl, rfl⟩
    · exact absurd c73 (by omega)
  | succ q ih =>
    intro k hk
    have hst := ih (k + 1) (by omega)
    refine cm_iload3 (pc := 68) dX7_turn_68 ?_
    refine cm_aload0 (pc := 69) dX7_turn_69 ?_
    refine mk_fld (pc := 70) flX7_151 dX7_turn_70 hE.1 ?_
    refine cm_top_eq (show (va_up u 8 (fun x => if x < k then u 8 x + by_ else u 8 x)) 0 9 = nI nb by rw [va_up_ne _ _ (by decide)]; exact h.1.1) ?_
    refine cm_geN (pc := 73) (tgt := 92) dX7_turn_73 (by decide) (by omega) (by omega) (fun c73 => ?_) (fun c73 => ?_)
    · exact absurd c73 (by omega)
    · refine cm_aload0 (pc := 76) dX7_turn_76 ?_
      refine cm_getR (pc := 77) flX7_31 dX7_turn_77 hE.1 hE.r12 ?_
      refine cm_iload3 (pc := 80) dX7_turn_80 ?_
      refine cm_dup2 (pc := 81) dX7_turn_81 rfl rfl ?_
      refine mk_get (pc := 82) dX7_turn_82 hE.a8 (by omega) (by decide) ?_
      refine cm_iload2 (pc := 83) dX7_turn_83 ?_
      refine cm_iadd (pc := 84) dX7_turn_84 ?_
      refine mk_put (pc := 85) dX7_turn_85 hE.a8 (by omega) (by decide) ?_
      rw [show va_up (va_up u 8 (fun x => if x < k then u 8 x + by_ else u 8 x)) 8 (upd ((va_up u 8 (fun x => if x < k then u 8 x + by_ else u 8 x)) 8) k ((va_up u 8 (fun x => if x < k then u 8 x + by_ else u 8 x)) 8 k + by_)) = va_up u 8 (fun x => if x < (k + 1) then u 8 x + by_ else u 8 x) by
        rw [va_up_self, bx_uu]
        congr 1
        funext x
        unfold upd
        show (if x = k then (if k < k then u 8 k + by_ else u 8 k) + by_ else if x < k then u 8 x + by_ else u 8 x) = _
        by_cases q9 : x = k
        · subst q9; rw [if_pos rfl, if_neg (by omega), if_pos (by omega)]
        · rw [if_neg q9]
          by_cases q8 : x < k
          · rw [if_pos q8, if_pos (by omega)]
          · rw [if_neg q8, if_neg (by omega)]]
      refine cm_incN3 (pc := 86) dX7_turn_86 (by decide) rfl ?_
      refine cm_goto (pc := 89) (tgt := 68) dX7_turn_89 (by decide) ?_
      exact hst
set_option maxRecDepth 20000 in
theorem r_turn (hE : cm_mdl sh hr e) {way : Int32} (h : uOk u nb ns) : cm_ct D mX7_turn (d + 2) 0 0 [.ref e, .int way] (sh, cm_us hi e u, hl, hr) (fun r9 h9 => r9 = some (.int (uTurn u nb way).1) ∧ h9 = (sh, cm_us hi e (uTurn u nb way).2, hl, hr)) := by
  have hnb := h.1.2.1
  have hns := h.1.2.2.2
  refine cm_ct_of (ls := [some (.ref e), some (.int way), none, none]) 2 (by decide +kernel) rfl rfl ?_
  refine cm_iload1 (pc := 0) dX7_turn_0 ?_
  refine cm_iconst (pc := 1) (v := 0) dX7_turn_1 (by decide) ?_
  refine cm_iconst (pc := 2) (v := 1) dX7_turn_2 (by decide) ?_
  refine cm_S3 (pc := 3) mX7_in_s mlX7_83 dX7_turn_3 (by omega) (Nat.le_of_ble_eq_true rfl) (Nat.le_refl _) (Nat.le_refl _) (r_in (d := d)) (fun r3 h3 hq3 => ?_)
  obtain ⟨rfl, rfl⟩ := hq3
  refine cm_ifneB (pc := 6) (tgt := 11) dX7_turn_6 (by decide) (fun c6 => ?_) (fun c6 => ?_)
  · refine cm_aload0 (pc := 11) dX7_turn_11 ?_
    refine mk_fld (pc := 12) flX7_151 dX7_turn_12 hE.1 ?_
    refine cm_if_ne (pc := 15) (tgt := 21) dX7_turn_15 (by decide) (fun c15 => ?_) (fun c15 => ?_)
    · have h0 : 0 < nb := by
        rcases Nat.eq_zero_or_pos nb with w | w
        · subst w; exact absurd h.1.1 c15
        · exact w
      refine cm_iload1 (pc := 21) dX7_turn_21 ?_
      refine cm_if_ne (pc := 22) (tgt := 29) dX7_turn_22 (by decide) (fun c22 => ?_) (fun c22 => ?_)
      · refine cm_iconst (pc := 29) (v := 1) dX7_turn_29 (by decide) ?_
        refine cm_istore2 (pc := 30) dX7_turn_30 (by decide) rfl ?_
        refine cm_aload0 (pc := 31) dX7_turn_31 ?_
        refine cm_getR (pc := 32) flX7_31 dX7_turn_32 hE.1 hE.r12 ?_
        refine cm_iconst (pc := 35) (v := 0) dX7_turn_35 (by decide) ?_
        refine mk_getE (pc := 36) (0) dX7_turn_36 hE.a8 rfl (by omega) (by decide) ?_
        refine cm_iload2 (pc := 37) dX7_turn_37 ?_
        refine cm_iadd (pc := 38) dX7_turn_38 ?_
        refine cm_S1 (pc := 39) mX7_isSpot_s mlX7_204 dX7_turn_39 (by omega) (Nat.le_of_ble_eq_true rfl) (Nat.le_refl _) (Nat.le_refl _) (r_isSpot (d := d)) (fun r39 h39 hq39 => ?_)
        obtain ⟨rfl, rfl⟩ := hq39
        refine cm_ifeqB (pc := 42) (tgt := 64) dX7_turn_42 (by decide) (fun c42 => ?_) (fun c42 => ?_)
        · refine cm_iconst (pc := 64) (v := 0) dX7_turn_64 (by decide) ?_
          exact cm_iret (pc := 65) dX7_turn_65 rfl ⟨by simp [uTurn, *, show uIn 0 0 1 = true by decide], by simp [uTurn, *, show uIn 0 0 1 = true by decide]⟩
        · refine cm_aload0 (pc := 45) dX7_turn_45 ?_
          refine cm_getR (pc := 46) flX7_31 dX7_turn_46 hE.1 hE.r12 ?_
          refine cm_aload0 (pc := 49) dX7_turn_49 ?_
          refine mk_fld (pc := 50) flX7_151 dX7_turn_50 hE.1 ?_
          refine cm_top_eq h.1.1 ?_
          refine cm_iconst (pc := 53) (v := 1) dX7_turn_53 (by decide) ?_
          refine cm_isub (pc := 54) dX7_turn_54 ?_
          rw [show nI nb - 1 = nI (nb - 1) from pk_sub (b := 1) (by omega)]
          refine mk_get (pc := 55) dX7_turn_55 hE.a8 (by omega) (by decide) ?_
          refine cm_iload2 (pc := 56) dX7_turn_56 ?_
          refine cm_iadd (pc := 57) dX7_turn_57 ?_
          refine cm_S1 (pc := 58) mX7_isSpot_s mlX7_204 dX7_turn_58 (by omega) (Nat.le_of_ble_eq_true rfl) (Nat.le_refl _) (Nat.le_refl _) (r_isSpot (d := d)) (fun r58 h58 hq58 => ?_)
          obtain ⟨rfl, rfl⟩ := hq58
          refine cm_ifneB (pc := 61) (tgt := 66) dX7_turn_61 (by decide) (fun c61 => ?_) (fun c61 => ?_)
          · refine cm_iconst (pc := 66) (v := 0) dX7_turn_66 (by decide) ?_
            refine cm_istore3 (pc := 67) dX7_turn_67 (by decide) rfl ?_
            have hV : va_up u 8 (fun x => if x < 0 then u 8 x + 1 else u 8 x) = u := by
              rw [show (fun x => if x < 0 then u 8 x + (1 : Int32) else u 8 x) = u 8 from funext (fun x => if_neg (Nat.not_lt_zero x))]
              funext c
              by_cases q9 : c = 8
              · subst q9; rw [va_up_self]
              · rw [va_up_ne _ _ q9]
            have k9 := l_rturn (D := D) (d := d + 1) (sh := sh) (hi := hi) (hl := hl) (way := way) (by_ := 1) hE h nb 0 (Nat.zero_add _)
            rw [hV] at k9
            have hspec : uTurn u nb way = (1, va_up u 8 (fun x => if x < nb then u 8 x + 1 else u 8 x)) := by
              unfold uTurn
              simp only [if_neg c22, c22, if_false]
              rw [if_neg (by first | (rw [c6]; decide) | decide), if_neg c15, if_pos ⟨c42, c61⟩]
            rw [hspec]
            exact k9
          · refine cm_iconst (pc := 64) (v := 0) dX7_turn_64 (by decide) ?_
            exact cm_iret (pc := 65) dX7_turn_65 rfl ⟨by simp [uTurn, *, show uIn 0 0 1 = true by decide], by simp [uTurn, *, show uIn 0 0 1 = true by decide]⟩
      · refine cm_iconst (pc := 25) (v := -1) dX7_turn_25 (by decide) ?_
        refine cm_goto (pc := 26) (tgt := 30) dX7_turn_26 (by decide) ?_
        refine cm_istore2 (pc := 30) dX7_turn_30 (by decide) rfl ?_
        refine cm_aload0 (pc := 31) dX7_turn_31 ?_
        refine cm_getR (pc := 32) flX7_31 dX7_turn_32 hE.1 hE.r12 ?_
        refine cm_iconst (pc := 35) (v := 0) dX7_turn_35 (by decide) ?_
        refine mk_getE (pc := 36) (0) dX7_turn_36 hE.a8 rfl (by omega) (by decide) ?_
        refine cm_iload2 (pc := 37) dX7_turn_37 ?_
        refine cm_iadd (pc := 38) dX7_turn_38 ?_
        refine cm_S1 (pc := 39) mX7_isSpot_s mlX7_204 dX7_turn_39 (by omega) (Nat.le_of_ble_eq_true rfl) (Nat.le_refl _) (Nat.le_refl _) (r_isSpot (d := d)) (fun r39 h39 hq39 => ?_)
        obtain ⟨rfl, rfl⟩ := hq39
        refine cm_ifeqB (pc := 42) (tgt := 64) dX7_turn_42 (by decide) (fun c42 => ?_) (fun c42 => ?_)
        · refine cm_iconst (pc := 64) (v := 0) dX7_turn_64 (by decide) ?_
          exact cm_iret (pc := 65) dX7_turn_65 rfl ⟨by simp [uTurn, *, show uIn 0 0 1 = true by decide], by simp [uTurn, *, show uIn 0 0 1 = true by decide]⟩
        · refine cm_aload0 (pc := 45) dX7_turn_45 ?_
          refine cm_getR (pc := 46) flX7_31 dX7_turn_46 hE.1 hE.r12 ?_
          refine cm_aload0 (pc := 49) dX7_turn_49 ?_
          refine mk_fld (pc := 50) flX7_151 dX7_turn_50 hE.1 ?_
          refine cm_top_eq h.1.1 ?_
          refine cm_iconst (pc := 53) (v := 1) dX7_turn_53 (by decide) ?_
          refine cm_isub (pc := 54) dX7_turn_54 ?_
          rw [show nI nb - 1 = nI (nb - 1) from pk_sub (b := 1) (by omega)]
          refine mk_get (pc := 55) dX7_turn_55 hE.a8 (by omega) (by decide) ?_
          refine cm_iload2 (pc := 56) dX7_turn_56 ?_
          refine cm_iadd (pc := 57) dX7_turn_57 ?_
          refine cm_S1 (pc := 58) mX7_isSpot_s mlX7_204 dX7_turn_58 (by omega) (Nat.le_of_ble_eq_true rfl) (Nat.le_refl _) (Nat.le_refl _) (r_isSpot (d := d)) (fun r58 h58 hq58 => ?_)
          obtain ⟨rfl, rfl⟩ := hq58
          refine cm_ifneB (pc := 61) (tgt := 66) dX7_turn_61 (by decide) (fun c61 => ?_) (fun c61 => ?_)
          · refine cm_iconst (pc := 66) (v := 0) dX7_turn_66 (by decide) ?_
            refine cm_istore3 (pc := 67) dX7_turn_67 (by decide) rfl ?_
            have hV : va_up u 8 (fun x => if x < 0 then u 8 x + (-1) else u 8 x) = u := by
              rw [show (fun x => if x < 0 then u 8 x + ((-1) : Int32) else u 8 x) = u 8 from funext (fun x => if_neg (Nat.not_lt_zero x))]
              funext c
              by_cases q9 : c = 8
              · subst q9; rw [va_up_self]
              · rw [va_up_ne _ _ q9]
            have k9 := l_rturn (D := D) (d := d + 1) (sh := sh) (hi := hi) (hl := hl) (way := way) (by_ := (-1)) hE h nb 0 (Nat.zero_add _)
            rw [hV] at k9
            have hspec : uTurn u nb way = (1, va_up u 8 (fun x => if x < nb then u 8 x + (-1) else u 8 x)) := by
              unfold uTurn
              simp only [c22, if_true]
              rw [if_neg (by first | (rw [c6]; decide) | decide), if_neg c15, if_pos ⟨c42, c61⟩]
            rw [hspec]
            exact k9
          · refine cm_iconst (pc := 64) (v := 0) dX7_turn_64 (by decide) ?_
            exact cm_iret (pc := 65) dX7_turn_65 rfl ⟨by simp [uTurn, *, show uIn 0 0 1 = true by decide], by simp [uTurn, *, show uIn 0 0 1 = true by decide]⟩
    · refine cm_bipush (pc := 18) (v := -4) dX7_turn_18 (by decide) ?_
      exact cm_iret (pc := 20) dX7_turn_20 rfl ⟨by simp [uTurn, *], by simp [uTurn, *]⟩
  · refine cm_iconst (pc := 9) (v := -1) dX7_turn_9 (by decide) ?_
    exact cm_iret (pc := 10) dX7_turn_10 rfl ⟨by simp [uTurn, *], by simp [uTurn, *]⟩
end U3
