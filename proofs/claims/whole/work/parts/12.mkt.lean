/-! PART mkt: a Market's cells as memory shifted by its address; rows for them -/
theorem lmX2_83 : Cond.methodLink RX2 83 yJ9_abs_0f7a4 ∈ cm_good := cm_w 500 (by decide +kernel) rfl
theorem lmX6_252 : Cond.methodLink RX6 252 yJ9_abs_0f7a4 ∈ cm_good := cm_w 815 (by decide +kernel) rfl
theorem lmX6_331 : Cond.methodLink RX6 331 yJ9_max_f86c9 ∈ cm_good := cm_w 885 (by decide +kernel) rfl
abbrev cm_g2 : Type := Nat → Nat → Int32
/-- memory from a on, and memory with another tail from a on -/
def cm_sf (hi : cm_g2) (a : Nat) : cm_g2 := fun c => hi (a + c)
def cm_us (hi : cm_g2) (a : Nat) (g : cm_g2) : cm_g2 := fun x => if a ≤ x then g (x - a) else hi x
theorem cm_us_at (hi : cm_g2) (a : Nat) (g : cm_g2) (c : Nat) : cm_us hi a g (a + c) = g c := by simp [cm_us]
theorem cm_us_0 (hi : cm_g2) (a : Nat) (g : cm_g2) : cm_us hi a g a = g 0 := by simp [cm_us]
theorem cm_us_sf (hi : cm_g2) (a : Nat) : cm_us hi a (cm_sf hi a) = hi := by
  funext x
  unfold cm_us cm_sf
  split
  · rw [show a + (x - a) = x by omega]
  · rfl
theorem cm_sf_us (hi : cm_g2) (a : Nat) (g : cm_g2) : cm_sf (cm_us hi a g) a = g := by
  funext c
  unfold cm_sf
  rw [cm_us_at]
theorem cm_us_us (hi : cm_g2) (a : Nat) (g g' : cm_g2) : cm_us (cm_us hi a g) a g' = cm_us hi a g' := by
  funext x
  unfold cm_us
  split <;> rfl
theorem cm_us_up (hi : cm_g2) (a c : Nat) (g : cm_g2) (f : Nat → Int32) : va_up (cm_us hi a g) (a + c) f = cm_us hi a (va_up g c f) := by
  funext x
  by_cases e : x = a + c
  · subst e
    rw [va_up_self, cm_us_at, va_up_self]
  · rw [va_up_ne _ _ e]
    unfold cm_us
    by_cases h : a ≤ x
    · rw [if_pos h, if_pos h, va_up_ne _ _ (by omega)]
    · rw [if_neg h, if_neg h]
/-- a Market at a: its object, then its ten arrays -/
def cm_mkt (sh : List cm_Sh) (hr : Nat → Nat → Option Nat) (a : Nat) : Prop := cm_ob sh a 2 ∧ (∀ j, j < 10 → hr a (4 + j) = some (a + (1 + j))) ∧ (∀ j, j < 9 → cm_ar sh (a + (1 + j)) 0 6) ∧ cm_ar sh (a + 10) 0 200
section MK0
variable {sh : List cm_Sh} {hr : Nat → Nat → Option Nat} {a : Nat}
theorem cm_mkt.r4 (h : cm_mkt sh hr a) : hr a 4 = some (a + 1) := h.2.1 0 (by omega)
theorem cm_mkt.r5 (h : cm_mkt sh hr a) : hr a 5 = some (a + 2) := h.2.1 1 (by omega)
theorem cm_mkt.r6 (h : cm_mkt sh hr a) : hr a 6 = some (a + 3) := h.2.1 2 (by omega)
theorem cm_mkt.r7 (h : cm_mkt sh hr a) : hr a 7 = some (a + 4) := h.2.1 3 (by omega)
theorem cm_mkt.r8 (h : cm_mkt sh hr a) : hr a 8 = some (a + 5) := h.2.1 4 (by omega)
theorem cm_mkt.r9 (h : cm_mkt sh hr a) : hr a 9 = some (a + 6) := h.2.1 5 (by omega)
theorem cm_mkt.r10 (h : cm_mkt sh hr a) : hr a 10 = some (a + 7) := h.2.1 6 (by omega)
theorem cm_mkt.r11 (h : cm_mkt sh hr a) : hr a 11 = some (a + 8) := h.2.1 7 (by omega)
theorem cm_mkt.r12 (h : cm_mkt sh hr a) : hr a 12 = some (a + 9) := h.2.1 8 (by omega)
theorem cm_mkt.r13 (h : cm_mkt sh hr a) : hr a 13 = some (a + 10) := h.2.1 9 (by omega)
theorem cm_mkt.a1 (h : cm_mkt sh hr a) : cm_ar sh (a + 1) 0 6 := h.2.2.1 0 (by omega)
theorem cm_mkt.a2 (h : cm_mkt sh hr a) : cm_ar sh (a + 2) 0 6 := h.2.2.1 1 (by omega)
theorem cm_mkt.a3 (h : cm_mkt sh hr a) : cm_ar sh (a + 3) 0 6 := h.2.2.1 2 (by omega)
theorem cm_mkt.a4 (h : cm_mkt sh hr a) : cm_ar sh (a + 4) 0 6 := h.2.2.1 3 (by omega)
theorem cm_mkt.a5 (h : cm_mkt sh hr a) : cm_ar sh (a + 5) 0 6 := h.2.2.1 4 (by omega)
theorem cm_mkt.a6 (h : cm_mkt sh hr a) : cm_ar sh (a + 6) 0 6 := h.2.2.1 5 (by omega)
theorem cm_mkt.a7 (h : cm_mkt sh hr a) : cm_ar sh (a + 7) 0 6 := h.2.2.1 6 (by omega)
theorem cm_mkt.a8 (h : cm_mkt sh hr a) : cm_ar sh (a + 8) 0 6 := h.2.2.1 7 (by omega)
theorem cm_mkt.a9 (h : cm_mkt sh hr a) : cm_ar sh (a + 9) 0 6 := h.2.2.1 8 (by omega)
theorem cm_mkt.a10 (h : cm_mkt sh hr a) : cm_ar sh (a + 10) 0 200 := h.2.2.2
end MK0
section MK1
variable {D : cm_D} {M : cm_M} {d rc rs : Nat} {Q : Option Value → cm_H → Prop} {cells slots pc : Nat} {ls : List (Option Value)} {st : List Value} {sh : List cm_Sh} {hi g : cm_g2} {hl : Nat → Nat → Int64} {hr : Nat → Nat → Option Nat}
theorem mk_fld {ci j idx a : Nat} (hF : cm_FL M.1.cls idx ci j 0) (hd : decode M.2.1 pc = .ok (.getfield idx, 3)) (ha : cm_ob sh a ci) (kk : cm_g D M d rc rs Q cells slots (pc + 3) ls (.int (g 0 j) :: st) (sh, cm_us hi a g, hl, hr)) : cm_g D M d rc rs Q cells slots pc ls (.ref a :: st) (sh, cm_us hi a g, hl, hr) := cm_getI hF hd ha (by rw [cm_us_0]; exact kk)
theorem mk_set {ci j idx a : Nat} {x : Int32} (hF : cm_FP M.1.cls idx ci j 0) (hd : decode M.2.1 pc = .ok (.putfield idx, 3)) (ha : cm_ob sh a ci) (kk : cm_g D M d rc rs Q cells slots (pc + 3) ls st (sh, cm_us hi a (va_up g 0 (upd (g 0) j x)), hl, hr)) : cm_g D M d rc rs Q cells slots pc ls (.int x :: .ref a :: st) (sh, cm_us hi a g, hl, hr) := cm_putI hF hd ha (by
  rw [cm_us_0, show va_up (cm_us hi a g) a (upd (g 0) j x) = cm_us hi a (va_up g 0 (upd (g 0) j x)) from cm_us_up hi a 0 g _]
  exact kk)
theorem mk_getE {a c n : Nat} {i : Int32} (k : Nat) (hd : decode M.2.1 pc = .ok (.iaload, 1)) (ha : cm_ar sh (a + c) 0 n) (he : i = nI k) (hk : k < n) (hn : n < 2147483648) (kk : cm_g D M d rc rs Q cells slots (pc + 1) ls (.int (g c k) :: st) (sh, cm_us hi a g, hl, hr)) : cm_g D M d rc rs Q cells slots pc ls (.int i :: .ref (a + c) :: st) (sh, cm_us hi a g, hl, hr) := cm_ialE k hd ha he hk hn (by rw [cm_us_at]; exact kk)
theorem mk_get {a c n k : Nat} (hd : decode M.2.1 pc = .ok (.iaload, 1)) (ha : cm_ar sh (a + c) 0 n) (hk : k < n) (hn : n < 2147483648) (kk : cm_g D M d rc rs Q cells slots (pc + 1) ls (.int (g c k) :: st) (sh, cm_us hi a g, hl, hr)) : cm_g D M d rc rs Q cells slots pc ls (.int (nI k) :: .ref (a + c) :: st) (sh, cm_us hi a g, hl, hr) := mk_getE k hd ha rfl hk hn kk
theorem mk_putE {a c n : Nat} {i x : Int32} (k : Nat) (hd : decode M.2.1 pc = .ok (.iastore, 1)) (ha : cm_ar sh (a + c) 0 n) (he : i = nI k) (hk : k < n) (hn : n < 2147483648) (kk : cm_g D M d rc rs Q cells slots (pc + 1) ls st (sh, cm_us hi a (va_up g c (upd (g c) k x)), hl, hr)) : cm_g D M d rc rs Q cells slots pc ls (.int x :: .int i :: .ref (a + c) :: st) (sh, cm_us hi a g, hl, hr) := cm_iasE k hd ha he hk hn (by rw [cm_us_at, cm_us_up]; exact kk)
theorem mk_put {a c n k : Nat} {x : Int32} (hd : decode M.2.1 pc = .ok (.iastore, 1)) (ha : cm_ar sh (a + c) 0 n) (hk : k < n) (hn : n < 2147483648) (kk : cm_g D M d rc rs Q cells slots (pc + 1) ls st (sh, cm_us hi a (va_up g c (upd (g c) k x)), hl, hr)) : cm_g D M d rc rs Q cells slots pc ls (.int x :: .int (nI k) :: .ref (a + c) :: st) (sh, cm_us hi a g, hl, hr) := mk_putE k hd ha rfl hk hn kk
end MK1
