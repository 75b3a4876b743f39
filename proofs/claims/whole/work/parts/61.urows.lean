/-! PART urows: the reference: rows, texts -/
def uMeet (u : cm_g2) (f : Nat) : cm_g2 := va_up (va_up u 0 (upd (u 0) 0 (nI f))) 1 (upd (u 1) f (u 1 f + 1))
def uAsk (u : cm_g2) (v : Int32) : cm_g2 := va_up u 0 (upd (u 0) 2 v)
def uSz (s : Int32) : Nat → Int32
  | 0 => 0
  | k + 1 => uSz s k + ((s >>> (nI k &&& 31)) &&& 1)
def uSzOk (z : Int32) (n : Nat) : Prop := z = -9 ∨ ∃ m, m ≤ n ∧ z = nI m
def uInv (u : cm_g2) : Prop := (∀ r, r < 6 → uSzOk (u 2 r) 40) ∧ ∀ t, t < 4 → uSzOk (u 5 t) 80
def uAR (u : cm_g2) (r : Int32) : Int32 × cm_g2 := if uIn r 0 5 = false then (-1, u) else if 0 ≤ u 2 r.toNatClampNeg then (0, u) else (-3, uMeet u 1)
def uAT (u : cm_g2) (t : Int32) : Int32 × cm_g2 := if uIn t 0 3 = false then (-1, u) else if 0 ≤ u 5 t.toNatClampNeg then (0, u) else (-3, uMeet u 1)
def uRow (u : cm_g2) (r n : Int32) : Int32 × cm_g2 := if uIn r 0 5 = false ∨ ¬ n ≤ 40 then (-1, u) else if 0 ≤ n then (n, va_up (va_up u 2 (upd (u 2) r.toNatClampNeg n)) 3 (fun x => if 40 * r.toNatClampNeg ≤ x ∧ x < 40 * r.toNatClampNeg + 40 then 0 else u 3 x)) else (-3, uMeet u 5)
def uAt (u : cm_g2) (r i : Int32) : Int32 × cm_g2 := if 0 ≤ (uAR u r).1 then (if uIn i 0 (u 2 r.toNatClampNeg - 1) then (1, uAsk u (u 3 (40 * r.toNatClampNeg + i.toNatClampNeg))) else (-3, uMeet u 2)) else uAR u r
def uLay (u : cm_g2) (r i v : Int32) : Int32 × cm_g2 := if 0 ≤ (uAt u r i).1 then (1, va_up (uAt u r i).2 3 (upd ((uAt u r i).2 3) (40 * r.toNatClampNeg + i.toNatClampNeg) v)) else uAt u r i
def uTear (u : cm_g2) (r : Int32) : Int32 × cm_g2 := if 0 ≤ (uAR u r).1 then (1, va_up u 2 (upd (u 2) r.toNatClampNeg (-9))) else uAR u r
def uText (u : cm_g2) (t n : Int32) : Int32 × cm_g2 := if uIn t 0 3 = false ∨ ¬ n ≤ 80 then (-1, u) else if 0 ≤ n then (n, va_up (va_up u 5 (upd (u 5) t.toNatClampNeg n)) 6 (fun x => if 80 * t.toNatClampNeg ≤ x ∧ x < 80 * t.toNatClampNeg + 80 then 32 else u 6 x)) else (-3, uMeet u 5)
def uPut (u : cm_g2) (t i v : Int32) : Int32 × cm_g2 := if 0 ≤ (uAT u t).1 then (if uIn i 0 (u 5 t.toNatClampNeg - 1) then (u 6 (80 * t.toNatClampNeg + i.toNatClampNeg) + 1000, va_up u 6 (upd (u 6) (80 * t.toNatClampNeg + i.toNatClampNeg) v.toInt8.toInt32)) else (-3, uMeet u 2)) else uAT u t
def uSum (f : Nat → Int32) (b : Nat) : Nat → Int64
  | 0 => 0
  | k + 1 => uSum f b k + (f (b + k)).toInt64
def uMean (u : cm_g2) (r : Int32) : Int32 × cm_g2 := if 0 ≤ (uAR u r).1 then (if u 2 r.toNatClampNeg = 0 then (-3, uMeet u 4) else (1, uAsk u (uSum (u 3) (40 * r.toNatClampNeg) (u 2 r.toNatClampNeg).toNatClampNeg / (u 2 r.toNatClampNeg).toInt64).toInt32)) else uAR u r
theorem uIn_zz {v a b : Int32} : uIn v a b = true ↔ a.toInt ≤ v.toInt ∧ v.toInt ≤ b.toInt := by
  unfold uIn
  simp only [Bool.and_eq_true, Bool.not_eq_true', decide_eq_false_iff_not, Int32.lt_iff_toInt_lt]
  omega
theorem uIn_ex {r b : Int32} (n : Nat) (h : uIn r 0 b = true) (hb : b = nI n := by rfl) (hn : n < 2 ^ 31 := by decide) : ∃ j, j ≤ n ∧ r = nI j := by
  subst hb
  have h1 := uIn_zz.mp h
  have z0 : (0 : Int32).toInt = 0 := by decide
  rw [nI_toInt hn, z0] at h1
  exact ⟨r.toInt.toNat, by omega, z_of h1.1⟩
theorem uix (k r i : Nat) : nI k * nI r + nI i = nI (k * r + i) := by rw [pk_mul, nI_add]
theorem uSzOk.ge {z : Int32} {n : Nat} (h : uSzOk z n) (h0 : 0 ≤ z) : ∃ m, m ≤ n ∧ z = nI m := by
  rcases h with h | h
  · rw [h] at h0; exact absurd h0 (by decide)
  · exact h
theorem uLast (m : Nat) (h : m ≤ 80) : (nI m - 1).toInt = (m : Int) - 1 := by
  have z1 : (1 : Int32).toInt = 1 := by decide
  rw [zsub (by rw [nI_toInt (by omega), z1]; omega), nI_toInt (by omega), z1]
theorem uIn_ix {i : Int32} {m : Nat} (h : uIn i 0 (nI m - 1) = true) (hm : m ≤ 80) : ∃ x, x < m ∧ i = nI x := by
  have h1 := uIn_zz.mp h
  have z0 : (0 : Int32).toInt = 0 := by decide
  rw [uLast m hm, z0] at h1
  exact ⟨i.toInt.toNat, by omega, z_of h1.1⟩
section UR
variable {D : cm_D} {d : Nat} {sh : List cm_Sh} {hi u : cm_g2} {hl : Nat → Nat → Int64} {hr : Nat → Nat → Option Nat} {e nb ns : Nat}
set_option maxRecDepth 20000 in
theorem r_isRow  {r : Int32} {h : cm_H} : cm_ct D mX7_isRow (d + 1) 0 0 [.int r] h (fun r9 h9 => r9 = some (.int (cm_bi (uIn r 0 5))) ∧ h9 = h) := by
  refine cm_ct_of (ls := [some (.int r)]) 0 (by decide +kernel) rfl rfl ?_
  refine cm_iload0 (pc := 0) dX7_isRow_0 ?_
  refine cm_iconst (pc := 1) (v := 0) dX7_isRow_1 (by decide) ?_
  refine cm_iconst (pc := 2) (v := 5) dX7_isRow_2 (by decide) ?_
  refine cm_S3 (pc := 3) mX7_in_s mlX7_83 dX7_isRow_3 (by omega) (Nat.le_of_ble_eq_true rfl) (Nat.le_refl _) (Nat.le_refl _) (r_in (d := d)) (fun r3 h3 hq3 => ?_)
  obtain ⟨rfl, rfl⟩ := hq3
  exact cm_zret (pc := 6) dX7_isRow_6 rfl (cm_nb _) ⟨rfl, rfl⟩
set_option maxRecDepth 20000 in
theorem r_isText  {r : Int32} {h : cm_H} : cm_ct D mX7_isText (d + 1) 0 0 [.int r] h (fun r9 h9 => r9 = some (.int (cm_bi (uIn r 0 3))) ∧ h9 = h) := by
  refine cm_ct_of (ls := [some (.int r)]) 0 (by decide +kernel) rfl rfl ?_
  refine cm_iload0 (pc := 0) dX7_isText_0 ?_
  refine cm_iconst (pc := 1) (v := 0) dX7_isText_1 (by decide) ?_
  refine cm_iconst (pc := 2) (v := 3) dX7_isText_2 (by decide) ?_
  refine cm_S3 (pc := 3) mX7_in_s mlX7_83 dX7_isText_3 (by omega) (Nat.le_of_ble_eq_true rfl) (Nat.le_refl _) (Nat.le_refl _) (r_in (d := d)) (fun r3 h3 hq3 => ?_)
  obtain ⟨rfl, rfl⟩ := hq3
  exact cm_zret (pc := 6) dX7_isText_6 rfl (cm_nb _) ⟨rfl, rfl⟩
set_option maxRecDepth 20000 in
theorem r_kindOf  {x : Int32} {h : cm_H} : cm_ct D mX7_kindOf d 0 0 [.int x] h (fun r9 h9 => r9 = some (.int (pKind x)) ∧ h9 = h) := by
  refine cm_ct_of (ls := [some (.int x)]) 0 (by decide +kernel) rfl rfl ?_
  refine cm_iload0 (pc := 0) dX7_kindOf_0 ?_
  refine cm_bipush (pc := 1) (v := 98) dX7_kindOf_1 (by decide) ?_
  refine cm_icmp_ne (pc := 3) (tgt := 10) dX7_kindOf_3 (by decide) (fun c3 => ?_) (fun c3 => ?_)
  · refine cm_iload0 (pc := 10) dX7_kindOf_10 ?_
    refine cm_bipush (pc := 11) (v := 114) dX7_kindOf_11 (by decide) ?_
    refine cm_icmp_ne (pc := 13) (tgt := 20) dX7_kindOf_13 (by decide) (fun c13 => ?_) (fun c13 => ?_)
    · refine cm_iload0 (pc := 20) dX7_kindOf_20 ?_
      refine cm_bipush (pc := 21) (v := 100) dX7_kindOf_21 (by decide) ?_
      refine cm_icmp_ne (pc := 23) (tgt := 30) dX7_kindOf_23 (by decide) (fun c23 => ?_) (fun c23 => ?_)
      · refine cm_iload0 (pc := 30) dX7_kindOf_30 ?_
        refine cm_bipush (pc := 31) (v := 99) dX7_kindOf_31 (by decide) ?_
        refine cm_icmp_ne (pc := 33) (tgt := 40) dX7_kindOf_33 (by decide) (fun c33 => ?_) (fun c33 => ?_)
        · refine cm_iload0 (pc := 40) dX7_kindOf_40 ?_
          refine cm_bipush (pc := 41) (v := 116) dX7_kindOf_41 (by decide) ?_
          refine cm_icmp_ne (pc := 43) (tgt := 50) dX7_kindOf_43 (by decide) (fun c43 => ?_) (fun c43 => ?_)
          · refine cm_iload0 (pc := 50) dX7_kindOf_50 ?_
            refine cm_bipush (pc := 51) (v := 112) dX7_kindOf_51 (by decide) ?_
            refine cm_icmp_ne (pc := 53) (tgt := 60) dX7_kindOf_53 (by decide) (fun c53 => ?_) (fun c53 => ?_)
            · refine cm_bipush (pc := 60) (v := -9) dX7_kindOf_60 (by decide) ?_
              exact cm_iret (pc := 62) dX7_kindOf_62 rfl ⟨by simp [pKind, *], rfl⟩
            · refine cm_iconst (pc := 56) (v := 5) dX7_kindOf_56 (by decide) ?_
              refine cm_goto (pc := 57) (tgt := 62) dX7_kindOf_57 (by decide) ?_
              exact cm_iret (pc := 62) dX7_kindOf_62 rfl ⟨by simp [pKind, *], rfl⟩
          · refine cm_iconst (pc := 46) (v := 4) dX7_kindOf_46 (by decide) ?_
            refine cm_goto (pc := 47) (tgt := 62) dX7_kindOf_47 (by decide) ?_
            exact cm_iret (pc := 62) dX7_kindOf_62 rfl ⟨by simp [pKind, *], rfl⟩
        · refine cm_iconst (pc := 36) (v := 3) dX7_kindOf_36 (by decide) ?_
          refine cm_goto (pc := 37) (tgt := 62) dX7_kindOf_37 (by decide) ?_
          exact cm_iret (pc := 62) dX7_kindOf_62 rfl ⟨by simp [pKind, *], rfl⟩
      · refine cm_iconst (pc := 26) (v := 2) dX7_kindOf_26 (by decide) ?_
        refine cm_goto (pc := 27) (tgt := 62) dX7_kindOf_27 (by decide) ?_
        exact cm_iret (pc := 62) dX7_kindOf_62 rfl ⟨by simp [pKind, *], rfl⟩
    · refine cm_iconst (pc := 16) (v := 1) dX7_kindOf_16 (by decide) ?_
      refine cm_goto (pc := 17) (tgt := 62) dX7_kindOf_17 (by decide) ?_
      exact cm_iret (pc := 62) dX7_kindOf_62 rfl ⟨by simp [pKind, *], rfl⟩
  · refine cm_iconst (pc := 6) (v := 0) dX7_kindOf_6 (by decide) ?_
    refine cm_goto (pc := 7) (tgt := 62) dX7_kindOf_7 (by decide) ?_
    exact cm_iret (pc := 62) dX7_kindOf_62 rfl ⟨by simp [pKind, *], rfl⟩
set_option maxRecDepth 20000 in
theorem l_rsz {s : Int32} {h : cm_H} : ∀ q k : Nat, k + q = 10 → cm_g D mX7_sizeOf d 0 0 (fun r9 h9 => r9 = some (.int (uSz s 10)) ∧ h9 = h) 0 0 4 [some (.int s), some (.int (uSz s k)), some (.int (nI k))] [] h := by
  intro q
  induction q with
  | zero =>
    intro k hk
    have h1 : k = 10 := by omega
    subst h1
    refine cm_iload2 (pc := 4) dX7_sizeOf_4 ?_
    refine cm_bipush (pc := 5) (v := 10) dX7_sizeOf_5 (by decide) ?_
    refine cm_icmp_ge (pc := 7) (tgt := 24) dX7_sizeOf_7 (by decide) (fun c7 => ?_) (fun q => absurd (by decide) q)
    refine cm_iload1 (pc := 24) dX7_sizeOf_24 ?_
    exact cm_iret (pc := 25) dX7_sizeOf_25 rfl ⟨rfl, rfl⟩
  | succ q ih =>
    intro k hk
    have hst := ih (k + 1) (by omega)
    refine cm_iload2 (pc := 4) dX7_sizeOf_4 ?_
    refine cm_bipush (pc := 5) (v := 10) dX7_sizeOf_5 (by decide) ?_
    refine cm_icmp_ge (pc := 7) (tgt := 24) dX7_sizeOf_7 (by decide) (fun q => absurd q (nI_ge (a := k) (b := 10) (by omega) (by omega))) (fun c7 => ?_)
    refine cm_iload1 (pc := 10) dX7_sizeOf_10 ?_
    refine cm_iload0 (pc := 11) dX7_sizeOf_11 ?_
    refine cm_iload2 (pc := 12) dX7_sizeOf_12 ?_
    refine cm_ishr (pc := 13) dX7_sizeOf_13 ?_
    refine cm_iconst (pc := 14) (v := 1) dX7_sizeOf_14 (by decide) ?_
    refine cm_iand (pc := 15) dX7_sizeOf_15 ?_
    refine cm_iadd (pc := 16) dX7_sizeOf_16 ?_
    refine cm_istore1 (pc := 17) dX7_sizeOf_17 (by decide) rfl ?_
    refine cm_incN2 (pc := 18) dX7_sizeOf_18 (by decide) rfl ?_
    refine cm_goto (pc := 21) (tgt := 4) dX7_sizeOf_21 (by decide) ?_
    exact hst
set_option maxRecDepth 20000 in
theorem r_sizeOf {s : Int32} {h : cm_H} : cm_ct D mX7_sizeOf d 0 0 [.int s] h (fun r9 h9 => r9 = some (.int (uSz s 10)) ∧ h9 = h) := by
  refine cm_ct_of (ls := [some (.int s), none, none]) 2 (by decide +kernel) rfl rfl ?_
  refine cm_iconst (pc := 0) (v := 0) dX7_sizeOf_0 (by decide) ?_
  refine cm_istore1 (pc := 1) dX7_sizeOf_1 (by decide) rfl ?_
  refine cm_iconst (pc := 2) (v := 0) dX7_sizeOf_2 (by decide) ?_
  refine cm_istore2 (pc := 3) dX7_sizeOf_3 (by decide) rfl ?_
  exact l_rsz 10 0 (by omega)
set_option maxRecDepth 20000 in
theorem r_meet (hE : cm_mdl sh hr e) {f : Nat} (hf : f < 6) : cm_ct D mX7_meet d 0 0 [.ref e, .int (nI f)] (sh, cm_us hi e u, hl, hr) (fun r9 h9 => r9 = some (.int (-3)) ∧ h9 = (sh, cm_us hi e (uMeet u f), hl, hr)) := by
  refine cm_ct_of (ls := [some (.ref e), some (.int (nI f))]) 0 (by decide +kernel) rfl rfl ?_
  refine cm_aload0 (pc := 0) dX7_meet_0 ?_
  refine cm_iload1 (pc := 1) dX7_meet_1 ?_
  refine mk_set (pc := 2) fpX7_76 dX7_meet_2 hE.1 ?_
  refine cm_aload0 (pc := 5) dX7_meet_5 ?_
  refine cm_getR (pc := 6) flX7_7 dX7_meet_6 hE.1 hE.r1 ?_
  refine cm_iload1 (pc := 9) dX7_meet_9 ?_
  refine cm_dup2 (pc := 10) dX7_meet_10 rfl rfl ?_
  refine mk_get (pc := 11) dX7_meet_11 hE.a1 (by omega) (by decide) ?_
  refine cm_iconst (pc := 12) (v := 1) dX7_meet_12 (by decide) ?_
  refine cm_iadd (pc := 13) dX7_meet_13 ?_
  refine mk_put (pc := 14) dX7_meet_14 hE.a1 (by omega) (by decide) ?_
  refine cm_bipush (pc := 15) (v := -3) dX7_meet_15 (by decide) ?_
  exact cm_iret (pc := 17) dX7_meet_17 rfl ⟨rfl, rfl⟩
set_option maxRecDepth 20000 in
theorem r_ask (hE : cm_mdl sh hr e) {v w : Int32} : cm_ct D mX7_ask d 0 0 [.ref e, .int v, .int w] (sh, cm_us hi e u, hl, hr) (fun r9 h9 => r9 = some (.int w) ∧ h9 = (sh, cm_us hi e (uAsk u v), hl, hr)) := by
  refine cm_ct_of (ls := [some (.ref e), some (.int v), some (.int w)]) 0 (by decide +kernel) rfl rfl ?_
  refine cm_aload0 (pc := 0) dX7_ask_0 ?_
  refine cm_iload1 (pc := 1) dX7_ask_1 ?_
  refine mk_set (pc := 2) fpX7_80 dX7_ask_2 hE.1 ?_
  refine cm_iload2 (pc := 5) dX7_ask_5 ?_
  exact cm_iret (pc := 6) dX7_ask_6 rfl ⟨rfl, rfl⟩
set_option maxRecDepth 20000 in
theorem r_askedRow (hE : cm_mdl sh hr e) {r : Int32} : cm_ct D mX7_askedRow (d + 2) 0 0 [.ref e, .int r] (sh, cm_us hi e u, hl, hr) (fun r9 h9 => r9 = some (.int (uAR u r).1) ∧ h9 = (sh, cm_us hi e (uAR u r).2, hl, hr)) := by
  refine cm_ct_of (ls := [some (.ref e), some (.int r)]) 0 (by decide +kernel) rfl rfl ?_
  refine cm_iload1 (pc := 0) dX7_askedRow_0 ?_
  refine cm_S1 (pc := 1) mX7_isRow_s mlX7_87 dX7_askedRow_1 (by omega) (Nat.le_of_ble_eq_true rfl) (Nat.le_refl _) (Nat.le_refl _) (r_isRow (d := d) ) (fun r1 h1 hq1 => ?_)
  obtain ⟨rfl, rfl⟩ := hq1
  refine cm_ifneB (pc := 4) (tgt := 11) dX7_askedRow_4 (by decide) (fun c4 => ?_) (fun c4 => ?_)
  · obtain ⟨j, hj, rfl⟩ := uIn_ex 5 c4
    have hjc : (nI j).toNatClampNeg = j := nI_clamp (by omega)
    refine cm_aload0 (pc := 11) dX7_askedRow_11 ?_
    refine cm_getR (pc := 12) flX7_13 dX7_askedRow_12 hE.1 hE.r3 ?_
    refine cm_iload1 (pc := 15) dX7_askedRow_15 ?_
    refine mk_get (pc := 16) dX7_askedRow_16 hE.a2 (by omega) (by decide) ?_
    refine cm_if_ge (pc := 17) (tgt := 28) dX7_askedRow_17 (by decide) (fun c17 => ?_) (fun c17 => ?_)
    · refine cm_iconst (pc := 28) (v := 0) dX7_askedRow_28 (by decide) ?_
      exact cm_iret (pc := 29) dX7_askedRow_29 rfl ⟨by simp [uAR, *], by simp [uAR, *]⟩
    · refine cm_aload0 (pc := 20) dX7_askedRow_20 ?_
      refine cm_iconst (pc := 21) (v := 1) dX7_askedRow_21 (by decide) ?_
      refine cm_V1 (pc := 22) mX7_meet_v mlX7_91 dX7_askedRow_22 hE.1 (by omega) (Nat.le_of_ble_eq_true rfl) (Nat.le_refl _) (Nat.le_refl _) (r_meet (d := d + 1) hE (f := 1) (by decide)) (fun r22 h22 hq22 => ?_)
      obtain ⟨rfl, rfl⟩ := hq22
      refine cm_goto (pc := 25) (tgt := 29) dX7_askedRow_25 (by decide) ?_
      exact cm_iret (pc := 29) dX7_askedRow_29 rfl ⟨by simp [uAR, *], by simp [uAR, *]⟩
  · refine cm_iconst (pc := 7) (v := -1) dX7_askedRow_7 (by decide) ?_
    refine cm_goto (pc := 8) (tgt := 29) dX7_askedRow_8 (by decide) ?_
    exact cm_iret (pc := 29) dX7_askedRow_29 rfl ⟨by simp [uAR, *], by simp [uAR, *]⟩
set_option maxRecDepth 20000 in
theorem r_askedText (hE : cm_mdl sh hr e) {r : Int32} : cm_ct D mX7_askedText (d + 2) 0 0 [.ref e, .int r] (sh, cm_us hi e u, hl, hr) (fun r9 h9 => r9 = some (.int (uAT u r).1) ∧ h9 = (sh, cm_us hi e (uAT u r).2, hl, hr)) := by
  refine cm_ct_of (ls := [some (.ref e), some (.int r)]) 0 (by decide +kernel) rfl rfl ?_
  refine cm_iload1 (pc := 0) dX7_askedText_0 ?_
  refine cm_S1 (pc := 1) mX7_isText_s mlX7_95 dX7_askedText_1 (by omega) (Nat.le_of_ble_eq_true rfl) (Nat.le_refl _) (Nat.le_refl _) (r_isText (d := d) ) (fun r1 h1 hq1 => ?_)
  obtain ⟨rfl, rfl⟩ := hq1
  refine cm_ifneB (pc := 4) (tgt := 11) dX7_askedText_4 (by decide) (fun c4 => ?_) (fun c4 => ?_)
  · obtain ⟨j, hj, rfl⟩ := uIn_ex 3 c4
    have hjc : (nI j).toNatClampNeg = j := nI_clamp (by omega)
    refine cm_aload0 (pc := 11) dX7_askedText_11 ?_
    refine cm_getR (pc := 12) flX7_22 dX7_askedText_12 hE.1 hE.r6 ?_
    refine cm_iload1 (pc := 15) dX7_askedText_15 ?_
    refine mk_get (pc := 16) dX7_askedText_16 hE.a5 (by omega) (by decide) ?_
    refine cm_if_ge (pc := 17) (tgt := 28) dX7_askedText_17 (by decide) (fun c17 => ?_) (fun c17 => ?_)
    · refine cm_iconst (pc := 28) (v := 0) dX7_askedText_28 (by decide) ?_
      exact cm_iret (pc := 29) dX7_askedText_29 rfl ⟨by simp [uAT, *], by simp [uAT, *]⟩
    · refine cm_aload0 (pc := 20) dX7_askedText_20 ?_
      refine cm_iconst (pc := 21) (v := 1) dX7_askedText_21 (by decide) ?_
      refine cm_V1 (pc := 22) mX7_meet_v mlX7_91 dX7_askedText_22 hE.1 (by omega) (Nat.le_of_ble_eq_true rfl) (Nat.le_refl _) (Nat.le_refl _) (r_meet (d := d + 1) hE (f := 1) (by decide)) (fun r22 h22 hq22 => ?_)
      obtain ⟨rfl, rfl⟩ := hq22
      refine cm_goto (pc := 25) (tgt := 29) dX7_askedText_25 (by decide) ?_
      exact cm_iret (pc := 29) dX7_askedText_29 rfl ⟨by simp [uAT, *], by simp [uAT, *]⟩
  · refine cm_iconst (pc := 7) (v := -1) dX7_askedText_7 (by decide) ?_
    refine cm_goto (pc := 8) (tgt := 29) dX7_askedText_8 (by decide) ?_
    exact cm_iret (pc := 29) dX7_askedText_29 rfl ⟨by simp [uAT, *], by simp [uAT, *]⟩
set_option maxRecDepth 20000 in
theorem r_rowAt (hE : cm_mdl sh hr e) {r i : Nat} (h1 : r < 6) (h2 : i < 40) : cm_ct D mX7_rowAt d 0 0 [.ref e, .int (nI r), .int (nI i)] (sh, cm_us hi e u, hl, hr) (fun r9 h9 => r9 = some (.int (u 3 (40 * r + i))) ∧ h9 = (sh, cm_us hi e u, hl, hr)) := by
  refine cm_ct_of (ls := [some (.ref e), some (.int (nI r)), some (.int (nI i))]) 0 (by decide +kernel) rfl rfl ?_
  refine cm_aload0 (pc := 0) dX7_rowAt_0 ?_
  refine cm_getR (pc := 1) flX7_16 dX7_rowAt_1 hE.1 hE.r4 ?_
  refine cm_bipush (pc := 4) (v := 40) dX7_rowAt_4 (by decide) ?_
  refine cm_iload1 (pc := 6) dX7_rowAt_6 ?_
  refine cm_imul (pc := 7) dX7_rowAt_7 ?_
  refine cm_iload2 (pc := 8) dX7_rowAt_8 ?_
  refine cm_iadd (pc := 9) dX7_rowAt_9 ?_
  refine mk_getE (pc := 10) (40 * r + i) dX7_rowAt_10 hE.a3 (uix 40 r i) (by omega) (by decide) ?_
  exact cm_iret (pc := 11) dX7_rowAt_11 rfl ⟨rfl, rfl⟩
set_option maxRecDepth 20000 in
theorem r_setRow (hE : cm_mdl sh hr e) {r i : Nat} {v : Int32} (h1 : r < 6) (h2 : i < 40) : cm_ct D mX7_setRow d 0 0 [.ref e, .int (nI r), .int (nI i), .int v] (sh, cm_us hi e u, hl, hr) (fun r9 h9 => r9 = none ∧ h9 = (sh, cm_us hi e (va_up u 3 (upd (u 3) (40 * r + i) v)), hl, hr)) := by
  refine cm_ct_of (ls := [some (.ref e), some (.int (nI r)), some (.int (nI i)), some (.int v)]) 0 (by decide +kernel) rfl rfl ?_
  refine cm_aload0 (pc := 0) dX7_setRow_0 ?_
  refine cm_getR (pc := 1) flX7_16 dX7_setRow_1 hE.1 hE.r4 ?_
  refine cm_bipush (pc := 4) (v := 40) dX7_setRow_4 (by decide) ?_
  refine cm_iload1 (pc := 6) dX7_setRow_6 ?_
  refine cm_imul (pc := 7) dX7_setRow_7 ?_
  refine cm_iload2 (pc := 8) dX7_setRow_8 ?_
  refine cm_iadd (pc := 9) dX7_setRow_9 ?_
  refine cm_iload3 (pc := 10) dX7_setRow_10 ?_
  refine mk_putE (pc := 11) (40 * r + i) dX7_setRow_11 hE.a3 (uix 40 r i) (by omega) (by decide) ?_
  exact cm_vret (pc := 12) dX7_setRow_12 rfl ⟨rfl, rfl⟩
set_option maxRecDepth 20000 in
theorem l_rrow (hE : cm_mdl sh hr e) {V : cm_g2} {j : Nat} {n : Int32} (hj : j < 6) : ∀ q k : Nat, k + q = 40 → cm_g D mX7_row (d + 2) 0 0 (fun r9 h9 => r9 = some (.int n) ∧ h9 = (sh, cm_us hi e (va_up V 3 (fun x => if 40 * j ≤ x ∧ x < 40 * j + 40 then 0 else V 3 x)), hl, hr)) 0 0 34 [some (.ref e), some (.int (nI j)), some (.int n), some (.int (nI k))] [] (sh, cm_us hi e (va_up V 3 (fun x => if 40 * j ≤ x ∧ x < 40 * j + k then 0 else V 3 x)), hl, hr) := by
  intro q
  induction q with
  | zero =>
    intro k hk
    have h1 : k = 40 := by omega
    subst h1
    refine cm_iload3 (pc := 34) dX7_row_34 ?_
    refine cm_bipush (pc := 35) (v := 40) dX7_row_35 (by decide) ?_
    refine cm_icmp_ge (pc := 37) (tgt := 53) dX7_row_37 (by decide) (fun c37 => ?_) (fun q => absurd (by decide) q)
    refine cm_iload2 (pc := 53) dX7_row_53 ?_
    exact cm_iret (pc := 54) dX7_row_54 rfl ⟨rfl, rfl⟩
  | succ q ih =>
    intro k hk
    have hst := ih (k + 1) (by omega)
    refine cm_iload3 (pc := 34) dX7_row_34 ?_
    refine cm_bipush (pc := 35) (v := 40) dX7_row_35 (by decide) ?_
    refine cm_icmp_ge (pc := 37) (tgt := 53) dX7_row_37 (by decide) (fun q => absurd q (nI_ge (a := k) (b := 40) (by omega) (by omega))) (fun c37 => ?_)
    refine cm_aload0 (pc := 40) dX7_row_40 ?_
    refine cm_iload1 (pc := 41) dX7_row_41 ?_
    refine cm_iload3 (pc := 42) dX7_row_42 ?_
    refine cm_iconst (pc := 43) (v := 0) dX7_row_43 (by decide) ?_
    refine cm_V3 (pc := 44) mX7_setRow_v mlX7_98 dX7_row_44 hE.1 (by omega) (Nat.le_of_ble_eq_true rfl) (Nat.le_refl _) (Nat.le_refl _) (r_setRow (d := d + 1) hE hj (by omega)) (fun r44 h44 hq44 => ?_)
    obtain ⟨rfl, rfl⟩ := hq44
    rw [show va_up (va_up V 3 (fun x => if 40 * j ≤ x ∧ x < 40 * j + k then 0 else V 3 x)) 3 (upd ((va_up V 3 (fun x => if 40 * j ≤ x ∧ x < 40 * j + k then 0 else V 3 x)) 3) (40 * j + k) 0) = va_up V 3 (fun x => if 40 * j ≤ x ∧ x < 40 * j + (k + 1) then 0 else V 3 x) by
      rw [va_up_self, bx_uu]
      congr 1
      funext x
      unfold upd
      by_cases q9 : x = 40 * j + k
      · rw [if_pos q9, if_pos (by omega)]
      · rw [if_neg q9]
        show (if 40 * j ≤ x ∧ x < 40 * j + k then (0 : Int32) else V 3 x) = _
        by_cases q8 : 40 * j ≤ x ∧ x < 40 * j + k
        · rw [if_pos q8, if_pos (by omega)]
        · rw [if_neg q8, if_neg (by omega)]]
    refine cm_incN3 (pc := 47) dX7_row_47 (by decide) rfl ?_
    refine cm_goto (pc := 50) (tgt := 34) dX7_row_50 (by decide) ?_
    exact hst
set_option maxRecDepth 20000 in
theorem l_rtext (hE : cm_mdl sh hr e) {V : cm_g2} {j : Nat} {n : Int32} (hj : j < 4) : ∀ q k : Nat, k + q = 80 → cm_g D mX7_text (d + 2) 0 0 (fun r9 h9 => r9 = some (.int n) ∧ h9 = (sh, cm_us hi e (va_up V 6 (fun x => if 80 * j ≤ x ∧ x < 80 * j + 80 then 32 else V 6 x)), hl, hr)) 0 0 34 [some (.ref e), some (.int (nI j)), some (.int n), some (.int (nI k))] [] (sh, cm_us hi e (va_up V 6 (fun x => if 80 * j ≤ x ∧ x < 80 * j + k then 32 else V 6 x)), hl, hr) := by
  intro q
  induction q with
  | zero =>
    intro k hk
    have h1 : k = 80 := by omega
    subst h1
    refine cm_iload3 (pc := 34) dX7_text_34 ?_
    refine cm_bipush (pc := 35) (v := 80) dX7_text_35 (by decide) ?_
    refine cm_icmp_ge (pc := 37) (tgt := 59) dX7_text_37 (by decide) (fun c37 => ?_) (fun q => absurd (by decide) q)
    refine cm_iload2 (pc := 59) dX7_text_59 ?_
    exact cm_iret (pc := 60) dX7_text_60 rfl ⟨rfl, rfl⟩
  | succ q ih =>
    intro k hk
    have hst := ih (k + 1) (by omega)
    refine cm_iload3 (pc := 34) dX7_text_34 ?_
    refine cm_bipush (pc := 35) (v := 80) dX7_text_35 (by decide) ?_
    refine cm_icmp_ge (pc := 37) (tgt := 59) dX7_text_37 (by decide) (fun q => absurd q (nI_ge (a := k) (b := 80) (by omega) (by omega))) (fun c37 => ?_)
    refine cm_aload0 (pc := 40) dX7_text_40 ?_
    refine cm_getR (pc := 41) flX7_25 dX7_text_41 hE.1 hE.r7 ?_
    refine cm_bipush (pc := 44) (v := 80) dX7_text_44 (by decide) ?_
    refine cm_iload1 (pc := 46) dX7_text_46 ?_
    refine cm_imul (pc := 47) dX7_text_47 ?_
    refine cm_iload3 (pc := 48) dX7_text_48 ?_
    refine cm_iadd (pc := 49) dX7_text_49 ?_
    refine cm_bipush (pc := 50) (v := 32) dX7_text_50 (by decide) ?_
    refine mk_putE (pc := 52) (80 * j + k) dX7_text_52 hE.a6 (uix 80 j k) (by omega) (by decide) ?_
    rw [show va_up (va_up V 6 (fun x => if 80 * j ≤ x ∧ x < 80 * j + k then 32 else V 6 x)) 6 (upd ((va_up V 6 (fun x => if 80 * j ≤ x ∧ x < 80 * j + k then 32 else V 6 x)) 6) (80 * j + k) 32) = va_up V 6 (fun x => if 80 * j ≤ x ∧ x < 80 * j + (k + 1) then 32 else V 6 x) by
      rw [va_up_self, bx_uu]
      congr 1
      funext x
      unfold upd
      by_cases q9 : x = 80 * j + k
      · rw [if_pos q9, if_pos (by omega)]
      · rw [if_neg q9]
        show (if 80 * j ≤ x ∧ x < 80 * j + k then (32 : Int32) else V 6 x) = _
        by_cases q8 : 80 * j ≤ x ∧ x < 80 * j + k
        · rw [if_pos q8, if_pos (by omega)]
        · rw [if_neg q8, if_neg (by omega)]]
    refine cm_incN3 (pc := 53) dX7_text_53 (by decide) rfl ?_
    refine cm_goto (pc := 56) (tgt := 34) dX7_text_56 (by decide) ?_
    exact hst
set_option maxRecDepth 20000 in
theorem r_row (hE : cm_mdl sh hr e) {r n : Int32} : cm_ct D mX7_row (d + 2) 0 0 [.ref e, .int r, .int n] (sh, cm_us hi e u, hl, hr) (fun r9 h9 => r9 = some (.int (uRow u r n).1) ∧ h9 = (sh, cm_us hi e (uRow u r n).2, hl, hr)) := by
  refine cm_ct_of (ls := [some (.ref e), some (.int r), some (.int n), none]) 1 (by decide +kernel) rfl rfl ?_
  refine cm_iload1 (pc := 0) dX7_row_0 ?_
  refine cm_S1 (pc := 1) mX7_isRow_s mlX7_87 dX7_row_1 (by omega) (Nat.le_of_ble_eq_true rfl) (Nat.le_refl _) (Nat.le_refl _) (r_isRow (d := d) ) (fun r1 h1 hq1 => ?_)
  obtain ⟨rfl, rfl⟩ := hq1
  refine cm_ifeqB (pc := 4) (tgt := 13) dX7_row_4 (by decide) (fun c4 => ?_) (fun c4 => ?_)
  · refine cm_iconst (pc := 13) (v := -1) dX7_row_13 (by decide) ?_
    exact cm_iret (pc := 14) dX7_row_14 rfl ⟨by simp [uRow, *], by simp [uRow, *]⟩
  · obtain ⟨j, hj, rfl⟩ := uIn_ex 5 c4
    have hjc : (nI j).toNatClampNeg = j := nI_clamp (by omega)
    refine cm_iload2 (pc := 7) dX7_row_7 ?_
    refine cm_bipush (pc := 8) (v := 40) dX7_row_8 (by decide) ?_
    refine cm_icmp_le (pc := 10) (tgt := 15) dX7_row_10 (by decide) (fun c10 => ?_) (fun c10 => ?_)
    · refine cm_iload2 (pc := 15) dX7_row_15 ?_
      refine cm_if_ge (pc := 16) (tgt := 25) dX7_row_16 (by decide) (fun c16 => ?_) (fun c16 => ?_)
      · refine cm_aload0 (pc := 25) dX7_row_25 ?_
        refine cm_getR (pc := 26) flX7_13 dX7_row_26 hE.1 hE.r3 ?_
        refine cm_iload1 (pc := 29) dX7_row_29 ?_
        refine cm_iload2 (pc := 30) dX7_row_30 ?_
        refine mk_put (pc := 31) dX7_row_31 hE.a2 (by omega) (by decide) ?_
        refine cm_iconst (pc := 32) (v := 0) dX7_row_32 (by decide) ?_
        refine cm_istore3 (pc := 33) dX7_row_33 (by decide) rfl ?_
        have hV : va_up u 2 (upd (u 2) j n) = va_up (va_up u 2 (upd (u 2) j n)) 3 (fun x => if 40 * j ≤ x ∧ x < 40 * j + 0 then 0 else (va_up u 2 (upd (u 2) j n)) 3 x) := by
          rw [show (fun x => if 40 * j ≤ x ∧ x < 40 * j + 0 then (0 : Int32) else va_up u 2 (upd (u 2) j n) 3 x) = va_up u 2 (upd (u 2) j n) 3 from funext (fun x => if_neg (by omega))]
          funext c
          by_cases q9 : c = 3
          · subst q9; rw [va_up_self]
          · rw [va_up_ne _ _ q9]
        refine cm_h_eq (show (sh, cm_us hi e (va_up u 2 (upd (u 2) j n)), hl, hr) = _ by rw [hV]) ?_
        refine cm_g_imp (fun r9 h9 q => ?_) (l_rrow hE (V := va_up u 2 (upd (u 2) j n)) (n := n) (by omega) 40 0 (by omega))
        have hsp : uRow u (nI j) n = (n, va_up (va_up u 2 (upd (u 2) j n)) 3 (fun x => if 40 * j ≤ x ∧ x < 40 * j + 40 then 0 else u 3 x)) := by
          unfold uRow
          rw [if_neg (fun w => w.elim (fun w => by rw [c4] at w; cases w) (fun w => w c10)), if_pos c16, hjc]
        rw [hsp]
        exact ⟨q.1, q.2⟩
      · refine cm_aload0 (pc := 19) dX7_row_19 ?_
        refine cm_iconst (pc := 20) (v := 5) dX7_row_20 (by decide) ?_
        refine cm_V1 (pc := 21) mX7_meet_v mlX7_91 dX7_row_21 hE.1 (by omega) (Nat.le_of_ble_eq_true rfl) (Nat.le_refl _) (Nat.le_refl _) (r_meet (d := d + 1) hE (f := 5) (by decide)) (fun r21 h21 hq21 => ?_)
        obtain ⟨rfl, rfl⟩ := hq21
        exact cm_iret (pc := 24) dX7_row_24 rfl ⟨by simp [uRow, *], by simp [uRow, *]⟩
    · refine cm_iconst (pc := 13) (v := -1) dX7_row_13 (by decide) ?_
      exact cm_iret (pc := 14) dX7_row_14 rfl ⟨by simp [uRow, *], by simp [uRow, *]⟩
set_option maxRecDepth 20000 in
theorem r_text (hE : cm_mdl sh hr e) {r n : Int32} : cm_ct D mX7_text (d + 2) 0 0 [.ref e, .int r, .int n] (sh, cm_us hi e u, hl, hr) (fun r9 h9 => r9 = some (.int (uText u r n).1) ∧ h9 = (sh, cm_us hi e (uText u r n).2, hl, hr)) := by
  refine cm_ct_of (ls := [some (.ref e), some (.int r), some (.int n), none]) 1 (by decide +kernel) rfl rfl ?_
  refine cm_iload1 (pc := 0) dX7_text_0 ?_
  refine cm_S1 (pc := 1) mX7_isText_s mlX7_95 dX7_text_1 (by omega) (Nat.le_of_ble_eq_true rfl) (Nat.le_refl _) (Nat.le_refl _) (r_isText (d := d) ) (fun r1 h1 hq1 => ?_)
  obtain ⟨rfl, rfl⟩ := hq1
  refine cm_ifeqB (pc := 4) (tgt := 13) dX7_text_4 (by decide) (fun c4 => ?_) (fun c4 => ?_)
  · refine cm_iconst (pc := 13) (v := -1) dX7_text_13 (by decide) ?_
    exact cm_iret (pc := 14) dX7_text_14 rfl ⟨by simp [uText, *], by simp [uText, *]⟩
  · obtain ⟨j, hj, rfl⟩ := uIn_ex 3 c4
    have hjc : (nI j).toNatClampNeg = j := nI_clamp (by omega)
    refine cm_iload2 (pc := 7) dX7_text_7 ?_
    refine cm_bipush (pc := 8) (v := 80) dX7_text_8 (by decide) ?_
    refine cm_icmp_le (pc := 10) (tgt := 15) dX7_text_10 (by decide) (fun c10 => ?_) (fun c10 => ?_)
    · refine cm_iload2 (pc := 15) dX7_text_15 ?_
      refine cm_if_ge (pc := 16) (tgt := 25) dX7_text_16 (by decide) (fun c16 => ?_) (fun c16 => ?_)
      · refine cm_aload0 (pc := 25) dX7_text_25 ?_
        refine cm_getR (pc := 26) flX7_22 dX7_text_26 hE.1 hE.r6 ?_
        refine cm_iload1 (pc := 29) dX7_text_29 ?_
        refine cm_iload2 (pc := 30) dX7_text_30 ?_
        refine mk_put (pc := 31) dX7_text_31 hE.a5 (by omega) (by decide) ?_
        refine cm_iconst (pc := 32) (v := 0) dX7_text_32 (by decide) ?_
        refine cm_istore3 (pc := 33) dX7_text_33 (by decide) rfl ?_
        have hV : va_up u 5 (upd (u 5) j n) = va_up (va_up u 5 (upd (u 5) j n)) 6 (fun x => if 80 * j ≤ x ∧ x < 80 * j + 0 then 32 else (va_up u 5 (upd (u 5) j n)) 6 x) := by
          rw [show (fun x => if 80 * j ≤ x ∧ x < 80 * j + 0 then (32 : Int32) else va_up u 5 (upd (u 5) j n) 6 x) = va_up u 5 (upd (u 5) j n) 6 from funext (fun x => if_neg (by omega))]
          funext c
          by_cases q9 : c = 6
          · subst q9; rw [va_up_self]
          · rw [va_up_ne _ _ q9]
        refine cm_h_eq (show (sh, cm_us hi e (va_up u 5 (upd (u 5) j n)), hl, hr) = _ by rw [hV]) ?_
        refine cm_g_imp (fun r9 h9 q => ?_) (l_rtext hE (V := va_up u 5 (upd (u 5) j n)) (n := n) (by omega) 80 0 (by omega))
        have hsp : uText u (nI j) n = (n, va_up (va_up u 5 (upd (u 5) j n)) 6 (fun x => if 80 * j ≤ x ∧ x < 80 * j + 80 then 32 else u 6 x)) := by
          unfold uText
          rw [if_neg (fun w => w.elim (fun w => by rw [c4] at w; cases w) (fun w => w c10)), if_pos c16, hjc]
        rw [hsp]
        exact ⟨q.1, q.2⟩
      · refine cm_aload0 (pc := 19) dX7_text_19 ?_
        refine cm_iconst (pc := 20) (v := 5) dX7_text_20 (by decide) ?_
        refine cm_V1 (pc := 21) mX7_meet_v mlX7_91 dX7_text_21 hE.1 (by omega) (Nat.le_of_ble_eq_true rfl) (Nat.le_refl _) (Nat.le_refl _) (r_meet (d := d + 1) hE (f := 5) (by decide)) (fun r21 h21 hq21 => ?_)
        obtain ⟨rfl, rfl⟩ := hq21
        exact cm_iret (pc := 24) dX7_text_24 rfl ⟨by simp [uText, *], by simp [uText, *]⟩
    · refine cm_iconst (pc := 13) (v := -1) dX7_text_13 (by decide) ?_
      exact cm_iret (pc := 14) dX7_text_14 rfl ⟨by simp [uText, *], by simp [uText, *]⟩
set_option maxRecDepth 20000 in
theorem r_at (hE : cm_mdl sh hr e) {r i : Int32} (hI : uInv u) : cm_ct D mX7_at (d + 3) 0 0 [.ref e, .int r, .int i] (sh, cm_us hi e u, hl, hr) (fun r9 h9 => r9 = some (.int (uAt u r i).1) ∧ h9 = (sh, cm_us hi e (uAt u r i).2, hl, hr)) := by
  refine cm_ct_of (ls := [some (.ref e), some (.int r), some (.int i), none]) 1 (by decide +kernel) rfl rfl ?_
  refine cm_aload0 (pc := 0) dX7_at_0 ?_
  refine cm_iload1 (pc := 1) dX7_at_1 ?_
  refine cm_V1 (pc := 2) mX7_askedRow_v mlX7_102 dX7_at_2 hE.1 (by omega) (Nat.le_of_ble_eq_true rfl) (Nat.le_refl _) (Nat.le_refl _) (r_askedRow (d := d) hE) (fun r2 h2 hq2 => ?_)
  obtain ⟨rfl, rfl⟩ := hq2
  refine cm_istore3 (pc := 5) dX7_at_5 (by decide) rfl ?_
  refine cm_iload3 (pc := 6) dX7_at_6 ?_
  refine cm_if_ge (pc := 7) (tgt := 12) dX7_at_7 (by decide) (fun c7 => ?_) (fun c7 => ?_)
  · have hAR : uIn r 0 5 = true ∧ 0 ≤ u 2 r.toNatClampNeg ∧ (uAR u r).2 = u := by
      by_cases w1 : uIn r 0 5 = false
      · exact absurd c7 (by rw [show (uAR u r).1 = -1 by simp [uAR, w1]]; decide)
      · by_cases w2 : 0 ≤ u 2 r.toNatClampNeg
        · exact ⟨by simpa using w1, w2, by simp [uAR, w1, w2]⟩
        · exact absurd c7 (by rw [show (uAR u r).1 = -3 by simp [uAR, w1, w2]]; decide)
    rw [hAR.2.2]
    obtain ⟨j, hj, rfl⟩ := uIn_ex 5 hAR.1
    have hjc : (nI j).toNatClampNeg = j := nI_clamp (by omega)
    obtain ⟨m, hm, hsz⟩ := (hI.1 j (by omega)).ge (by have := hAR.2.1; rw [hjc] at this; exact this)
    refine cm_iload2 (pc := 12) dX7_at_12 ?_
    refine cm_iconst (pc := 13) (v := 0) dX7_at_13 (by decide) ?_
    refine cm_aload0 (pc := 14) dX7_at_14 ?_
    refine cm_getR (pc := 15) flX7_13 dX7_at_15 hE.1 hE.r3 ?_
    refine cm_iload1 (pc := 18) dX7_at_18 ?_
    refine mk_get (pc := 19) dX7_at_19 hE.a2 (by omega) (by decide) ?_
    rw [hsz]
    refine cm_iconst (pc := 20) (v := 1) dX7_at_20 (by decide) ?_
    refine cm_isub (pc := 21) dX7_at_21 ?_
    refine cm_S3 (pc := 22) mX7_in_s mlX7_83 dX7_at_22 (by omega) (Nat.le_of_ble_eq_true rfl) (Nat.le_refl _) (Nat.le_refl _) (r_in (d := d + 2)) (fun r22 h22 hq22 => ?_)
    obtain ⟨rfl, rfl⟩ := hq22
    refine cm_ifeqB (pc := 25) (tgt := 42) dX7_at_25 (by decide) (fun c25 => ?_) (fun c25 => ?_)
    · refine cm_aload0 (pc := 42) dX7_at_42 ?_
      refine cm_iconst (pc := 43) (v := 2) dX7_at_43 (by decide) ?_
      refine cm_V1 (pc := 44) mX7_meet_v mlX7_91 dX7_at_44 hE.1 (by omega) (Nat.le_of_ble_eq_true rfl) (Nat.le_refl _) (Nat.le_refl _) (r_meet (d := d + 2) hE (f := 2) (by decide)) (fun r44 h44 hq44 => ?_)
      obtain ⟨rfl, rfl⟩ := hq44
      exact cm_iret (pc := 47) dX7_at_47 rfl ⟨by simp [uAt, c7, hjc, hsz, c25, *], by simp [uAt, c7, hjc, hsz, c25, *]⟩
    · obtain ⟨x, hx, rfl⟩ := uIn_ix c25 (by omega)
      have hxc : (nI x).toNatClampNeg = x := nI_clamp (by omega)
      refine cm_aload0 (pc := 28) dX7_at_28 ?_
      refine cm_aload0 (pc := 29) dX7_at_29 ?_
      refine cm_iload1 (pc := 30) dX7_at_30 ?_
      refine cm_iload2 (pc := 31) dX7_at_31 ?_
      refine cm_V2 (pc := 32) mX7_rowAt_v mlX7_105 dX7_at_32 hE.1 (by omega) (Nat.le_of_ble_eq_true rfl) (Nat.le_refl _) (Nat.le_refl _) (r_rowAt (d := d + 2) hE (by omega) (by omega)) (fun r32 h32 hq32 => ?_)
      obtain ⟨rfl, rfl⟩ := hq32
      refine cm_iconst (pc := 35) (v := 1) dX7_at_35 (by decide) ?_
      refine cm_V2 (pc := 36) mX7_ask_v mlX7_109 dX7_at_36 hE.1 (by omega) (Nat.le_of_ble_eq_true rfl) (Nat.le_refl _) (Nat.le_refl _) (r_ask (d := d + 2) hE) (fun r36 h36 hq36 => ?_)
      obtain ⟨rfl, rfl⟩ := hq36
      refine cm_goto (pc := 39) (tgt := 47) dX7_at_39 (by decide) ?_
      exact cm_iret (pc := 47) dX7_at_47 rfl ⟨by simp [uAt, c7, hjc, hsz, c25, *], by simp [uAt, c7, hjc, hsz, c25, *]⟩
  · refine cm_iload3 (pc := 10) dX7_at_10 ?_
    exact cm_iret (pc := 11) dX7_at_11 rfl ⟨by simp [uAt, c7], by simp [uAt, c7]⟩
set_option maxRecDepth 20000 in
theorem r_lay (hE : cm_mdl sh hr e) {r i v : Int32} (hI : uInv u) : cm_ct D mX7_lay (d + 4) 0 0 [.ref e, .int r, .int i, .int v] (sh, cm_us hi e u, hl, hr) (fun r9 h9 => r9 = some (.int (uLay u r i v).1) ∧ h9 = (sh, cm_us hi e (uLay u r i v).2, hl, hr)) := by
  refine cm_ct_of (ls := [some (.ref e), some (.int r), some (.int i), some (.int v), none]) 1 (by decide +kernel) rfl rfl ?_
  refine cm_aload0 (pc := 0) dX7_lay_0 ?_
  refine cm_iload1 (pc := 1) dX7_lay_1 ?_
  refine cm_iload2 (pc := 2) dX7_lay_2 ?_
  refine cm_V2 (pc := 3) mX7_at_v mlX7_112 dX7_lay_3 hE.1 (by omega) (Nat.le_of_ble_eq_true rfl) (Nat.le_refl _) (Nat.le_refl _) (r_at (d := d) hE hI) (fun r3 h3 hq3 => ?_)
  obtain ⟨rfl, rfl⟩ := hq3
  refine cm_istore4 (pc := 6) dX7_lay_6 (by decide) rfl ?_
  refine cm_iload4 (pc := 8) dX7_lay_8 ?_
  refine cm_if_ge (pc := 10) (tgt := 16) dX7_lay_10 (by decide) (fun c10 => ?_) (fun c10 => ?_)
  · have hAt : uIn r 0 5 = true ∧ ∃ m, m ≤ 40 ∧ u 2 r.toNatClampNeg = nI m ∧ uIn i 0 (nI m - 1) = true := by
      have c10 := c10
      unfold uAt at c10
      by_cases w0 : 0 ≤ (uAR u r).1
      · rw [if_pos w0] at c10
        by_cases w1 : uIn r 0 5 = false
        · exact absurd w0 (by rw [show (uAR u r).1 = -1 by simp [uAR, w1]]; decide)
        · have w1' : uIn r 0 5 = true := by simpa using w1
          by_cases w2 : 0 ≤ u 2 r.toNatClampNeg
          · obtain ⟨j9, hj9, e9⟩ := uIn_ex 5 w1'
            have hj9c : r.toNatClampNeg = j9 := by rw [e9]; exact nI_clamp (by omega)
            obtain ⟨m, hm, hsz⟩ := (hI.1 r.toNatClampNeg (by omega)).ge w2
            refine ⟨w1', m, hm, hsz, ?_⟩
            rw [hsz] at c10
            cases hq : uIn i 0 (nI m - 1) with
            | true => rfl
            | false =>
              rw [hq] at c10
              exact absurd (show (0 : Int32) ≤ -3 from c10) (by decide)
          · exact absurd w0 (by rw [show (uAR u r).1 = -3 by simp [uAR, w1, w2]]; decide)
      · rw [if_neg w0] at c10
        exact absurd c10 w0
    obtain ⟨hr5, m, hm, hsz, hix⟩ := hAt
    obtain ⟨j, hj, rfl⟩ := uIn_ex 5 hr5
    have hjc : (nI j).toNatClampNeg = j := nI_clamp (by omega)
    obtain ⟨x, hx, rfl⟩ := uIn_ix hix (by omega)
    have hxc : (nI x).toNatClampNeg = x := nI_clamp (by omega)
    refine cm_aload0 (pc := 16) dX7_lay_16 ?_
    refine cm_iload1 (pc := 17) dX7_lay_17 ?_
    refine cm_iload2 (pc := 18) dX7_lay_18 ?_
    refine cm_iload3 (pc := 19) dX7_lay_19 ?_
    refine cm_V3 (pc := 20) mX7_setRow_v mlX7_98 dX7_lay_20 hE.1 (by omega) (Nat.le_of_ble_eq_true rfl) (Nat.le_refl _) (Nat.le_refl _) (r_setRow (d := d + 3) hE (by omega) (by omega)) (fun r20 h20 hq20 => ?_)
    obtain ⟨rfl, rfl⟩ := hq20
    refine cm_iconst (pc := 23) (v := 1) dX7_lay_23 (by decide) ?_
    exact cm_iret (pc := 24) dX7_lay_24 rfl ⟨by simp [uLay, c10], by simp [uLay, c10, hjc, hxc]⟩
  · refine cm_iload4 (pc := 13) dX7_lay_13 ?_
    exact cm_iret (pc := 15) dX7_lay_15 rfl ⟨by simp [uLay, c10], by simp [uLay, c10]⟩
set_option maxRecDepth 20000 in
theorem r_tear (hE : cm_mdl sh hr e) {r : Int32} (hI : uInv u) : cm_ct D mX7_tear (d + 3) 0 0 [.ref e, .int r] (sh, cm_us hi e u, hl, hr) (fun r9 h9 => r9 = some (.int (uTear u r).1) ∧ h9 = (sh, cm_us hi e (uTear u r).2, hl, hr)) := by
  refine cm_ct_of (ls := [some (.ref e), some (.int r), none]) 1 (by decide +kernel) rfl rfl ?_
  refine cm_aload0 (pc := 0) dX7_tear_0 ?_
  refine cm_iload1 (pc := 1) dX7_tear_1 ?_
  refine cm_V1 (pc := 2) mX7_askedRow_v mlX7_102 dX7_tear_2 hE.1 (by omega) (Nat.le_of_ble_eq_true rfl) (Nat.le_refl _) (Nat.le_refl _) (r_askedRow (d := d) hE) (fun r2 h2 hq2 => ?_)
  obtain ⟨rfl, rfl⟩ := hq2
  refine cm_istore2 (pc := 5) dX7_tear_5 (by decide) rfl ?_
  refine cm_iload2 (pc := 6) dX7_tear_6 ?_
  refine cm_if_ge (pc := 7) (tgt := 12) dX7_tear_7 (by decide) (fun c7 => ?_) (fun c7 => ?_)
  · have hAR : uIn r 0 5 = true ∧ 0 ≤ u 2 r.toNatClampNeg ∧ (uAR u r).2 = u := by
      by_cases w1 : uIn r 0 5 = false
      · exact absurd c7 (by rw [show (uAR u r).1 = -1 by simp [uAR, w1]]; decide)
      · by_cases w2 : 0 ≤ u 2 r.toNatClampNeg
        · exact ⟨by simpa using w1, w2, by simp [uAR, w1, w2]⟩
        · exact absurd c7 (by rw [show (uAR u r).1 = -3 by simp [uAR, w1, w2]]; decide)
    rw [hAR.2.2]
    obtain ⟨j, hj, rfl⟩ := uIn_ex 5 hAR.1
    have hjc : (nI j).toNatClampNeg = j := nI_clamp (by omega)
    obtain ⟨m, hm, hsz⟩ := (hI.1 j (by omega)).ge (by have := hAR.2.1; rw [hjc] at this; exact this)
    refine cm_aload0 (pc := 12) dX7_tear_12 ?_
    refine cm_getR (pc := 13) flX7_13 dX7_tear_13 hE.1 hE.r3 ?_
    refine cm_iload1 (pc := 16) dX7_tear_16 ?_
    refine cm_bipush (pc := 17) (v := -9) dX7_tear_17 (by decide) ?_
    refine mk_put (pc := 19) dX7_tear_19 hE.a2 (by omega) (by decide) ?_
    refine cm_iconst (pc := 20) (v := 1) dX7_tear_20 (by decide) ?_
    exact cm_iret (pc := 21) dX7_tear_21 rfl ⟨by simp [uTear, c7], by simp [uTear, c7, hjc]⟩
  · refine cm_iload2 (pc := 10) dX7_tear_10 ?_
    exact cm_iret (pc := 11) dX7_tear_11 rfl ⟨by simp [uTear, c7], by simp [uTear, c7]⟩
set_option maxRecDepth 20000 in
theorem r_put (hE : cm_mdl sh hr e) {r i v : Int32} (hI : uInv u) : cm_ct D mX7_put (d + 3) 0 0 [.ref e, .int r, .int i, .int v] (sh, cm_us hi e u, hl, hr) (fun r9 h9 => r9 = some (.int (uPut u r i v).1) ∧ h9 = (sh, cm_us hi e (uPut u r i v).2, hl, hr)) := by
  refine cm_ct_of (ls := [some (.ref e), some (.int r), some (.int i), some (.int v), none, none]) 2 (by decide +kernel) rfl rfl ?_
  refine cm_aload0 (pc := 0) dX7_put_0 ?_
  refine cm_iload1 (pc := 1) dX7_put_1 ?_
  refine cm_V1 (pc := 2) mX7_askedText_v mlX7_115 dX7_put_2 hE.1 (by omega) (Nat.le_of_ble_eq_true rfl) (Nat.le_refl _) (Nat.le_refl _) (r_askedText (d := d) hE) (fun r2 h2 hq2 => ?_)
  obtain ⟨rfl, rfl⟩ := hq2
  refine cm_istore4 (pc := 5) dX7_put_5 (by decide) rfl ?_
  refine cm_iload4 (pc := 7) dX7_put_7 ?_
  refine cm_if_ge (pc := 9) (tgt := 15) dX7_put_9 (by decide) (fun c9 => ?_) (fun c9 => ?_)
  · have hAR : uIn r 0 3 = true ∧ 0 ≤ u 5 r.toNatClampNeg ∧ (uAT u r).2 = u := by
      by_cases w1 : uIn r 0 3 = false
      · exact absurd c9 (by rw [show (uAT u r).1 = -1 by simp [uAT, w1]]; decide)
      · by_cases w2 : 0 ≤ u 5 r.toNatClampNeg
        · exact ⟨by simpa using w1, w2, by simp [uAT, w1, w2]⟩
        · exact absurd c9 (by rw [show (uAT u r).1 = -3 by simp [uAT, w1, w2]]; decide)
    rw [hAR.2.2]
    obtain ⟨j, hj, rfl⟩ := uIn_ex 3 hAR.1
    have hjc : (nI j).toNatClampNeg = j := nI_clamp (by omega)
    obtain ⟨m, hm, hsz⟩ := (hI.2 j (by omega)).ge (by have := hAR.2.1; rw [hjc] at this; exact this)
    refine cm_iload2 (pc := 15) dX7_put_15 ?_
    refine cm_iconst (pc := 16) (v := 0) dX7_put_16 (by decide) ?_
    refine cm_aload0 (pc := 17) dX7_put_17 ?_
    refine cm_getR (pc := 18) flX7_22 dX7_put_18 hE.1 hE.r6 ?_
    refine cm_iload1 (pc := 21) dX7_put_21 ?_
    refine mk_get (pc := 22) dX7_put_22 hE.a5 (by omega) (by decide) ?_
    rw [hsz]
    refine cm_iconst (pc := 23) (v := 1) dX7_put_23 (by decide) ?_
    refine cm_isub (pc := 24) dX7_put_24 ?_
    refine cm_S3 (pc := 25) mX7_in_s mlX7_83 dX7_put_25 (by omega) (Nat.le_of_ble_eq_true rfl) (Nat.le_refl _) (Nat.le_refl _) (r_in (d := d + 2)) (fun r25 h25 hq25 => ?_)
    obtain ⟨rfl, rfl⟩ := hq25
    refine cm_ifneB (pc := 28) (tgt := 37) dX7_put_28 (by decide) (fun c28 => ?_) (fun c28 => ?_)
    · obtain ⟨x, hx, rfl⟩ := uIn_ix c28 (by omega)
      have hxc : (nI x).toNatClampNeg = x := nI_clamp (by omega)
      refine cm_aload0 (pc := 37) dX7_put_37 ?_
      refine cm_getR (pc := 38) flX7_25 dX7_put_38 hE.1 hE.r7 ?_
      refine cm_bipush (pc := 41) (v := 80) dX7_put_41 (by decide) ?_
      refine cm_iload1 (pc := 43) dX7_put_43 ?_
      refine cm_imul (pc := 44) dX7_put_44 ?_
      refine cm_iload2 (pc := 45) dX7_put_45 ?_
      refine cm_iadd (pc := 46) dX7_put_46 ?_
      refine mk_getE (pc := 47) (80 * j + x) dX7_put_47 hE.a6 (uix 80 j x) (by omega) (by decide) ?_
      refine cm_istore5 (pc := 48) dX7_put_48 (by decide) rfl ?_
      refine cm_aload0 (pc := 50) dX7_put_50 ?_
      refine cm_getR (pc := 51) flX7_25 dX7_put_51 hE.1 hE.r7 ?_
      refine cm_bipush (pc := 54) (v := 80) dX7_put_54 (by decide) ?_
      refine cm_iload1 (pc := 56) dX7_put_56 ?_
      refine cm_imul (pc := 57) dX7_put_57 ?_
      refine cm_iload2 (pc := 58) dX7_put_58 ?_
      refine cm_iadd (pc := 59) dX7_put_59 ?_
      refine cm_iload3 (pc := 60) dX7_put_60 ?_
      refine cm_i2b (pc := 61) dX7_put_61 ?_
      refine mk_putE (pc := 62) (80 * j + x) dX7_put_62 hE.a6 (uix 80 j x) (by omega) (by decide) ?_
      refine cm_iload5 (pc := 63) dX7_put_63 ?_
      refine cm_sipush (pc := 65) (v := 1000) dX7_put_65 (by decide) ?_
      refine cm_iadd (pc := 68) dX7_put_68 ?_
      exact cm_iret (pc := 69) dX7_put_69 rfl ⟨by simp [uPut, c9, hjc, hxc, hsz, c28], by simp [uPut, c9, hjc, hxc, hsz, c28]⟩
    · refine cm_aload0 (pc := 31) dX7_put_31 ?_
      refine cm_iconst (pc := 32) (v := 2) dX7_put_32 (by decide) ?_
      refine cm_V1 (pc := 33) mX7_meet_v mlX7_91 dX7_put_33 hE.1 (by omega) (Nat.le_of_ble_eq_true rfl) (Nat.le_refl _) (Nat.le_refl _) (r_meet (d := d + 2) hE (f := 2) (by decide)) (fun r33 h33 hq33 => ?_)
      obtain ⟨rfl, rfl⟩ := hq33
      exact cm_iret (pc := 36) dX7_put_36 rfl ⟨by simp [uPut, c9, hjc, hsz, c28], by simp [uPut, c9, hjc, hsz, c28]⟩
  · refine cm_iload4 (pc := 12) dX7_put_12 ?_
    exact cm_iret (pc := 14) dX7_put_14 rfl ⟨by simp [uPut, c9], by simp [uPut, c9]⟩
set_option maxRecDepth 20000 in
theorem l_rmean (hE : cm_mdl sh hr e) {z2 : Int32} {j m : Nat} (hj : j ≤ 5) (hm : m ≤ 40) (hsz : u 2 j = nI m) (hsp : 0 ≤ (uAR u (nI j)).1) : ∀ q k : Nat, k + q = m → cm_g D mX7_mean (d + 3) 0 0 (fun r9 h9 => r9 = some (.int (uMean u (nI j)).1) ∧ h9 = (sh, cm_us hi e (uMean u (nI j)).2, hl, hr)) 0 0 17 [some (.ref e), some (.int (nI j)), some (.int z2), some (.long (uSum (u 3) (40 * j) k)), none, some (.int (nI k))] [] (sh, cm_us hi e u, hl, hr) := by
  have hjc : (nI j).toNatClampNeg = j := nI_clamp (by omega)
  intro q
  induction q with
  | zero =>
    intro k hk
    have h1 : k = m := by omega
    subst h1
    have hkc : (nI k).toNatClampNeg = k := nI_clamp (by omega)
    refine cm_iload5 (pc := 17) dX7_mean_17 ?_
    refine cm_aload0 (pc := 19) dX7_mean_19 ?_
    refine cm_getR (pc := 20) flX7_13 dX7_mean_20 hE.1 hE.r3 ?_
    refine cm_iload1 (pc := 23) dX7_mean_23 ?_
    refine mk_get (pc := 24) dX7_mean_24 hE.a2 (by omega) (by decide) ?_
    rw [hsz]
    refine cm_geN (pc := 25) (tgt := 45) dX7_mean_25 (by decide) (by omega) (by omega) (fun c25 => ?_) (fun c25 => ?_)
    · refine cm_aload0 (pc := 45) dX7_mean_45 ?_
      refine cm_getR (pc := 46) flX7_13 dX7_mean_46 hE.1 hE.r3 ?_
      refine cm_iload1 (pc := 49) dX7_mean_49 ?_
      refine mk_get (pc := 50) dX7_mean_50 hE.a2 (by omega) (by decide) ?_
      rw [hsz]
      refine cm_if_ne (pc := 51) (tgt := 62) dX7_mean_51 (by decide) (fun c51 => ?_) (fun c51 => ?_)
      · have hm0 : ¬ nI k = 0 := c51
        refine cm_aload0 (pc := 62) dX7_mean_62 ?_
        refine cm_lload3 (pc := 63) dX7_mean_63 ?_
        refine cm_aload0 (pc := 64) dX7_mean_64 ?_
        refine cm_getR (pc := 65) flX7_13 dX7_mean_65 hE.1 hE.r3 ?_
        refine cm_iload1 (pc := 68) dX7_mean_68 ?_
        refine mk_get (pc := 69) dX7_mean_69 hE.a2 (by omega) (by decide) ?_
        rw [hsz]
        refine cm_i2l (pc := 70) dX7_mean_70 ?_
        refine cm_ldiv (pc := 71) dX7_mean_71 (i64_ne hm0) ?_
        refine cm_l2i (pc := 72) dX7_mean_72 ?_
        refine cm_iconst (pc := 73) (v := 1) dX7_mean_73 (by decide) ?_
        refine cm_V2 (pc := 74) mX7_ask_v mlX7_109 dX7_mean_74 hE.1 (by omega) (Nat.le_of_ble_eq_true rfl) (Nat.le_refl _) (Nat.le_refl _) (r_ask (d := d + 2) hE) (fun r74 h74 hq74 => ?_)
        obtain ⟨rfl, rfl⟩ := hq74
        exact cm_iret (pc := 77) dX7_mean_77 rfl ⟨by simp [uMean, hsp, hjc, hsz, hm0], by simp [uMean, hsp, hjc, hsz, hm0, hkc]⟩
      · have hm0 : nI k = 0 := c51
        refine cm_aload0 (pc := 54) dX7_mean_54 ?_
        refine cm_iconst (pc := 55) (v := 4) dX7_mean_55 (by decide) ?_
        refine cm_V1 (pc := 56) mX7_meet_v mlX7_91 dX7_mean_56 hE.1 (by omega) (Nat.le_of_ble_eq_true rfl) (Nat.le_refl _) (Nat.le_refl _) (r_meet (d := d + 2) hE (f := 4) (by decide)) (fun r56 h56 hq56 => ?_)
        obtain ⟨rfl, rfl⟩ := hq56
        refine cm_goto (pc := 59) (tgt := 77) dX7_mean_59 (by decide) ?_
        exact cm_iret (pc := 77) dX7_mean_77 rfl ⟨by simp [uMean, hsp, hjc, hsz, hm0], by simp [uMean, hsp, hjc, hsz, hm0, hkc]⟩
    · exact absurd c25 (by omega)
  | succ q ih =>
    intro k hk
    have hst := ih (k + 1) (by omega)
    refine cm_iload5 (pc := 17) dX7_mean_17 ?_
    refine cm_aload0 (pc := 19) dX7_mean_19 ?_
    refine cm_getR (pc := 20) flX7_13 dX7_mean_20 hE.1 hE.r3 ?_
    refine cm_iload1 (pc := 23) dX7_mean_23 ?_
    refine mk_get (pc := 24) dX7_mean_24 hE.a2 (by omega) (by decide) ?_
    rw [hsz]
    refine cm_geN (pc := 25) (tgt := 45) dX7_mean_25 (by decide) (by omega) (by omega) (fun c25 => ?_) (fun c25 => ?_)
    · exact absurd c25 (by omega)
    · refine cm_lload3 (pc := 28) dX7_mean_28 ?_
      refine cm_aload0 (pc := 29) dX7_mean_29 ?_
      refine cm_iload1 (pc := 30) dX7_mean_30 ?_
      refine cm_iload5 (pc := 31) dX7_mean_31 ?_
      refine cm_V2 (pc := 33) mX7_rowAt_v mlX7_105 dX7_mean_33 hE.1 (by omega) (Nat.le_of_ble_eq_true rfl) (Nat.le_refl _) (Nat.le_refl _) (r_rowAt (d := d + 2) hE (by omega) (by omega)) (fun r33 h33 hq33 => ?_)
      obtain ⟨rfl, rfl⟩ := hq33
      refine cm_i2l (pc := 36) dX7_mean_36 ?_
      refine cm_ladd (pc := 37) dX7_mean_37 ?_
      refine cm_lstore3 (pc := 38) dX7_mean_38 (by decide) rfl ?_
      refine cm_incN5 (pc := 39) dX7_mean_39 (by decide) rfl ?_
      refine cm_goto (pc := 42) (tgt := 17) dX7_mean_42 (by decide) ?_
      exact hst
set_option maxRecDepth 20000 in
theorem r_mean (hE : cm_mdl sh hr e) {r : Int32} (hI : uInv u) : cm_ct D mX7_mean (d + 3) 0 0 [.ref e, .int r] (sh, cm_us hi e u, hl, hr) (fun r9 h9 => r9 = some (.int (uMean u r).1) ∧ h9 = (sh, cm_us hi e (uMean u r).2, hl, hr)) := by
  refine cm_ct_of (ls := [some (.ref e), some (.int r), none, none, none, none]) 4 (by decide +kernel) rfl rfl ?_
  refine cm_aload0 (pc := 0) dX7_mean_0 ?_
  refine cm_iload1 (pc := 1) dX7_mean_1 ?_
  refine cm_V1 (pc := 2) mX7_askedRow_v mlX7_102 dX7_mean_2 hE.1 (by omega) (Nat.le_of_ble_eq_true rfl) (Nat.le_refl _) (Nat.le_refl _) (r_askedRow (d := d) hE) (fun r2 h2 hq2 => ?_)
  obtain ⟨rfl, rfl⟩ := hq2
  refine cm_istore2 (pc := 5) dX7_mean_5 (by decide) rfl ?_
  refine cm_iload2 (pc := 6) dX7_mean_6 ?_
  refine cm_if_ge (pc := 7) (tgt := 12) dX7_mean_7 (by decide) (fun c7 => ?_) (fun c7 => ?_)
  · have hAR : uIn r 0 5 = true ∧ 0 ≤ u 2 r.toNatClampNeg ∧ (uAR u r).2 = u := by
      by_cases w1 : uIn r 0 5 = false
      · exact absurd c7 (by rw [show (uAR u r).1 = -1 by simp [uAR, w1]]; decide)
      · by_cases w2 : 0 ≤ u 2 r.toNatClampNeg
        · exact ⟨by simpa using w1, w2, by simp [uAR, w1, w2]⟩
        · exact absurd c7 (by rw [show (uAR u r).1 = -3 by simp [uAR, w1, w2]]; decide)
    rw [hAR.2.2]
    obtain ⟨j, hj, rfl⟩ := uIn_ex 5 hAR.1
    have hjc : (nI j).toNatClampNeg = j := nI_clamp (by omega)
    obtain ⟨m, hm, hsz⟩ := (hI.1 j (by omega)).ge (by have := hAR.2.1; rw [hjc] at this; exact this)
    refine cm_lconst (pc := 12) (v := 0) dX7_mean_12 (by decide) ?_
    refine cm_lstore3 (pc := 13) dX7_mean_13 (by decide) rfl ?_
    refine cm_iconst (pc := 14) (v := 0) dX7_mean_14 (by decide) ?_
    refine cm_istore5 (pc := 15) dX7_mean_15 (by decide) rfl ?_
    exact l_rmean hE hj hm hsz c7 m 0 (by omega)
  · refine cm_iload2 (pc := 10) dX7_mean_10 ?_
    exact cm_iret (pc := 11) dX7_mean_11 rfl ⟨by simp [uMean, c7], by simp [uMean, c7]⟩
def uCopy (u : cm_g2) (r i to j n : Int32) (o : Int32 × cm_g2) : Prop := if uIn r 0 5 = false ∨ uIn to 0 5 = false then o = (-1, u) else if 0 ≤ n then (if 0 ≤ u 2 r.toNatClampNeg ∧ 0 ≤ u 2 to.toNatClampNeg then (if 0 ≤ i ∧ 0 ≤ j ∧ lg_cmp (i.toInt64 + n.toInt64) (u 2 r.toNatClampNeg).toInt64 ≤ 0 ∧ lg_cmp (j.toInt64 + n.toInt64) (u 2 to.toNatClampNeg).toInt64 ≤ 0 then ∃ f, o = (1, va_up (va_up u 4 f) 3 (fun x => if 40 * to.toNatClampNeg + j.toNatClampNeg ≤ x ∧ x < 40 * to.toNatClampNeg + j.toNatClampNeg + n.toNatClampNeg then u 3 (40 * r.toNatClampNeg + i.toNatClampNeg + (x - (40 * to.toNatClampNeg + j.toNatClampNeg))) else u 3 x)) else o = (-3, uMeet u 2)) else o = (-3, uMeet u 1)) else o = (-3, uMeet u 5)
end UR
