/-! PART market3: Market: facts, sums, shifts, holders, what the reader adds -/
def cFB (g : cm_g2) (i : Nat) (w : Int32) : Int32 := if w = 0 then g 5 i else if w = 1 then g 6 i else if w = 2 then (if g 7 i = 4 then -9 else g 7 i) else g 8 i
def cFS (g : cm_g2) (k : Nat) (w : Int32) : Int32 := if w = 0 then g 1 k else if w = 1 then g 2 k else if w = 2 then g 3 k else g 4 k
def cPack (g : cm_g2) : Nat → Int64
  | 0 => 0
  | k + 1 => (cPack g k * 20 + (g 6 k).toInt64) * 5 + (g 7 k).toInt64
def cDigF (f : Int32 → Int32) (h : Int64) : Nat → Int64
  | 0 => h
  | w + 1 => 31 * cDigF f h w + (f (nI w)).toInt64
def cDigB (g : cm_g2) (h : Int64) : Nat → Int64
  | 0 => h
  | i + 1 => cDigF (cFB g i) (cDigB g h i) 4
def cDigS (g : cm_g2) (h : Int64) : Nat → Int64
  | 0 => h
  | i + 1 => cDigF (cFS g i) (cDigS g h i) 4
def cShift (g : cm_g2) (nb : Nat) (way : Int32) : Bool := decide (0 < nb) && mCan g (some 0) (some (nb - 1)) way
def cBS (g : cm_g2) (nb ns : Nat) : Nat → Int32 × Int32
  | 0 => (0, bitC (mShs g nb (mSun g) ns))
  | k + 1 => if (cBS g nb ns k).2 < bitC (mShs g nb (mSun g + (nI k - g 6 0)) ns) ∨ (bitC (mShs g nb (mSun g + (nI k - g 6 0)) ns) = (cBS g nb ns k).2 ∧ cAbs (nI k - g 6 0) < cAbs (cBS g nb ns k).1) then (nI k - g 6 0, bitC (mShs g nb (mSun g + (nI k - g 6 0)) ns)) else cBS g nb ns k
def cHd (g : cm_g2) (set : Int32) : Nat → Nat → Nat → Bool
  | 0, _, _ => true
  | n + 1, i, b => if isI set (nI i) then (if mSlack g b (g 5 i) < g 6 i - g 6 b then false else cHd g set n (i + 1) i) else cHd g set n (i + 1) b
def cDoHold (g : cm_g2) (nb : Nat) (set : Int32) : Bool := isI set 0 && (isI set (nI (nb - 1)) && cHd g set (nb - 1) 1 0)
def cFew (g : cm_g2) (nb : Nat) : Nat → Int32
  | 0 => nI (2 ^ nb - 1)
  | k + 1 => if bitC (nI (k + 1)) < bitC (cFew g nb k) ∧ cDoHold g nb (nI (k + 1)) = true then nI (k + 1) else cFew g nb k
def cCanB (g : cm_g2) (nb : Nat) (kd at_ : Int32) : Bool := if nb = 0 then true else if 6 ≤ nb then false else !decide (at_ - g 6 (nb - 1) ≤ 0) && !decide (mSlack g (nb - 1) kd < at_ - g 6 (nb - 1))
theorem all_nI : ∀ n, n ≤ 6 → (1 : Int32) <<< (nI n &&& 31) - 1 = nI (2 ^ n - 1) := by decide +kernel
section MG2
variable {D : cm_D} {M : cm_M} {d rc rs : Nat} {Q : Option Value → cm_H → Prop} {cells slots pc : Nat} {ls : List (Option Value)} {st : List Value} {sh : List cm_Sh} {hi g : cm_g2} {hl : Nat → Nat → Int64} {hr : Nat → Nat → Option Nat}
theorem cm_mkG {a x : Nat} {V : Nat → Int32} (kk : ∀ G : cm_g2, (∀ c, c ≠ x → G c = g c) → G x = V → cm_g D M d rc rs Q cells slots pc ls st (sh, cm_us hi a G, hl, hr)) : cm_g D M d rc rs Q cells slots pc ls st (sh, cm_us hi a (va_up g x V), hl, hr) := kk _ (fun _ h => va_up_ne _ _ h) (va_up_self _ _ _)
end MG2
section MK8
variable {D : cm_D} {d : Nat} {sh : List cm_Sh} {hi g : cm_g2} {hl : Nat → Nat → Int64} {hr : Nat → Nat → Option Nat} {a nb ns : Nat}
set_option maxRecDepth 20000 in
theorem k_factOfBuyer (hM : cm_mkt sh hr a) {i : Nat} {w : Int32} (hi6 : i < 6) : cm_ct D mX2_factOfBuyer d 0 0 [.ref a, .int (nI i), .int w] (sh, cm_us hi a g, hl, hr) (fun r9 h9 => r9 = some (.int (cFB g i w)) ∧ h9 = (sh, cm_us hi a g, hl, hr)) := by
  refine cm_ct_of (ls := [some (.ref a), some (.int (nI i)), some (.int w)]) 0 (by decide +kernel) rfl rfl ?_
  refine cm_iload2 (pc := 0) dX2_factOfBuyer_0 ?_
  refine cm_split 0 (fun s1_0 => ?_) (fun s1_0 => ?_)
  · refine cm_tsIn (pc := 1) (tgt := 28) (off := 27) dX2_factOfBuyer_1 (by decide) (by decide) (by decide +kernel) (by decide) ?_
    refine cm_aload0 (pc := 28) dX2_factOfBuyer_28 ?_
    refine cm_getR (pc := 29) flX2_24 dX2_factOfBuyer_29 hM.1 hM.r8 ?_
    refine cm_iload1 (pc := 32) dX2_factOfBuyer_32 ?_
    refine mk_get (pc := 33) dX2_factOfBuyer_33 hM.a5 (by omega) (by decide) ?_
    exact cm_iret (pc := 34) dX2_factOfBuyer_34 rfl ⟨by simp [cFB, *], rfl⟩
  refine cm_split 1 (fun s1_1 => ?_) (fun s1_1 => ?_)
  · refine cm_tsIn (pc := 1) (tgt := 35) (off := 34) dX2_factOfBuyer_1 (by decide) (by decide) (by decide +kernel) (by decide) ?_
    refine cm_aload0 (pc := 35) dX2_factOfBuyer_35 ?_
    refine cm_getR (pc := 36) flX2_27 dX2_factOfBuyer_36 hM.1 hM.r9 ?_
    refine cm_iload1 (pc := 39) dX2_factOfBuyer_39 ?_
    refine mk_get (pc := 40) dX2_factOfBuyer_40 hM.a6 (by omega) (by decide) ?_
    exact cm_iret (pc := 41) dX2_factOfBuyer_41 rfl ⟨by simp [cFB, *], rfl⟩
  refine cm_split 2 (fun s1_2 => ?_) (fun s1_2 => ?_)
  · refine cm_tsIn (pc := 1) (tgt := 42) (off := 41) dX2_factOfBuyer_1 (by decide) (by decide) (by decide +kernel) (by decide) ?_
    refine cm_aload0 (pc := 42) dX2_factOfBuyer_42 ?_
    refine cm_getR (pc := 43) flX2_30 dX2_factOfBuyer_43 hM.1 hM.r10 ?_
    refine cm_iload1 (pc := 46) dX2_factOfBuyer_46 ?_
    refine mk_get (pc := 47) dX2_factOfBuyer_47 hM.a7 (by omega) (by decide) ?_
    refine cm_iconst (pc := 48) (v := 4) dX2_factOfBuyer_48 (by decide) ?_
    refine cm_icmp_ne (pc := 49) (tgt := 57) dX2_factOfBuyer_49 (by decide) (fun c49 => ?_) (fun c49 => ?_)
    · refine cm_aload0 (pc := 57) dX2_factOfBuyer_57 ?_
      refine cm_getR (pc := 58) flX2_30 dX2_factOfBuyer_58 hM.1 hM.r10 ?_
      refine cm_iload1 (pc := 61) dX2_factOfBuyer_61 ?_
      refine mk_get (pc := 62) dX2_factOfBuyer_62 hM.a7 (by omega) (by decide) ?_
      exact cm_iret (pc := 63) dX2_factOfBuyer_63 rfl ⟨by simp [cFB, *], rfl⟩
    · refine cm_bipush (pc := 52) (v := -9) dX2_factOfBuyer_52 (by decide) ?_
      refine cm_goto (pc := 54) (tgt := 63) dX2_factOfBuyer_54 (by decide) ?_
      exact cm_iret (pc := 63) dX2_factOfBuyer_63 rfl ⟨by simp [cFB, *], rfl⟩
  refine cm_tsOut (pc := 1) (tgt := 64) dX2_factOfBuyer_1 (by have := cm_nez s1_0; have := cm_nez s1_1; have := cm_nez s1_2; simp at *; omega) (by decide) ?_
  refine cm_aload0 (pc := 64) dX2_factOfBuyer_64 ?_
  refine cm_getR (pc := 65) flX2_33 dX2_factOfBuyer_65 hM.1 hM.r11 ?_
  refine cm_iload1 (pc := 68) dX2_factOfBuyer_68 ?_
  refine mk_get (pc := 69) dX2_factOfBuyer_69 hM.a8 (by omega) (by decide) ?_
  exact cm_iret (pc := 70) dX2_factOfBuyer_70 rfl ⟨by simp [cFB, *], rfl⟩
set_option maxRecDepth 20000 in
theorem k_factOfStall (hM : cm_mkt sh hr a) {i : Nat} {w : Int32} (hi6 : i < 6) : cm_ct D mX2_factOfStall d 0 0 [.ref a, .int (nI i), .int w] (sh, cm_us hi a g, hl, hr) (fun r9 h9 => r9 = some (.int (cFS g i w)) ∧ h9 = (sh, cm_us hi a g, hl, hr)) := by
  refine cm_ct_of (ls := [some (.ref a), some (.int (nI i)), some (.int w)]) 0 (by decide +kernel) rfl rfl ?_
  refine cm_iload2 (pc := 0) dX2_factOfStall_0 ?_
  refine cm_split 0 (fun s1_0 => ?_) (fun s1_0 => ?_)
  · refine cm_tsIn (pc := 1) (tgt := 28) (off := 27) dX2_factOfStall_1 (by decide) (by decide) (by decide +kernel) (by decide) ?_
    refine cm_aload0 (pc := 28) dX2_factOfStall_28 ?_
    refine cm_getR (pc := 29) flX2_9 dX2_factOfStall_29 hM.1 hM.r4 ?_
    refine cm_iload1 (pc := 32) dX2_factOfStall_32 ?_
    refine mk_get (pc := 33) dX2_factOfStall_33 hM.a1 (by omega) (by decide) ?_
    exact cm_iret (pc := 34) dX2_factOfStall_34 rfl ⟨by simp [cFS, *], rfl⟩
  refine cm_split 1 (fun s1_1 => ?_) (fun s1_1 => ?_)
  · refine cm_tsIn (pc := 1) (tgt := 35) (off := 34) dX2_factOfStall_1 (by decide) (by decide) (by decide +kernel) (by decide) ?_
    refine cm_aload0 (pc := 35) dX2_factOfStall_35 ?_
    refine cm_getR (pc := 36) flX2_15 dX2_factOfStall_36 hM.1 hM.r5 ?_
    refine cm_iload1 (pc := 39) dX2_factOfStall_39 ?_
    refine mk_get (pc := 40) dX2_factOfStall_40 hM.a2 (by omega) (by decide) ?_
    exact cm_iret (pc := 41) dX2_factOfStall_41 rfl ⟨by simp [cFS, *], rfl⟩
  refine cm_split 2 (fun s1_2 => ?_) (fun s1_2 => ?_)
  · refine cm_tsIn (pc := 1) (tgt := 42) (off := 41) dX2_factOfStall_1 (by decide) (by decide) (by decide +kernel) (by decide) ?_
    refine cm_aload0 (pc := 42) dX2_factOfStall_42 ?_
    refine cm_getR (pc := 43) flX2_18 dX2_factOfStall_43 hM.1 hM.r6 ?_
    refine cm_iload1 (pc := 46) dX2_factOfStall_46 ?_
    refine mk_get (pc := 47) dX2_factOfStall_47 hM.a3 (by omega) (by decide) ?_
    exact cm_iret (pc := 48) dX2_factOfStall_48 rfl ⟨by simp [cFS, *], rfl⟩
  refine cm_tsOut (pc := 1) (tgt := 49) dX2_factOfStall_1 (by have := cm_nez s1_0; have := cm_nez s1_1; have := cm_nez s1_2; simp at *; omega) (by decide) ?_
  refine cm_aload0 (pc := 49) dX2_factOfStall_49 ?_
  refine cm_getR (pc := 50) flX2_21 dX2_factOfStall_50 hM.1 hM.r7 ?_
  refine cm_iload1 (pc := 53) dX2_factOfStall_53 ?_
  refine mk_get (pc := 54) dX2_factOfStall_54 hM.a4 (by omega) (by decide) ?_
  exact cm_iret (pc := 55) dX2_factOfStall_55 rfl ⟨by simp [cFS, *], rfl⟩
set_option maxRecDepth 20000 in
theorem l_pack (hM : cm_mkt sh hr a) (hb : g 0 3 = nI nb) (hnb : nb ≤ 6) : ∀ q k : Nat, k + q = nb → cm_g D mX2_spotsAndWants d 0 0 (fun r9 h9 => r9 = some (.long (cPack g nb)) ∧ h9 = (sh, cm_us hi a g, hl, hr)) 0 0 4 [some (.ref a), some (.long (cPack g k)), none, some (.int (nI k))] [] (sh, cm_us hi a g, hl, hr) := by
  intro q
  induction q with
  | zero =>
    intro k hk
    have h1 : k = nb := by omega
    subst h1
    refine cm_iload3 (pc := 4) dX2_spotsAndWants_4 ?_
    refine cm_aload0 (pc := 5) dX2_spotsAndWants_5 ?_
    refine mk_fld (pc := 6) flX2_52 dX2_spotsAndWants_6 hM.1 ?_
    rw [hb]
    refine cm_geN (pc := 9) (tgt := 44) dX2_spotsAndWants_9 (by decide) (by omega) (by omega) (fun c9 => ?_) (fun c9 => ?_)
    · refine cm_lload1 (pc := 44) dX2_spotsAndWants_44 ?_
      exact cm_lret (pc := 45) dX2_spotsAndWants_45 rfl ⟨rfl, rfl⟩
    · exact absurd c9 (by omega)
  | succ q ih =>
    intro k hk
    have hst := ih (k + 1) (by omega)
    refine cm_iload3 (pc := 4) dX2_spotsAndWants_4 ?_
    refine cm_aload0 (pc := 5) dX2_spotsAndWants_5 ?_
    refine mk_fld (pc := 6) flX2_52 dX2_spotsAndWants_6 hM.1 ?_
    rw [hb]
    refine cm_geN (pc := 9) (tgt := 44) dX2_spotsAndWants_9 (by decide) (by omega) (by omega) (fun c9 => ?_) (fun c9 => ?_)
    · exact absurd c9 (by omega)
    · refine cm_lload1 (pc := 12) dX2_spotsAndWants_12 ?_
      refine cm_ldc2 (pc := 13) dX2_spotsAndWants_13 ctX2_148 ?_
      refine cm_lmul (pc := 16) dX2_spotsAndWants_16 ?_
      refine cm_aload0 (pc := 17) dX2_spotsAndWants_17 ?_
      refine cm_getR (pc := 18) flX2_27 dX2_spotsAndWants_18 hM.1 hM.r9 ?_
      refine cm_iload3 (pc := 21) dX2_spotsAndWants_21 ?_
      refine mk_get (pc := 22) dX2_spotsAndWants_22 hM.a6 (by omega) (by decide) ?_
      refine cm_i2l (pc := 23) dX2_spotsAndWants_23 ?_
      refine cm_ladd (pc := 24) dX2_spotsAndWants_24 ?_
      refine cm_ldc2 (pc := 25) dX2_spotsAndWants_25 ctX2_150 ?_
      refine cm_lmul (pc := 28) dX2_spotsAndWants_28 ?_
      refine cm_aload0 (pc := 29) dX2_spotsAndWants_29 ?_
      refine cm_getR (pc := 30) flX2_30 dX2_spotsAndWants_30 hM.1 hM.r10 ?_
      refine cm_iload3 (pc := 33) dX2_spotsAndWants_33 ?_
      refine mk_get (pc := 34) dX2_spotsAndWants_34 hM.a7 (by omega) (by decide) ?_
      refine cm_i2l (pc := 35) dX2_spotsAndWants_35 ?_
      refine cm_ladd (pc := 36) dX2_spotsAndWants_36 ?_
      refine cm_lstore1 (pc := 37) dX2_spotsAndWants_37 (by decide) rfl ?_
      refine cm_incN3 (pc := 38) dX2_spotsAndWants_38 (by decide) rfl ?_
      refine cm_goto (pc := 41) (tgt := 4) dX2_spotsAndWants_41 (by decide) ?_
      exact hst
set_option maxRecDepth 20000 in
theorem k_spotsAndWants (hM : cm_mkt sh hr a) (hb : g 0 3 = nI nb) (hnb : nb ≤ 6) : cm_ct D mX2_spotsAndWants d 0 0 [.ref a] (sh, cm_us hi a g, hl, hr) (fun r9 h9 => r9 = some (.long (cPack g nb)) ∧ h9 = (sh, cm_us hi a g, hl, hr)) := by
  refine cm_ct_of (ls := [some (.ref a), none, none, none]) 3 (by decide +kernel) rfl rfl ?_
  refine cm_lconst (pc := 0) (v := 0) dX2_spotsAndWants_0 (by decide) ?_
  refine cm_lstore1 (pc := 1) dX2_spotsAndWants_1 (by decide) rfl ?_
  refine cm_iconst (pc := 2) (v := 0) dX2_spotsAndWants_2 (by decide) ?_
  refine cm_istore3 (pc := 3) dX2_spotsAndWants_3 (by decide) rfl ?_
  exact l_pack hM hb hnb nb 0 (by omega)
set_option maxRecDepth 20000 in
theorem l_dfb (hM : cm_mkt sh hr a) {Q : Option Value → cm_H → Prop} {i : Nat} {h1 : Int64} (hi6 : i < 6) (kk : ∀ y : Int32, cm_g D mX2_digestOn (d + 1) 0 0 (Q) 0 0 40 [some (.ref a), some (.long (cDigF (cFB g i) h1 4)), none, some (.int (nI i)), some (.int y)] [] (sh, cm_us hi a g, hl, hr)) : ∀ q k : Nat, k + q = 4 → cm_g D mX2_digestOn (d + 1) 0 0 (Q) 0 0 13 [some (.ref a), some (.long (cDigF (cFB g i) h1 k)), none, some (.int (nI i)), some (.int (nI k))] [] (sh, cm_us hi a g, hl, hr) := by
  intro q
  induction q with
  | zero =>
    intro k hk
    have h1 : k = 4 := by omega
    subst h1
    refine cm_iload4 (pc := 13) dX2_digestOn_13 ?_
    refine cm_iconst (pc := 15) (v := 4) dX2_digestOn_15 (by decide) ?_
    refine cm_icmp_ge (pc := 16) (tgt := 40) dX2_digestOn_16 (by decide) (fun c16 => ?_) (fun q => absurd (by decide) q)
    exact kk _
  | succ q ih =>
    intro k hk
    refine cm_iload4 (pc := 13) dX2_digestOn_13 ?_
    refine cm_iconst (pc := 15) (v := 4) dX2_digestOn_15 (by decide) ?_
    refine cm_icmp_ge (pc := 16) (tgt := 40) dX2_digestOn_16 (by decide) (fun q => absurd q (nI_ge (a := k) (b := 4) (by omega) (by omega))) (fun c16 => ?_)
    refine cm_ldc2 (pc := 19) dX2_digestOn_19 ctX2_152 ?_
    refine cm_lload1 (pc := 22) dX2_digestOn_22 ?_
    refine cm_lmul (pc := 23) dX2_digestOn_23 ?_
    refine cm_aload0 (pc := 24) dX2_digestOn_24 ?_
    refine cm_iload3 (pc := 25) dX2_digestOn_25 ?_
    refine cm_iload4 (pc := 26) dX2_digestOn_26 ?_
    refine cm_V2 (pc := 28) mX2_factOfBuyer_v mlX2_154 dX2_digestOn_28 hM.1 (by omega) (Nat.le_of_ble_eq_true rfl) (Nat.le_refl _) (Nat.le_refl _) (k_factOfBuyer (d := d) hM (i := i) hi6) (fun r28 h28 hq28 => ?_)
    obtain ⟨rfl, rfl⟩ := hq28
    refine cm_i2l (pc := 31) dX2_digestOn_31 ?_
    refine cm_ladd (pc := 32) dX2_digestOn_32 ?_
    refine cm_lstore1 (pc := 33) dX2_digestOn_33 (by decide) rfl ?_
    refine cm_incN4 (pc := 34) dX2_digestOn_34 (by decide) rfl ?_
    refine cm_goto (pc := 37) (tgt := 13) dX2_digestOn_37 (by decide) ?_
    exact ih (k + 1) (by omega)
set_option maxRecDepth 20000 in
theorem l_dfs (hM : cm_mkt sh hr a) {Q : Option Value → cm_H → Prop} {i : Nat} {h1 : Int64} (hi6 : i < 6) (kk : ∀ y : Int32, cm_g D mX2_digestOn (d + 1) 0 0 (Q) 0 0 86 [some (.ref a), some (.long (cDigF (cFS g i) h1 4)), none, some (.int (nI i)), some (.int y)] [] (sh, cm_us hi a g, hl, hr)) : ∀ q k : Nat, k + q = 4 → cm_g D mX2_digestOn (d + 1) 0 0 (Q) 0 0 59 [some (.ref a), some (.long (cDigF (cFS g i) h1 k)), none, some (.int (nI i)), some (.int (nI k))] [] (sh, cm_us hi a g, hl, hr) := by
  intro q
  induction q with
  | zero =>
    intro k hk
    have h1 : k = 4 := by omega
    subst h1
    refine cm_iload4 (pc := 59) dX2_digestOn_59 ?_
    refine cm_iconst (pc := 61) (v := 4) dX2_digestOn_61 (by decide) ?_
    refine cm_icmp_ge (pc := 62) (tgt := 86) dX2_digestOn_62 (by decide) (fun c62 => ?_) (fun q => absurd (by decide) q)
    exact kk _
  | succ q ih =>
    intro k hk
    refine cm_iload4 (pc := 59) dX2_digestOn_59 ?_
    refine cm_iconst (pc := 61) (v := 4) dX2_digestOn_61 (by decide) ?_
    refine cm_icmp_ge (pc := 62) (tgt := 86) dX2_digestOn_62 (by decide) (fun q => absurd q (nI_ge (a := k) (b := 4) (by omega) (by omega))) (fun c62 => ?_)
    refine cm_ldc2 (pc := 65) dX2_digestOn_65 ctX2_152 ?_
    refine cm_lload1 (pc := 68) dX2_digestOn_68 ?_
    refine cm_lmul (pc := 69) dX2_digestOn_69 ?_
    refine cm_aload0 (pc := 70) dX2_digestOn_70 ?_
    refine cm_iload3 (pc := 71) dX2_digestOn_71 ?_
    refine cm_iload4 (pc := 72) dX2_digestOn_72 ?_
    refine cm_V2 (pc := 74) mX2_factOfStall_v mlX2_157 dX2_digestOn_74 hM.1 (by omega) (Nat.le_of_ble_eq_true rfl) (Nat.le_refl _) (Nat.le_refl _) (k_factOfStall (d := d) hM (i := i) hi6) (fun r74 h74 hq74 => ?_)
    obtain ⟨rfl, rfl⟩ := hq74
    refine cm_i2l (pc := 77) dX2_digestOn_77 ?_
    refine cm_ladd (pc := 78) dX2_digestOn_78 ?_
    refine cm_lstore1 (pc := 79) dX2_digestOn_79 (by decide) rfl ?_
    refine cm_incN4 (pc := 80) dX2_digestOn_80 (by decide) rfl ?_
    refine cm_goto (pc := 83) (tgt := 59) dX2_digestOn_83 (by decide) ?_
    exact ih (k + 1) (by omega)
set_option maxRecDepth 20000 in
theorem l_digS (hM : cm_mkt sh hr a) (hb : g 0 3 = nI nb) (hnb : nb ≤ 6) (hs : g 0 2 = nI ns) (hns : ns ≤ 6) {h0 : Int64} : ∀ q k : Nat, k + q = ns → ∀ x4 : Option Value, cm_g D mX2_digestOn (d + 1) 0 0 (fun r9 h9 => r9 = some (.long (cDigS g (cDigB g h0 nb) ns)) ∧ h9 = (sh, cm_us hi a g, hl, hr)) 0 0 48 [some (.ref a), some (.long (cDigS g (cDigB g h0 nb) k)), none, some (.int (nI k)), x4] [] (sh, cm_us hi a g, hl, hr) := by
  intro q
  induction q with
  | zero =>
    intro k hk x4
    have h1 : k = ns := by omega
    subst h1
    refine cm_iload3 (pc := 48) dX2_digestOn_48 ?_
    refine cm_aload0 (pc := 49) dX2_digestOn_49 ?_
    refine mk_fld (pc := 50) flX2_49 dX2_digestOn_50 hM.1 ?_
    rw [hs]
    refine cm_geN (pc := 53) (tgt := 92) dX2_digestOn_53 (by decide) (by omega) (by omega) (fun c53 => ?_) (fun c53 => ?_)
    · refine cm_lload1 (pc := 92) dX2_digestOn_92 ?_
      exact cm_lret (pc := 93) dX2_digestOn_93 rfl ⟨rfl, rfl⟩
    · exact absurd c53 (by omega)
  | succ q ih =>
    intro k hk x4
    have hst := ih (k + 1) (by omega)
    refine cm_iload3 (pc := 48) dX2_digestOn_48 ?_
    refine cm_aload0 (pc := 49) dX2_digestOn_49 ?_
    refine mk_fld (pc := 50) flX2_49 dX2_digestOn_50 hM.1 ?_
    rw [hs]
    refine cm_geN (pc := 53) (tgt := 92) dX2_digestOn_53 (by decide) (by omega) (by omega) (fun c53 => ?_) (fun c53 => ?_)
    · exact absurd c53 (by omega)
    · refine cm_iconst (pc := 56) (v := 0) dX2_digestOn_56 (by decide) ?_
      refine cm_istore4 (pc := 57) dX2_digestOn_57 (by decide) rfl ?_
      refine l_dfs hM (i := k) (by omega) (fun y => ?_) 4 0 (by omega)
      refine cm_incN3 (pc := 86) dX2_digestOn_86 (by decide) rfl ?_
      refine cm_goto (tgt := 48) (pc := 89) dX2_digestOn_89 (by decide) ?_
      exact hst _
set_option maxRecDepth 20000 in
theorem l_digB (hM : cm_mkt sh hr a) (hb : g 0 3 = nI nb) (hnb : nb ≤ 6) (hs : g 0 2 = nI ns) (hns : ns ≤ 6) {h0 : Int64} : ∀ q k : Nat, k + q = nb → ∀ x4 : Option Value, cm_g D mX2_digestOn (d + 1) 0 0 (fun r9 h9 => r9 = some (.long (cDigS g (cDigB g h0 nb) ns)) ∧ h9 = (sh, cm_us hi a g, hl, hr)) 0 0 2 [some (.ref a), some (.long (cDigB g h0 k)), none, some (.int (nI k)), x4] [] (sh, cm_us hi a g, hl, hr) := by
  intro q
  induction q with
  | zero =>
    intro k hk x4
    have h1 : k = nb := by omega
    subst h1
    refine cm_iload3 (pc := 2) dX2_digestOn_2 ?_
    refine cm_aload0 (pc := 3) dX2_digestOn_3 ?_
    refine mk_fld (pc := 4) flX2_52 dX2_digestOn_4 hM.1 ?_
    rw [hb]
    refine cm_geN (pc := 7) (tgt := 46) dX2_digestOn_7 (by decide) (by omega) (by omega) (fun c7 => ?_) (fun c7 => ?_)
    · refine cm_iconst (pc := 46) (v := 0) dX2_digestOn_46 (by decide) ?_
      refine cm_istore3 (pc := 47) dX2_digestOn_47 (by decide) rfl ?_
      exact l_digS hM hb hnb hs hns ns 0 (by omega) _
    · exact absurd c7 (by omega)
  | succ q ih =>
    intro k hk x4
    have hst := ih (k + 1) (by omega)
    refine cm_iload3 (pc := 2) dX2_digestOn_2 ?_
    refine cm_aload0 (pc := 3) dX2_digestOn_3 ?_
    refine mk_fld (pc := 4) flX2_52 dX2_digestOn_4 hM.1 ?_
    rw [hb]
    refine cm_geN (pc := 7) (tgt := 46) dX2_digestOn_7 (by decide) (by omega) (by omega) (fun c7 => ?_) (fun c7 => ?_)
    · exact absurd c7 (by omega)
    · refine cm_iconst (pc := 10) (v := 0) dX2_digestOn_10 (by decide) ?_
      refine cm_istore4 (pc := 11) dX2_digestOn_11 (by decide) rfl ?_
      refine l_dfb hM (i := k) (by omega) (fun y => ?_) 4 0 (by omega)
      refine cm_incN3 (pc := 40) dX2_digestOn_40 (by decide) rfl ?_
      refine cm_goto (tgt := 2) (pc := 43) dX2_digestOn_43 (by decide) ?_
      exact hst _
set_option maxRecDepth 20000 in
theorem k_mdigest (hM : cm_mkt sh hr a) (hb : g 0 3 = nI nb) (hnb : nb ≤ 6) (hs : g 0 2 = nI ns) (hns : ns ≤ 6) {h0 : Int64} : cm_ct D mX2_digestOn (d + 1) 0 0 [.ref a, .long h0] (sh, cm_us hi a g, hl, hr) (fun r9 h9 => r9 = some (.long (cDigS g (cDigB g h0 nb) ns)) ∧ h9 = (sh, cm_us hi a g, hl, hr)) := by
  refine cm_ct_of (ls := [some (.ref a), some (.long h0), none, none, none]) 2 (by decide +kernel) rfl rfl ?_
  refine cm_iconst (pc := 0) (v := 0) dX2_digestOn_0 (by decide) ?_
  refine cm_istore3 (pc := 1) dX2_digestOn_1 (by decide) rfl ?_
  exact l_digB hM hb hnb hs hns nb 0 (by omega) _
set_option maxRecDepth 20000 in
theorem l_shift (hM : cm_mkt sh hr a) {way : Int32} (hb : g 0 3 = nI nb) (hnb : nb ≤ 6) (hc : cShift g nb way = true) : ∀ q k : Nat, k + q = nb → cm_g D mX2_shiftAll d 0 0 (fun r9 h9 => r9 = some (.int (cm_bi (cShift g nb way))) ∧ h9 = (sh, cm_us hi a (if cShift g nb way then mMv g 0 nb way else g), hl, hr)) 0 0 26 [some (.ref a), some (.int way), some (.int (nI k))] [] (sh, cm_us hi a (mMv g 0 k way), hl, hr) := by
  intro q
  induction q with
  | zero =>
    intro k hk
    have h1 : k = nb := by omega
    subst h1
    refine cm_iload2 (pc := 26) dX2_shiftAll_26 ?_
    refine cm_aload0 (pc := 27) dX2_shiftAll_27 ?_
    refine mk_fld (pc := 28) flX2_52 dX2_shiftAll_28 hM.1 ?_
    rw [show mMv g 0 k way 0 3 = nI k from hb]
    refine cm_geN (pc := 31) (tgt := 50) dX2_shiftAll_31 (by decide) (by omega) (by omega) (fun c31 => ?_) (fun c31 => ?_)
    · refine cm_iconst (pc := 50) (v := 1) dX2_shiftAll_50 (by decide) ?_
      exact cm_zret (pc := 51) dX2_shiftAll_51 rfl rfl ⟨by rw [hc]; rfl, by rw [hc]; rfl⟩
    · exact absurd c31 (by omega)
  | succ q ih =>
    intro k hk
    have hst := ih (k + 1) (by omega)
    refine cm_iload2 (pc := 26) dX2_shiftAll_26 ?_
    refine cm_aload0 (pc := 27) dX2_shiftAll_27 ?_
    refine mk_fld (pc := 28) flX2_52 dX2_shiftAll_28 hM.1 ?_
    rw [show mMv g 0 k way 0 3 = nI nb from hb]
    refine cm_geN (pc := 31) (tgt := 50) dX2_shiftAll_31 (by decide) (by omega) (by omega) (fun c31 => ?_) (fun c31 => ?_)
    · exact absurd c31 (by omega)
    · refine cm_aload0 (pc := 34) dX2_shiftAll_34 ?_
      refine cm_getR (pc := 35) flX2_27 dX2_shiftAll_35 hM.1 hM.r9 ?_
      refine cm_iload2 (pc := 38) dX2_shiftAll_38 ?_
      refine cm_dup2 (pc := 39) dX2_shiftAll_39 rfl rfl ?_
      refine mk_get (pc := 40) dX2_shiftAll_40 hM.a6 (by omega) (by decide) ?_
      refine cm_iload1 (pc := 41) dX2_shiftAll_41 ?_
      refine cm_iadd (pc := 42) dX2_shiftAll_42 ?_
      refine mk_put (pc := 43) dX2_shiftAll_43 hM.a6 (by omega) (by decide) ?_
      rw [mMv_succ (Nat.zero_le _)]
      refine cm_incN2 (pc := 44) dX2_shiftAll_44 (by decide) rfl ?_
      refine cm_goto (pc := 47) (tgt := 26) dX2_shiftAll_47 (by decide) ?_
      exact hst
set_option maxRecDepth 20000 in
theorem k_shiftAll (hM : cm_mkt sh hr a) {way : Int32} (hb : g 0 3 = nI nb) (hnb : nb ≤ 6) : cm_ct D mX2_shiftAll (d + 1) 0 0 [.ref a, .int way] (sh, cm_us hi a g, hl, hr) (fun r9 h9 => r9 = some (.int (cm_bi (cShift g nb way))) ∧ h9 = (sh, cm_us hi a (if cShift g nb way then mMv g 0 nb way else g), hl, hr)) := by
  refine cm_ct_of (ls := [some (.ref a), some (.int way), none]) 1 (by decide +kernel) rfl rfl ?_
  refine cm_aload0 (pc := 0) dX2_shiftAll_0 ?_
  refine mk_fld (pc := 1) flX2_52 dX2_shiftAll_1 hM.1 ?_
  rw [hb]
  refine cm_if_eq (pc := 4) (tgt := 22) dX2_shiftAll_4 (by decide) (fun c4 => ?_) (fun c4 => ?_)
  · have h0 : nb = 0 := by
      rcases Nat.eq_zero_or_pos nb with q | q
      · exact q
      · exact absurd c4 (nI_ne0 q (by omega))
    subst h0
    refine cm_iconst (pc := 22) (v := 0) dX2_shiftAll_22 (by decide) ?_
    exact cm_zret (pc := 23) dX2_shiftAll_23 rfl rfl ⟨by simp [cShift, cm_bi], by simp [cShift]⟩
  · have h0 : 0 < nb := by
      rcases Nat.eq_zero_or_pos nb with q | q
      · subst q; exact absurd rfl c4
      · exact q
    refine cm_aload0 (pc := 7) dX2_shiftAll_7 ?_
    refine cm_iconst (pc := 8) (v := 0) dX2_shiftAll_8 (by decide) ?_
    refine cm_aload0 (pc := 9) dX2_shiftAll_9 ?_
    refine mk_fld (pc := 10) flX2_52 dX2_shiftAll_10 hM.1 ?_
    rw [hb]
    refine cm_iconst (pc := 13) (v := 1) dX2_shiftAll_13 (by decide) ?_
    refine cm_isub (pc := 14) dX2_shiftAll_14 ?_
    rw [show nI nb - 1 = nI (nb - 1) from pk_sub (b := 1) (by omega)]
    refine cm_iload1 (pc := 15) dX2_shiftAll_15 ?_
    refine cm_V3 (pc := 16) mX2_canGo_v mlX2_122 dX2_shiftAll_16 hM.1 (by omega) (Nat.le_of_ble_eq_true rfl) (Nat.le_refl _) (Nat.le_refl _) (k_canGo hM (d := d) (f := some 0) (t := some (nb - 1)) (fun k hk => by cases hk; omega) (fun k hk => by cases hk; omega)) (fun r16 h16 hq16 => ?_)
    obtain ⟨rfl, rfl⟩ := hq16
    refine cm_ifneB (pc := 19) (tgt := 24) dX2_shiftAll_19 (by decide) (fun c19 => ?_) (fun c19 => ?_)
    · refine cm_iconst (pc := 24) (v := 0) dX2_shiftAll_24 (by decide) ?_
      refine cm_istore2 (pc := 25) dX2_shiftAll_25 (by decide) rfl ?_
      refine cm_h_eq (show _ = (sh, cm_us hi a (mMv g 0 0 way), hl, hr) by rw [mMv_0]) ?_
      exact l_shift hM (d := d + 1) hb hnb (by simp [cShift, h0, c19]) nb 0 (by omega)
    · have hc : cShift g nb way = false := by simp [cShift, c19]
      refine cm_iconst (pc := 22) (v := 0) dX2_shiftAll_22 (by decide) ?_
      exact cm_zret (pc := 23) dX2_shiftAll_23 rfl rfl ⟨by rw [hc]; rfl, by rw [hc]; rfl⟩
theorem isub1 (x y : Int32) : x - y + 1 = x + 1 - y := by rw [Int32.sub_eq_add_neg, Int32.sub_eq_add_neg, Int32.add_assoc, Int32.add_comm (-y) 1, ← Int32.add_assoc]
theorem bs_z {g : cm_g2} {k : Nat} {s : Int32} (h0 : 0 ≤ (g 6 0).toInt ∧ (g 6 0).toInt < 20) (h1 : 0 ≤ s.toInt ∧ s.toInt < 20) (hk : k ≤ 40) : (nI k - g 6 0 + s).toInt = (k : Int) - (g 6 0).toInt + s.toInt := by
  have hz : (nI k).toInt = (k : Int) := nI_toInt (by omega)
  rw [zadd (by rw [zsub (by omega)]; omega), zsub (by omega)]
  omega
set_option maxRecDepth 20000 in
theorem l_bs (hM : cm_mkt sh hr a) (h : mOk g nb ns) (h0 : 0 < nb) : ∀ q k : Nat, k + q = 20 + (g 6 0).toInt.toNat - (g 6 (nb - 1)).toInt.toNat → ∀ x4 : Option Value, cm_g D mX2_bestShift (d + 3) 0 0 (fun r9 h9 => r9 = some (.int (cBS g nb ns (20 + (g 6 0).toInt.toNat - (g 6 (nb - 1)).toInt.toNat)).1) ∧ h9 = (sh, cm_us hi a g, hl, hr)) 0 0 22 [some (.ref a), some (.int (cBS g nb ns k).1), some (.int (cBS g nb ns k).2), some (.int (nI k - g 6 0)), x4] [] (sh, cm_us hi a g, hl, hr) := by
  have hb := h.1.1
  have hnb := h.1.2.1
  have hs := h.1.2.2.1
  have hns := h.1.2.2.2
  have z0 := h.2.1 0 h0
  have z1 := h.2.1 (nb - 1) (by omega)
  intro q
  induction q with
  | zero =>
    intro k hk x4
    have h1 : k = 20 + (g 6 0).toInt.toNat - (g 6 (nb - 1)).toInt.toNat := by omega
    subst h1
    generalize hK : 20 + (g 6 0).toInt.toNat - (g 6 (nb - 1)).toInt.toNat = k
    have hz := bs_z (g := g) (k := k) z0 z1 (by omega)
    have e20 : (20 : Int32).toInt = 20 := by decide
    have hl5 : mLastSpot g nb = g 6 (nb - 1) := if_neg (by omega)
    refine cm_iload3 (pc := 22) dX2_bestShift_22 ?_
    refine cm_aload0 (pc := 23) dX2_bestShift_23 ?_
    refine cm_V0 (pc := 24) mX2_lastSpot_v mlX2_131 dX2_bestShift_24 hM.1 (by omega) (Nat.le_of_ble_eq_true rfl) (Nat.le_refl _) (Nat.le_refl _) (k_lastSpot (d := d + 2) hM hb hnb) (fun r24 h24 hq24 => ?_)
    obtain ⟨rfl, rfl⟩ := hq24
    rw [hl5]
    refine cm_iadd (pc := 27) dX2_bestShift_27 ?_
    refine cm_bipush (pc := 28) (v := 20) dX2_bestShift_28 (by decide) ?_
    refine cm_icmp_ge (pc := 30) (tgt := 82) dX2_bestShift_30 (by decide) (fun c30 => ?_) (fun q => absurd (show (20 : Int32) ≤ nI k - g 6 0 + g 6 (nb - 1) by rw [Int32.le_iff_toInt_le, hz, e20]; omega) q)
    refine cm_iload1 (pc := 82) dX2_bestShift_82 ?_
    exact cm_iret (pc := 83) dX2_bestShift_83 rfl ⟨rfl, rfl⟩
  | succ q ih =>
    intro k hk x4
    have hst := ih (k + 1) (by omega)
    have hz := bs_z (g := g) (k := k) z0 z1 (by omega)
    have e20 : (20 : Int32).toInt = 20 := by decide
    have hl5 : mLastSpot g nb = g 6 (nb - 1) := if_neg (by omega)
    refine cm_iload3 (pc := 22) dX2_bestShift_22 ?_
    refine cm_aload0 (pc := 23) dX2_bestShift_23 ?_
    refine cm_V0 (pc := 24) mX2_lastSpot_v mlX2_131 dX2_bestShift_24 hM.1 (by omega) (Nat.le_of_ble_eq_true rfl) (Nat.le_refl _) (Nat.le_refl _) (k_lastSpot (d := d + 2) hM hb hnb) (fun r24 h24 hq24 => ?_)
    obtain ⟨rfl, rfl⟩ := hq24
    rw [hl5]
    refine cm_iadd (pc := 27) dX2_bestShift_27 ?_
    refine cm_bipush (pc := 28) (v := 20) dX2_bestShift_28 (by decide) ?_
    refine cm_icmp_ge (pc := 30) (tgt := 82) dX2_bestShift_30 (by decide) (fun q => absurd q (show ¬ (20 : Int32) ≤ nI k - g 6 0 + g 6 (nb - 1) by rw [Int32.le_iff_toInt_le, hz, e20]; omega)) (fun c30 => ?_)
    refine cm_aload0 (pc := 33) dX2_bestShift_33 ?_
    refine cm_aload0 (pc := 34) dX2_bestShift_34 ?_
    refine cm_V0 (pc := 35) mX2_sun_v mlX2_103 dX2_bestShift_35 hM.1 (by omega) (Nat.le_of_ble_eq_true rfl) (Nat.le_refl _) (Nat.le_refl _) (k_sun (d := d + 2) hM) (fun r35 h35 hq35 => ?_)
    obtain ⟨rfl, rfl⟩ := hq35
    refine cm_iload3 (pc := 38) dX2_bestShift_38 ?_
    refine cm_iadd (pc := 39) dX2_bestShift_39 ?_
    refine cm_V1 (pc := 40) mX2_stallsShaded_v mlX2_134 dX2_bestShift_40 hM.1 (by omega) (Nat.le_of_ble_eq_true rfl) (Nat.le_refl _) (Nat.le_refl _) (k_stallsShaded (d := d) hM hs hns hb hnb) (fun r40 h40 hq40 => ?_)
    obtain ⟨rfl, rfl⟩ := hq40
    refine cm_S1 (pc := 43) mJ6_bitCount_0f7a4_s mlX2_137 dX2_bestShift_43 (by omega) (Nat.le_of_ble_eq_true rfl) (Nat.le_refl _) (Nat.le_refl _) (k_bitCount (d := d + 2) ) (fun r43 h43 hq43 => ?_)
    obtain ⟨rfl, rfl⟩ := hq43
    refine cm_istore4 (pc := 46) dX2_bestShift_46 (by decide) rfl ?_
    refine cm_iload4 (pc := 48) dX2_bestShift_48 ?_
    refine cm_iload2 (pc := 50) dX2_bestShift_50 ?_
    refine cm_icmp_gt (pc := 51) (tgt := 71) dX2_bestShift_51 (by decide) (fun c51 => ?_) (fun c51 => ?_)
    · have q1 := c51
      refine cm_iload4 (pc := 71) dX2_bestShift_71 ?_
      refine cm_istore2 (pc := 73) dX2_bestShift_73 (by decide) rfl ?_
      refine cm_iload3 (pc := 74) dX2_bestShift_74 ?_
      refine cm_istore1 (pc := 75) dX2_bestShift_75 (by decide) rfl ?_
      refine cm_iinc3 (pc := 76) (1) dX2_bestShift_76 rfl (by decide) rfl ?_
      refine cm_goto (tgt := 22) (pc := 79) dX2_bestShift_79 (by decide) ?_
      rw [show nI k - g 6 0 + 1 = nI (k + 1) - g 6 0 by rw [← nI_1]; exact isub1 _ _]
      first
        | (rw [show cBS g nb ns (k + 1) = (nI k - g 6 0, bitC (mShs g nb (mSun g + (nI k - g 6 0)) ns)) by simp only [cBS]; rw [if_pos (by first | exact Or.inl c51 | exact Or.inr ⟨c57, q68⟩)]] at hst
           exact hst _)
        | (rw [show cBS g nb ns (k + 1) = cBS g nb ns k by simp only [cBS]; rw [if_neg (by first | exact fun w => w.elim (fun y => c51 y) (fun y => c57 y.1) | exact fun w => w.elim (fun y => c51 y) (fun y => q68 y.2))]] at hst
           exact hst _)
    · refine cm_iload4 (pc := 54) dX2_bestShift_54 ?_
      refine cm_iload2 (pc := 56) dX2_bestShift_56 ?_
      refine cm_icmp_ne (pc := 57) (tgt := 76) dX2_bestShift_57 (by decide) (fun c57 => ?_) (fun c57 => ?_)
      · refine cm_iinc3 (pc := 76) (1) dX2_bestShift_76 rfl (by decide) rfl ?_
        refine cm_goto (tgt := 22) (pc := 79) dX2_bestShift_79 (by decide) ?_
        rw [show nI k - g 6 0 + 1 = nI (k + 1) - g 6 0 by rw [← nI_1]; exact isub1 _ _]
        first
          | (rw [show cBS g nb ns (k + 1) = (nI k - g 6 0, bitC (mShs g nb (mSun g + (nI k - g 6 0)) ns)) by simp only [cBS]; rw [if_pos (by first | exact Or.inl c51 | exact Or.inr ⟨c57, q68⟩)]] at hst
             exact hst _)
          | (rw [show cBS g nb ns (k + 1) = cBS g nb ns k by simp only [cBS]; rw [if_neg (by first | exact fun w => w.elim (fun y => c51 y) (fun y => c57 y.1) | exact fun w => w.elim (fun y => c51 y) (fun y => q68 y.2))]] at hst
             exact hst _)
      · refine cm_iload3 (pc := 60) dX2_bestShift_60 ?_
        refine cm_abs (pc := 61) mJ9_abs_0f7a4_s lmX2_83 dX2_bestShift_61 (by omega) (Nat.le_of_ble_eq_true rfl) (Nat.le_refl _) (Nat.le_refl _) ?_
        refine cm_iload1 (pc := 64) dX2_bestShift_64 ?_
        refine cm_abs (pc := 65) mJ9_abs_0f7a4_s lmX2_83 dX2_bestShift_65 (by omega) (Nat.le_of_ble_eq_true rfl) (Nat.le_refl _) (Nat.le_refl _) ?_
        refine cm_icmp_ge (pc := 68) (tgt := 76) dX2_bestShift_68 (by decide) (fun c68 => ?_) (fun c68 => ?_)
        · have q68 : ¬ cAbs (nI k - g 6 0) < cAbs (cBS g nb ns k).1 := Int32.not_lt.mpr c68
          refine cm_iinc3 (pc := 76) (1) dX2_bestShift_76 rfl (by decide) rfl ?_
          refine cm_goto (tgt := 22) (pc := 79) dX2_bestShift_79 (by decide) ?_
          rw [show nI k - g 6 0 + 1 = nI (k + 1) - g 6 0 by rw [← nI_1]; exact isub1 _ _]
          first
            | (rw [show cBS g nb ns (k + 1) = (nI k - g 6 0, bitC (mShs g nb (mSun g + (nI k - g 6 0)) ns)) by simp only [cBS]; rw [if_pos (by first | exact Or.inl c51 | exact Or.inr ⟨c57, q68⟩)]] at hst
               exact hst _)
            | (rw [show cBS g nb ns (k + 1) = cBS g nb ns k by simp only [cBS]; rw [if_neg (by first | exact fun w => w.elim (fun y => c51 y) (fun y => c57 y.1) | exact fun w => w.elim (fun y => c51 y) (fun y => q68 y.2))]] at hst
               exact hst _)
        · have q68 : cAbs (nI k - g 6 0) < cAbs (cBS g nb ns k).1 := Int32.not_le.mp c68
          refine cm_iload4 (pc := 71) dX2_bestShift_71 ?_
          refine cm_istore2 (pc := 73) dX2_bestShift_73 (by decide) rfl ?_
          refine cm_iload3 (pc := 74) dX2_bestShift_74 ?_
          refine cm_istore1 (pc := 75) dX2_bestShift_75 (by decide) rfl ?_
          refine cm_iinc3 (pc := 76) (1) dX2_bestShift_76 rfl (by decide) rfl ?_
          refine cm_goto (tgt := 22) (pc := 79) dX2_bestShift_79 (by decide) ?_
          rw [show nI k - g 6 0 + 1 = nI (k + 1) - g 6 0 by rw [← nI_1]; exact isub1 _ _]
          first
            | (rw [show cBS g nb ns (k + 1) = (nI k - g 6 0, bitC (mShs g nb (mSun g + (nI k - g 6 0)) ns)) by simp only [cBS]; rw [if_pos (by first | exact Or.inl c51 | exact Or.inr ⟨c57, q68⟩)]] at hst
               exact hst _)
            | (rw [show cBS g nb ns (k + 1) = cBS g nb ns k by simp only [cBS]; rw [if_neg (by first | exact fun w => w.elim (fun y => c51 y) (fun y => c57 y.1) | exact fun w => w.elim (fun y => c51 y) (fun y => q68 y.2))]] at hst
               exact hst _)
set_option maxRecDepth 20000 in
theorem k_bestShift (hM : cm_mkt sh hr a) (h : mOk g nb ns) (h0 : 0 < nb) : cm_ct D mX2_bestShift (d + 3) 0 0 [.ref a] (sh, cm_us hi a g, hl, hr) (fun r9 h9 => r9 = some (.int (cBS g nb ns (20 + (g 6 0).toInt.toNat - (g 6 (nb - 1)).toInt.toNat)).1) ∧ h9 = (sh, cm_us hi a g, hl, hr)) := by
  have hb := h.1.1
  have hnb := h.1.2.1
  have hs := h.1.2.2.1
  have hns := h.1.2.2.2
  have z0 := h.2.1 0 h0
  have z1 := h.2.1 (nb - 1) (by omega)
  refine cm_ct_of (ls := [some (.ref a), none, none, none, none]) 4 (by decide +kernel) rfl rfl ?_
  refine cm_iconst (pc := 0) (v := 0) dX2_bestShift_0 (by decide) ?_
  refine cm_istore1 (pc := 1) dX2_bestShift_1 (by decide) rfl ?_
  refine cm_aload0 (pc := 2) dX2_bestShift_2 ?_
  refine cm_aload0 (pc := 3) dX2_bestShift_3 ?_
  refine cm_V0 (pc := 4) mX2_sun_v mlX2_103 dX2_bestShift_4 hM.1 (by omega) (Nat.le_of_ble_eq_true rfl) (Nat.le_refl _) (Nat.le_refl _) (k_sun (d := d + 2) hM) (fun r4 h4 hq4 => ?_)
  obtain ⟨rfl, rfl⟩ := hq4
  refine cm_V1 (pc := 7) mX2_stallsShaded_v mlX2_134 dX2_bestShift_7 hM.1 (by omega) (Nat.le_of_ble_eq_true rfl) (Nat.le_refl _) (Nat.le_refl _) (k_stallsShaded (d := d) hM hs hns hb hnb) (fun r7 h7 hq7 => ?_)
  obtain ⟨rfl, rfl⟩ := hq7
  refine cm_S1 (pc := 10) mJ6_bitCount_0f7a4_s mlX2_137 dX2_bestShift_10 (by omega) (Nat.le_of_ble_eq_true rfl) (Nat.le_refl _) (Nat.le_refl _) (k_bitCount (d := d + 2) ) (fun r10 h10 hq10 => ?_)
  obtain ⟨rfl, rfl⟩ := hq10
  refine cm_istore2 (pc := 13) dX2_bestShift_13 (by decide) rfl ?_
  refine cm_aload0 (pc := 14) dX2_bestShift_14 ?_
  refine cm_getR (pc := 15) flX2_27 dX2_bestShift_15 hM.1 hM.r9 ?_
  refine cm_iconst (pc := 18) (v := 0) dX2_bestShift_18 (by decide) ?_
  refine mk_getE (pc := 19) (0) dX2_bestShift_19 hM.a6 rfl (by omega) (by decide) ?_
  refine cm_ineg (pc := 20) dX2_bestShift_20 ?_
  refine cm_istore3 (pc := 21) dX2_bestShift_21 (by decide) rfl ?_
  have hst := l_bs (D := D) (hi := hi) (hl := hl) hM h h0 (d := d) _ 0 (Nat.zero_add _) none
  rw [show nI 0 - g 6 0 = - g 6 0 by rw [nI_0]; exact Int32.zero_sub _] at hst
  exact hst
set_option maxRecDepth 20000 in
theorem l_hd (hM : cm_mkt sh hr a) {set : Int32} (hb : g 0 3 = nI nb) (hnb : nb ≤ 6) {X : Bool} : ∀ q k : Nat, k + q = nb → ∀ b : Nat, b < 6 → X = cHd g set q k b → cm_g D mX2_doHold (d + 1) 0 0 (fun r9 h9 => r9 = some (.int (cm_bi X)) ∧ h9 = (sh, cm_us hi a g, hl, hr)) 0 0 27 [some (.ref a), some (.int set), some (.int (nI b)), some (.int (nI k))] [] (sh, cm_us hi a g, hl, hr) := by
  intro q
  induction q with
  | zero =>
    intro k hk b hb6 hX
    have h1 : k = nb := by omega
    subst h1
    refine cm_iload3 (pc := 27) dX2_doHold_27 ?_
    refine cm_aload0 (pc := 28) dX2_doHold_28 ?_
    refine mk_fld (pc := 29) flX2_52 dX2_doHold_29 hM.1 ?_
    rw [hb]
    refine cm_geN (pc := 32) (tgt := 80) dX2_doHold_32 (by decide) (by omega) (by omega) (fun c32 => ?_) (fun c32 => ?_)
    · refine cm_iconst (pc := 80) (v := 1) dX2_doHold_80 (by decide) ?_
      exact cm_zret (pc := 81) dX2_doHold_81 rfl rfl ⟨by rw [hX]; rfl, rfl⟩
    · exact absurd c32 (by omega)
  | succ q ih =>
    intro k hk b hb6 hX
    have hst := ih (k + 1) (by omega)
    refine cm_iload3 (pc := 27) dX2_doHold_27 ?_
    refine cm_aload0 (pc := 28) dX2_doHold_28 ?_
    refine mk_fld (pc := 29) flX2_52 dX2_doHold_29 hM.1 ?_
    rw [hb]
    refine cm_geN (pc := 32) (tgt := 80) dX2_doHold_32 (by decide) (by omega) (by omega) (fun c32 => ?_) (fun c32 => ?_)
    · exact absurd c32 (by omega)
    · refine cm_iload1 (pc := 35) dX2_doHold_35 ?_
      refine cm_iload3 (pc := 36) dX2_doHold_36 ?_
      refine cm_S2 (pc := 37) mX6_isIn_s mlX2_75 dX2_doHold_37 (by omega) (Nat.le_of_ble_eq_true rfl) (Nat.le_refl _) (Nat.le_refl _) (k_isIn (d := d) ) (fun r37 h37 hq37 => ?_)
      obtain ⟨rfl, rfl⟩ := hq37
      refine cm_ifeqB (pc := 40) (tgt := 74) dX2_doHold_40 (by decide) (fun c40 => ?_) (fun c40 => ?_)
      · refine cm_incN3 (pc := 74) dX2_doHold_74 (by decide) rfl ?_
        refine cm_goto (pc := 77) (tgt := 27) dX2_doHold_77 (by decide) ?_
        first
          | exact hst b hb6 (by rw [hX]; simp [cHd, c40])
          | exact hst k (by omega) (by rw [hX]; simp [cHd, c40, c67b])
      · refine cm_aload0 (pc := 43) dX2_doHold_43 ?_
        refine cm_getR (pc := 44) flX2_27 dX2_doHold_44 hM.1 hM.r9 ?_
        refine cm_iload3 (pc := 47) dX2_doHold_47 ?_
        refine mk_get (pc := 48) dX2_doHold_48 hM.a6 (by omega) (by decide) ?_
        refine cm_aload0 (pc := 49) dX2_doHold_49 ?_
        refine cm_getR (pc := 50) flX2_27 dX2_doHold_50 hM.1 hM.r9 ?_
        refine cm_iload2 (pc := 53) dX2_doHold_53 ?_
        refine mk_get (pc := 54) dX2_doHold_54 hM.a6 (by omega) (by decide) ?_
        refine cm_isub (pc := 55) dX2_doHold_55 ?_
        refine cm_aload0 (pc := 56) dX2_doHold_56 ?_
        refine cm_iload2 (pc := 57) dX2_doHold_57 ?_
        refine cm_aload0 (pc := 58) dX2_doHold_58 ?_
        refine cm_getR (pc := 59) flX2_24 dX2_doHold_59 hM.1 hM.r8 ?_
        refine cm_iload3 (pc := 62) dX2_doHold_62 ?_
        refine mk_get (pc := 63) dX2_doHold_63 hM.a5 (by omega) (by decide) ?_
        refine cm_V2 (pc := 64) mX2_slackBehind_v mlX2_55 dX2_doHold_64 hM.1 (by omega) (Nat.le_of_ble_eq_true rfl) (Nat.le_refl _) (Nat.le_refl _) (k_slackBehind (d := d) hM (i := b) (by omega)) (fun r64 h64 hq64 => ?_)
        obtain ⟨rfl, rfl⟩ := hq64
        refine cm_icmp_le (pc := 67) (tgt := 72) dX2_doHold_67 (by decide) (fun c67 => ?_) (fun c67 => ?_)
        · have c67b : ¬ mSlack g b (g 5 k) < g 6 k - g 6 b := Int32.not_lt.mpr c67
          refine cm_iload3 (pc := 72) dX2_doHold_72 ?_
          refine cm_istore2 (pc := 73) dX2_doHold_73 (by decide) rfl ?_
          refine cm_incN3 (pc := 74) dX2_doHold_74 (by decide) rfl ?_
          refine cm_goto (pc := 77) (tgt := 27) dX2_doHold_77 (by decide) ?_
          first
            | exact hst b hb6 (by rw [hX]; simp [cHd, c40])
            | exact hst k (by omega) (by rw [hX]; simp [cHd, c40, c67b])
        · have c67b : mSlack g b (g 5 k) < g 6 k - g 6 b := Int32.not_le.mp c67
          refine cm_iconst (pc := 70) (v := 0) dX2_doHold_70 (by decide) ?_
          exact cm_zret (pc := 71) dX2_doHold_71 rfl rfl ⟨by rw [hX]; simp [cHd, cm_bi, *], rfl⟩
set_option maxRecDepth 20000 in
theorem k_doHold (hM : cm_mkt sh hr a) {set : Int32} (hb : g 0 3 = nI nb) (hnb : nb ≤ 6) (h0 : 0 < nb) : cm_ct D mX2_doHold (d + 1) 0 0 [.ref a, .int set] (sh, cm_us hi a g, hl, hr) (fun r9 h9 => r9 = some (.int (cm_bi (cDoHold g nb set))) ∧ h9 = (sh, cm_us hi a g, hl, hr)) := by
  refine cm_ct_of (ls := [some (.ref a), some (.int set), none, none]) 2 (by decide +kernel) rfl rfl ?_
  refine cm_iload1 (pc := 0) dX2_doHold_0 ?_
  refine cm_iconst (pc := 1) (v := 0) dX2_doHold_1 (by decide) ?_
  refine cm_S2 (pc := 2) mX6_isIn_s mlX2_75 dX2_doHold_2 (by omega) (Nat.le_of_ble_eq_true rfl) (Nat.le_refl _) (Nat.le_refl _) (k_isIn (d := d) ) (fun r2 h2 hq2 => ?_)
  obtain ⟨rfl, rfl⟩ := hq2
  refine cm_ifeqB (pc := 5) (tgt := 21) dX2_doHold_5 (by decide) (fun c5 => ?_) (fun c5 => ?_)
  · refine cm_iconst (pc := 21) (v := 0) dX2_doHold_21 (by decide) ?_
    exact cm_zret (pc := 22) dX2_doHold_22 rfl rfl ⟨by simp [cDoHold, cm_bi, *], rfl⟩
  · refine cm_iload1 (pc := 8) dX2_doHold_8 ?_
    refine cm_aload0 (pc := 9) dX2_doHold_9 ?_
    refine mk_fld (pc := 10) flX2_52 dX2_doHold_10 hM.1 ?_
    rw [hb]
    refine cm_iconst (pc := 13) (v := 1) dX2_doHold_13 (by decide) ?_
    refine cm_isub (pc := 14) dX2_doHold_14 ?_
    rw [show nI nb - 1 = nI (nb - 1) from pk_sub (b := 1) (by omega)]
    refine cm_S2 (pc := 15) mX6_isIn_s mlX2_75 dX2_doHold_15 (by omega) (Nat.le_of_ble_eq_true rfl) (Nat.le_refl _) (Nat.le_refl _) (k_isIn (d := d) ) (fun r15 h15 hq15 => ?_)
    obtain ⟨rfl, rfl⟩ := hq15
    refine cm_ifneB (pc := 18) (tgt := 23) dX2_doHold_18 (by decide) (fun c18 => ?_) (fun c18 => ?_)
    · refine cm_iconst (pc := 23) (v := 0) dX2_doHold_23 (by decide) ?_
      refine cm_istore2 (pc := 24) dX2_doHold_24 (by decide) rfl ?_
      refine cm_iconst (pc := 25) (v := 1) dX2_doHold_25 (by decide) ?_
      refine cm_istore3 (pc := 26) dX2_doHold_26 (by decide) rfl ?_
      exact l_hd hM hb hnb (nb - 1) 1 (by omega) 0 (by omega) (by simp [cDoHold, *])
    · refine cm_iconst (pc := 21) (v := 0) dX2_doHold_21 (by decide) ?_
      exact cm_zret (pc := 22) dX2_doHold_22 rfl rfl ⟨by simp [cDoHold, cm_bi, *], rfl⟩
theorem pw6 {n : Nat} (h0 : 0 < n) (h : n ≤ 6) : 2 ≤ 2 ^ n ∧ 2 ^ n ≤ 64 := ⟨Nat.pow_le_pow_right (n := 2) (by omega) h0, Nat.pow_le_pow_right (n := 2) (by omega) h⟩
set_option maxRecDepth 20000 in
theorem l_few (hM : cm_mkt sh hr a) (hb : g 0 3 = nI nb) (hnb : nb ≤ 6) (h0 : 0 < nb) : ∀ q k : Nat, k + q = (2 ^ nb - 2) → cm_g D mX2_fewestHolders (d + 2) 0 0 (fun r9 h9 => r9 = some (.int (cFew g nb (2 ^ nb - 2))) ∧ h9 = (sh, cm_us hi a g, hl, hr)) 0 0 13 [some (.ref a), some (.int (nI (2 ^ nb - 1))), some (.int (cFew g nb k)), some (.int (nI (k + 1)))] [] (sh, cm_us hi a g, hl, hr) := by
  have hp := pw6 h0 hnb
  intro q
  induction q with
  | zero =>
    intro k hk
    have h1 : 2 ^ nb - 1 ≤ k + 1 := by omega
    have h2 : 2 ^ nb - 2 = k := by omega
    rw [h2]
    refine cm_iload3 (pc := 13) dX2_fewestHolders_13 ?_
    refine cm_iload1 (pc := 14) dX2_fewestHolders_14 ?_
    refine cm_geN (pc := 15) (tgt := 45) dX2_fewestHolders_15 (by decide) (by omega) (by omega) (fun c15 => ?_) (fun c15 => ?_)
    · refine cm_iload2 (pc := 45) dX2_fewestHolders_45 ?_
      exact cm_iret (pc := 46) dX2_fewestHolders_46 rfl ⟨rfl, rfl⟩
    · exact absurd c15 (by omega)
  | succ q ih =>
    intro k hk
    have hst := ih (k + 1) (by omega)
    refine cm_iload3 (pc := 13) dX2_fewestHolders_13 ?_
    refine cm_iload1 (pc := 14) dX2_fewestHolders_14 ?_
    refine cm_geN (pc := 15) (tgt := 45) dX2_fewestHolders_15 (by decide) (by omega) (by omega) (fun c15 => ?_) (fun c15 => ?_)
    · exact absurd c15 (by omega)
    · refine cm_iload3 (pc := 18) dX2_fewestHolders_18 ?_
      refine cm_S1 (pc := 19) mJ6_bitCount_0f7a4_s mlX2_137 dX2_fewestHolders_19 (by omega) (Nat.le_of_ble_eq_true rfl) (Nat.le_refl _) (Nat.le_refl _) (k_bitCount (d := d + 1) ) (fun r19 h19 hq19 => ?_)
      obtain ⟨rfl, rfl⟩ := hq19
      refine cm_iload2 (pc := 22) dX2_fewestHolders_22 ?_
      refine cm_S1 (pc := 23) mJ6_bitCount_0f7a4_s mlX2_137 dX2_fewestHolders_23 (by omega) (Nat.le_of_ble_eq_true rfl) (Nat.le_refl _) (Nat.le_refl _) (k_bitCount (d := d + 1) ) (fun r23 h23 hq23 => ?_)
      obtain ⟨rfl, rfl⟩ := hq23
      refine cm_icmp_ge (pc := 26) (tgt := 39) dX2_fewestHolders_26 (by decide) (fun c26 => ?_) (fun c26 => ?_)
      · have c26b : ¬ bitC (nI (k + 1)) < bitC (cFew g nb k) := Int32.not_lt.mpr c26
        refine cm_incN3 (pc := 39) dX2_fewestHolders_39 (by decide) rfl ?_
        refine cm_goto (tgt := 13) (pc := 42) dX2_fewestHolders_42 (by decide) ?_
        first
          | (rw [show cFew g nb (k + 1) = nI (k + 1) by unfold cFew; rw [if_pos ⟨c26b, c34⟩]] at hst; exact hst)
          | (rw [show cFew g nb (k + 1) = cFew g nb k from if_neg (fun w => by first | exact c26b w.1 | (rw [c34] at w; exact absurd w.2 (by decide)))] at hst; exact hst)
      · have c26b : bitC (nI (k + 1)) < bitC (cFew g nb k) := Int32.not_le.mp c26
        refine cm_aload0 (pc := 29) dX2_fewestHolders_29 ?_
        refine cm_iload3 (pc := 30) dX2_fewestHolders_30 ?_
        refine cm_V1 (pc := 31) mX2_doHold_v mlX2_142 dX2_fewestHolders_31 hM.1 (by omega) (Nat.le_of_ble_eq_true rfl) (Nat.le_refl _) (Nat.le_refl _) (k_doHold (d := d) hM hb hnb h0) (fun r31 h31 hq31 => ?_)
        obtain ⟨rfl, rfl⟩ := hq31
        refine cm_ifeqB (pc := 34) (tgt := 39) dX2_fewestHolders_34 (by decide) (fun c34 => ?_) (fun c34 => ?_)
        · refine cm_incN3 (pc := 39) dX2_fewestHolders_39 (by decide) rfl ?_
          refine cm_goto (tgt := 13) (pc := 42) dX2_fewestHolders_42 (by decide) ?_
          first
            | (rw [show cFew g nb (k + 1) = nI (k + 1) by unfold cFew; rw [if_pos ⟨c26b, c34⟩]] at hst; exact hst)
            | (rw [show cFew g nb (k + 1) = cFew g nb k from if_neg (fun w => by first | exact c26b w.1 | (rw [c34] at w; exact absurd w.2 (by decide)))] at hst; exact hst)
        · refine cm_iload3 (pc := 37) dX2_fewestHolders_37 ?_
          refine cm_istore2 (pc := 38) dX2_fewestHolders_38 (by decide) rfl ?_
          refine cm_incN3 (pc := 39) dX2_fewestHolders_39 (by decide) rfl ?_
          refine cm_goto (tgt := 13) (pc := 42) dX2_fewestHolders_42 (by decide) ?_
          first
            | (rw [show cFew g nb (k + 1) = nI (k + 1) by unfold cFew; rw [if_pos ⟨c26b, c34⟩]] at hst; exact hst)
            | (rw [show cFew g nb (k + 1) = cFew g nb k from if_neg (fun w => by first | exact c26b w.1 | (rw [c34] at w; exact absurd w.2 (by decide)))] at hst; exact hst)
set_option maxRecDepth 20000 in
theorem k_fewestHolders (hM : cm_mkt sh hr a) (hb : g 0 3 = nI nb) (hnb : nb ≤ 6) (h0 : 0 < nb) : cm_ct D mX2_fewestHolders (d + 2) 0 0 [.ref a] (sh, cm_us hi a g, hl, hr) (fun r9 h9 => r9 = some (.int (cFew g nb (2 ^ nb - 2))) ∧ h9 = (sh, cm_us hi a g, hl, hr)) := by
  refine cm_ct_of (ls := [some (.ref a), none, none, none]) 3 (by decide +kernel) rfl rfl ?_
  refine cm_iconst (pc := 0) (v := 1) dX2_fewestHolders_0 (by decide) ?_
  refine cm_aload0 (pc := 1) dX2_fewestHolders_1 ?_
  refine mk_fld (pc := 2) flX2_52 dX2_fewestHolders_2 hM.1 ?_
  rw [hb]
  refine cm_ishl (pc := 5) dX2_fewestHolders_5 ?_
  refine cm_iconst (pc := 6) (v := 1) dX2_fewestHolders_6 (by decide) ?_
  refine cm_isub (pc := 7) dX2_fewestHolders_7 ?_
  rw [all_nI nb hnb]
  refine cm_istore1 (pc := 8) dX2_fewestHolders_8 (by decide) rfl ?_
  refine cm_iload1 (pc := 9) dX2_fewestHolders_9 ?_
  refine cm_istore2 (pc := 10) dX2_fewestHolders_10 (by decide) rfl ?_
  refine cm_iconst (pc := 11) (v := 1) dX2_fewestHolders_11 (by decide) ?_
  refine cm_istore3 (pc := 12) dX2_fewestHolders_12 (by decide) rfl ?_
  exact l_few hM hb hnb h0 (2 ^ nb - 2) 0 (by omega)
set_option maxRecDepth 20000 in
theorem k_addStall (hM : cm_mkt sh hr a) {x y z : Int32} (hs : g 0 2 = nI ns) (hns : ns < 6) : cm_ct D mX2_addStall d 0 0 [.ref a, .int x, .int y, .int z] (sh, cm_us hi a g, hl, hr) (fun r9 h9 => r9 = none ∧ ∃ G, h9 = (sh, cm_us hi a G, hl, hr) ∧ G 1 = upd (g 1) ns x ∧ G 2 = upd (g 2) ns y ∧ G 3 = upd (g 3) ns z ∧ G 4 = upd (g 4) ns 0 ∧ G 0 = upd (g 0) 2 (nI (ns + 1)) ∧ ∀ c, 4 < c → G c = g c) := by
  refine cm_ct_of (ls := [some (.ref a), some (.int x), some (.int y), some (.int z)]) 0 (by decide +kernel) rfl rfl ?_
  refine cm_aload0 (pc := 0) dX2_addStall_0 ?_
  refine mk_fld (pc := 1) flX2_49 dX2_addStall_1 hM.1 ?_
  rw [hs]
  refine cm_bipush (pc := 4) (v := 6) dX2_addStall_4 (by decide) ?_
  refine cm_icmp_ge (pc := 6) (tgt := 59) dX2_addStall_6 (by decide) (fun q => absurd q (nI_ge (a := ns) (b := 6) (by omega) (by omega))) (fun c6 => ?_)
  refine cm_aload0 (pc := 9) dX2_addStall_9 ?_
  refine cm_getR (pc := 10) flX2_9 dX2_addStall_10 hM.1 hM.r4 ?_
  refine cm_aload0 (pc := 13) dX2_addStall_13 ?_
  refine mk_fld (pc := 14) flX2_49 dX2_addStall_14 hM.1 ?_
  rw [hs]
  refine cm_iload1 (pc := 17) dX2_addStall_17 ?_
  refine mk_put (pc := 18) dX2_addStall_18 hM.a1 (by omega) (by decide) ?_
  refine cm_mkG (fun G18 e18 f18 => ?_)
  refine cm_aload0 (pc := 19) dX2_addStall_19 ?_
  refine cm_getR (pc := 20) flX2_15 dX2_addStall_20 hM.1 hM.r5 ?_
  refine cm_aload0 (pc := 23) dX2_addStall_23 ?_
  refine mk_fld (pc := 24) flX2_49 dX2_addStall_24 hM.1 ?_
  rw [e18 _ (by decide), hs]
  refine cm_iload2 (pc := 27) dX2_addStall_27 ?_
  refine mk_put (pc := 28) dX2_addStall_28 hM.a2 (by omega) (by decide) ?_
  refine cm_mkG (fun G28 e28 f28 => ?_)
  refine cm_aload0 (pc := 29) dX2_addStall_29 ?_
  refine cm_getR (pc := 30) flX2_18 dX2_addStall_30 hM.1 hM.r6 ?_
  refine cm_aload0 (pc := 33) dX2_addStall_33 ?_
  refine mk_fld (pc := 34) flX2_49 dX2_addStall_34 hM.1 ?_
  rw [e28 _ (by decide), e18 _ (by decide), hs]
  refine cm_iload3 (pc := 37) dX2_addStall_37 ?_
  refine mk_put (pc := 38) dX2_addStall_38 hM.a3 (by omega) (by decide) ?_
  refine cm_mkG (fun G38 e38 f38 => ?_)
  refine cm_aload0 (pc := 39) dX2_addStall_39 ?_
  refine cm_getR (pc := 40) flX2_21 dX2_addStall_40 hM.1 hM.r7 ?_
  refine cm_aload0 (pc := 43) dX2_addStall_43 ?_
  refine mk_fld (pc := 44) flX2_49 dX2_addStall_44 hM.1 ?_
  rw [e38 _ (by decide), e28 _ (by decide), e18 _ (by decide), hs]
  refine cm_iconst (pc := 47) (v := 0) dX2_addStall_47 (by decide) ?_
  refine mk_put (pc := 48) dX2_addStall_48 hM.a4 (by omega) (by decide) ?_
  refine cm_mkG (fun G48 e48 f48 => ?_)
  refine cm_aload0 (pc := 49) dX2_addStall_49 ?_
  refine cm_dup (pc := 50) dX2_addStall_50 rfl ?_
  refine mk_fld (pc := 51) flX2_49 dX2_addStall_51 hM.1 ?_
  rw [e48 _ (by decide), e38 _ (by decide), e28 _ (by decide), e18 _ (by decide), hs]
  refine cm_iconst (pc := 54) (v := 1) dX2_addStall_54 (by decide) ?_
  refine cm_iadd (pc := 55) dX2_addStall_55 ?_
  rw [nI_1]
  refine mk_set (pc := 56) fpX2_49 dX2_addStall_56 hM.1 ?_
  refine cm_mkG (fun G56 e56 f56 => ?_)
  exact cm_vret (pc := 59) dX2_addStall_59 rfl ⟨rfl, G56, rfl, by rw [e56 _ (by decide), e48 _ (by decide), e38 _ (by decide), e28 _ (by decide), f18], by rw [e56 _ (by decide), e48 _ (by decide), e38 _ (by decide), f28, e18 _ (by decide)], by rw [e56 _ (by decide), e48 _ (by decide), f38, e28 _ (by decide), e18 _ (by decide)], by rw [e56 _ (by decide), f48, e38 _ (by decide), e28 _ (by decide), e18 _ (by decide)], by rw [f56, e48 _ (by decide), e38 _ (by decide), e28 _ (by decide), e18 _ (by decide)], fun c hc => by rw [e56 _ (by omega), e48 _ (by omega), e38 _ (by omega), e28 _ (by omega), e18 _ (by omega)]⟩
set_option maxRecDepth 20000 in
theorem k_canAddBuyer (hM : cm_mkt sh hr a) {kd x : Int32} (hb : g 0 3 = nI nb) (hnb : nb ≤ 6) : cm_ct D mX2_canAddBuyer (d + 1) 0 0 [.ref a, .int kd, .int x] (sh, cm_us hi a g, hl, hr) (fun r9 h9 => r9 = some (.int (cm_bi (cCanB g nb kd x))) ∧ h9 = (sh, cm_us hi a g, hl, hr)) := by
  refine cm_ct_of (ls := [some (.ref a), some (.int kd), some (.int x), none]) 1 (by decide +kernel) rfl rfl ?_
  refine cm_aload0 (pc := 0) dX2_canAddBuyer_0 ?_
  refine mk_fld (pc := 1) flX2_52 dX2_canAddBuyer_1 hM.1 ?_
  rw [hb]
  refine cm_if_eq (pc := 4) (tgt := 16) dX2_canAddBuyer_4 (by decide) (fun c4 => ?_) (fun c4 => ?_)
  · have h0 : nb = 0 := by
      rcases Nat.eq_zero_or_pos nb with q | q
      · exact q
      · exact absurd c4 (nI_ne0 q (by omega))
    refine cm_aload0 (pc := 16) dX2_canAddBuyer_16 ?_
    refine mk_fld (pc := 17) flX2_52 dX2_canAddBuyer_17 hM.1 ?_
    rw [hb]
    refine cm_if_ne (pc := 20) (tgt := 27) dX2_canAddBuyer_20 (by decide) (fun c20 => ?_) (fun c20 => ?_)
    · first
        | exact absurd c20 (nI_ne0 h0 (by omega))
        | (refine cm_iconst (pc := 27) (v := 0) dX2_canAddBuyer_27 (by decide) ?_
           exact cm_zret (pc := 28) dX2_canAddBuyer_28 rfl rfl ⟨by unfold cCanB; rw [if_neg (by omega), if_pos h6]; rfl, rfl⟩)
        | exact absurd (by subst h0; rfl) c20
    · first
        | exact absurd c20 (nI_ne0 h0 (by omega))
        | (refine cm_iconst (pc := 23) (v := 1) dX2_canAddBuyer_23 (by decide) ?_
           refine cm_goto (tgt := 28) (pc := 24) dX2_canAddBuyer_24 (by decide) ?_
           exact cm_zret (pc := 28) dX2_canAddBuyer_28 rfl rfl ⟨by simp [cCanB, cm_bi, h0], rfl⟩)
  · have h0 : 0 < nb := by
      rcases Nat.eq_zero_or_pos nb with q | q
      · subst q; exact absurd rfl c4
      · exact q
    refine cm_aload0 (pc := 7) dX2_canAddBuyer_7 ?_
    refine mk_fld (pc := 8) flX2_52 dX2_canAddBuyer_8 hM.1 ?_
    rw [hb]
    refine cm_bipush (pc := 11) (v := 6) dX2_canAddBuyer_11 (by decide) ?_
    refine cm_icmp_lt (pc := 13) (tgt := 29) dX2_canAddBuyer_13 (by decide) (fun c13 => ?_) (fun c13 => ?_)
    · have h6 : ¬ 6 ≤ nb := fun q => absurd c13 (nI_nlt (a := nb) (b := 6) q (by omega))
      refine cm_iload2 (pc := 29) dX2_canAddBuyer_29 ?_
      refine cm_aload0 (pc := 30) dX2_canAddBuyer_30 ?_
      refine cm_getR (pc := 31) flX2_27 dX2_canAddBuyer_31 hM.1 hM.r9 ?_
      refine cm_aload0 (pc := 34) dX2_canAddBuyer_34 ?_
      refine mk_fld (pc := 35) flX2_52 dX2_canAddBuyer_35 hM.1 ?_
      rw [hb]
      refine cm_iconst (pc := 38) (v := 1) dX2_canAddBuyer_38 (by decide) ?_
      refine cm_isub (pc := 39) dX2_canAddBuyer_39 ?_
      rw [show nI nb - 1 = nI (nb - 1) from pk_sub (b := 1) (by omega)]
      refine mk_get (pc := 40) dX2_canAddBuyer_40 hM.a6 (by omega) (by decide) ?_
      refine cm_isub (pc := 41) dX2_canAddBuyer_41 ?_
      refine cm_istore3 (pc := 42) dX2_canAddBuyer_42 (by decide) rfl ?_
      refine cm_iload3 (pc := 43) dX2_canAddBuyer_43 ?_
      refine cm_if_le (pc := 44) (tgt := 66) dX2_canAddBuyer_44 (by decide) (fun c44 => ?_) (fun c44 => ?_)
      · refine cm_iconst (pc := 66) (v := 0) dX2_canAddBuyer_66 (by decide) ?_
        exact cm_zret (pc := 67) dX2_canAddBuyer_67 rfl rfl ⟨by unfold cCanB; rw [if_neg (by omega), if_neg h6]; simp [cm_bi, *], rfl⟩
      · refine cm_iload3 (pc := 47) dX2_canAddBuyer_47 ?_
        refine cm_aload0 (pc := 48) dX2_canAddBuyer_48 ?_
        refine cm_aload0 (pc := 49) dX2_canAddBuyer_49 ?_
        refine mk_fld (pc := 50) flX2_52 dX2_canAddBuyer_50 hM.1 ?_
        rw [hb]
        refine cm_iconst (pc := 53) (v := 1) dX2_canAddBuyer_53 (by decide) ?_
        refine cm_isub (pc := 54) dX2_canAddBuyer_54 ?_
        rw [show nI nb - 1 = nI (nb - 1) from pk_sub (b := 1) (by omega)]
        refine cm_iload1 (pc := 55) dX2_canAddBuyer_55 ?_
        refine cm_V2 (pc := 56) mX2_slackBehind_v mlX2_55 dX2_canAddBuyer_56 hM.1 (by omega) (Nat.le_of_ble_eq_true rfl) (Nat.le_refl _) (Nat.le_refl _) (k_slackBehind (d := d) hM (i := nb - 1) (by omega)) (fun r56 h56 hq56 => ?_)
        obtain ⟨rfl, rfl⟩ := hq56
        refine cm_icmp_gt (pc := 59) (tgt := 66) dX2_canAddBuyer_59 (by decide) (fun c59 => ?_) (fun c59 => ?_)
        · refine cm_iconst (pc := 66) (v := 0) dX2_canAddBuyer_66 (by decide) ?_
          exact cm_zret (pc := 67) dX2_canAddBuyer_67 rfl rfl ⟨by unfold cCanB; rw [if_neg (by omega), if_neg h6]; simp [cm_bi, *], rfl⟩
        · refine cm_iconst (pc := 62) (v := 1) dX2_canAddBuyer_62 (by decide) ?_
          refine cm_goto (pc := 63) (tgt := 67) dX2_canAddBuyer_63 (by decide) ?_
          exact cm_zret (pc := 67) dX2_canAddBuyer_67 rfl rfl ⟨by unfold cCanB; rw [if_neg (by omega), if_neg h6]; simp [cm_bi, *], rfl⟩
    · have h6 : 6 ≤ nb := by
        rcases Nat.lt_or_ge nb 6 with q | q
        · exact absurd (nI_lt (a := nb) (b := 6) q (by omega)) c13
        · exact q
      refine cm_aload0 (pc := 16) dX2_canAddBuyer_16 ?_
      refine mk_fld (pc := 17) flX2_52 dX2_canAddBuyer_17 hM.1 ?_
      rw [hb]
      refine cm_if_ne (pc := 20) (tgt := 27) dX2_canAddBuyer_20 (by decide) (fun c20 => ?_) (fun c20 => ?_)
      · first
          | exact absurd c20 (nI_ne0 h0 (by omega))
          | (refine cm_iconst (pc := 27) (v := 0) dX2_canAddBuyer_27 (by decide) ?_
             exact cm_zret (pc := 28) dX2_canAddBuyer_28 rfl rfl ⟨by unfold cCanB; rw [if_neg (by omega), if_pos h6]; rfl, rfl⟩)
          | exact absurd (by subst h0; rfl) c20
      · first
          | exact absurd c20 (nI_ne0 h0 (by omega))
          | (refine cm_iconst (pc := 23) (v := 1) dX2_canAddBuyer_23 (by decide) ?_
             refine cm_goto (tgt := 28) (pc := 24) dX2_canAddBuyer_24 (by decide) ?_
             exact cm_zret (pc := 28) dX2_canAddBuyer_28 rfl rfl ⟨by simp [cCanB, cm_bi, h0], rfl⟩)
set_option maxRecDepth 20000 in
theorem k_addBuyer (hM : cm_mkt sh hr a) {kd x y : Int32} (hb : g 0 3 = nI nb) (hnb : nb < 6) : cm_ct D mX2_addBuyer (d + 1) 0 0 [.ref a, .int kd, .int x, .int y] (sh, cm_us hi a g, hl, hr) (fun r9 h9 => r9 = none ∧ ∃ G, h9 = (sh, cm_us hi a G, hl, hr) ∧ G 9 = upd (g 9) nb (if nb = 0 then 20 else mSlack g (nb - 1) kd) ∧ G 5 = upd (g 5) nb kd ∧ G 6 = upd (g 6) nb x ∧ G 7 = upd (g 7) nb y ∧ G 8 = upd (g 8) nb 0 ∧ G 0 = upd (g 0) 3 (nI (nb + 1)) ∧ ∀ c, (c < 5 ∧ 0 < c) ∨ 9 < c → G c = g c) := by
  refine cm_ct_of (ls := [some (.ref a), some (.int kd), some (.int x), some (.int y)]) 0 (by decide +kernel) rfl rfl ?_
  refine cm_aload0 (pc := 0) dX2_addBuyer_0 ?_
  refine mk_fld (pc := 1) flX2_52 dX2_addBuyer_1 hM.1 ?_
  rw [hb]
  refine cm_bipush (pc := 4) (v := 6) dX2_addBuyer_4 (by decide) ?_
  refine cm_icmp_ge (pc := 6) (tgt := 91) dX2_addBuyer_6 (by decide) (fun q => absurd q (nI_ge (a := nb) (b := 6) (by omega) (by omega))) (fun c6 => ?_)
  refine cm_aload0 (pc := 9) dX2_addBuyer_9 ?_
  refine cm_getR (pc := 10) flX2_36 dX2_addBuyer_10 hM.1 hM.r12 ?_
  refine cm_aload0 (pc := 13) dX2_addBuyer_13 ?_
  refine mk_fld (pc := 14) flX2_52 dX2_addBuyer_14 hM.1 ?_
  rw [hb]
  refine cm_aload0 (pc := 17) dX2_addBuyer_17 ?_
  refine mk_fld (pc := 18) flX2_52 dX2_addBuyer_18 hM.1 ?_
  rw [hb]
  refine cm_if_ne (pc := 21) (tgt := 29) dX2_addBuyer_21 (by decide) (fun c21 => ?_) (fun c21 => ?_)
  · have h0 : 0 < nb := by
      rcases Nat.eq_zero_or_pos nb with q | q
      · subst q; exact absurd rfl c21
      · exact q
    refine cm_aload0 (pc := 29) dX2_addBuyer_29 ?_
    refine cm_aload0 (pc := 30) dX2_addBuyer_30 ?_
    refine mk_fld (pc := 31) flX2_52 dX2_addBuyer_31 hM.1 ?_
    rw [hb]
    refine cm_iconst (pc := 34) (v := 1) dX2_addBuyer_34 (by decide) ?_
    refine cm_isub (pc := 35) dX2_addBuyer_35 ?_
    rw [show nI nb - 1 = nI (nb - 1) from pk_sub (b := 1) (by omega)]
    refine cm_iload1 (pc := 36) dX2_addBuyer_36 ?_
    refine cm_V2 (pc := 37) mX2_slackBehind_v mlX2_55 dX2_addBuyer_37 hM.1 (by omega) (Nat.le_of_ble_eq_true rfl) (Nat.le_refl _) (Nat.le_refl _) (k_slackBehind (d := d) hM (i := nb - 1) (by omega)) (fun r37 h37 hq37 => ?_)
    obtain ⟨rfl, rfl⟩ := hq37
    refine mk_put (pc := 40) dX2_addBuyer_40 hM.a9 (by omega) (by decide) ?_
    refine cm_mkG (fun G40 e40 f40 => ?_)
    refine cm_aload0 (pc := 41) dX2_addBuyer_41 ?_
    refine cm_getR (pc := 42) flX2_24 dX2_addBuyer_42 hM.1 hM.r8 ?_
    refine cm_aload0 (pc := 45) dX2_addBuyer_45 ?_
    refine mk_fld (pc := 46) flX2_52 dX2_addBuyer_46 hM.1 ?_
    rw [e40 _ (by decide), hb]
    refine cm_iload1 (pc := 49) dX2_addBuyer_49 ?_
    refine mk_put (pc := 50) dX2_addBuyer_50 hM.a5 (by omega) (by decide) ?_
    refine cm_mkG (fun G50 e50 f50 => ?_)
    refine cm_aload0 (pc := 51) dX2_addBuyer_51 ?_
    refine cm_getR (pc := 52) flX2_27 dX2_addBuyer_52 hM.1 hM.r9 ?_
    refine cm_aload0 (pc := 55) dX2_addBuyer_55 ?_
    refine mk_fld (pc := 56) flX2_52 dX2_addBuyer_56 hM.1 ?_
    rw [e50 _ (by decide), e40 _ (by decide), hb]
    refine cm_iload2 (pc := 59) dX2_addBuyer_59 ?_
    refine mk_put (pc := 60) dX2_addBuyer_60 hM.a6 (by omega) (by decide) ?_
    refine cm_mkG (fun G60 e60 f60 => ?_)
    refine cm_aload0 (pc := 61) dX2_addBuyer_61 ?_
    refine cm_getR (pc := 62) flX2_30 dX2_addBuyer_62 hM.1 hM.r10 ?_
    refine cm_aload0 (pc := 65) dX2_addBuyer_65 ?_
    refine mk_fld (pc := 66) flX2_52 dX2_addBuyer_66 hM.1 ?_
    rw [e60 _ (by decide), e50 _ (by decide), e40 _ (by decide), hb]
    refine cm_iload3 (pc := 69) dX2_addBuyer_69 ?_
    refine mk_put (pc := 70) dX2_addBuyer_70 hM.a7 (by omega) (by decide) ?_
    refine cm_mkG (fun G70 e70 f70 => ?_)
    refine cm_aload0 (pc := 71) dX2_addBuyer_71 ?_
    refine cm_getR (pc := 72) flX2_33 dX2_addBuyer_72 hM.1 hM.r11 ?_
    refine cm_aload0 (pc := 75) dX2_addBuyer_75 ?_
    refine mk_fld (pc := 76) flX2_52 dX2_addBuyer_76 hM.1 ?_
    rw [e70 _ (by decide), e60 _ (by decide), e50 _ (by decide), e40 _ (by decide), hb]
    refine cm_iconst (pc := 79) (v := 0) dX2_addBuyer_79 (by decide) ?_
    refine mk_put (pc := 80) dX2_addBuyer_80 hM.a8 (by omega) (by decide) ?_
    refine cm_mkG (fun G80 e80 f80 => ?_)
    refine cm_aload0 (pc := 81) dX2_addBuyer_81 ?_
    refine cm_dup (pc := 82) dX2_addBuyer_82 rfl ?_
    refine mk_fld (pc := 83) flX2_52 dX2_addBuyer_83 hM.1 ?_
    rw [e80 _ (by decide), e70 _ (by decide), e60 _ (by decide), e50 _ (by decide), e40 _ (by decide), hb]
    refine cm_iconst (pc := 86) (v := 1) dX2_addBuyer_86 (by decide) ?_
    refine cm_iadd (pc := 87) dX2_addBuyer_87 ?_
    rw [nI_1]
    refine mk_set (pc := 88) fpX2_52 dX2_addBuyer_88 hM.1 ?_
    refine cm_mkG (fun G88 e88 f88 => ?_)
    exact cm_vret (pc := 91) dX2_addBuyer_91 rfl ⟨rfl, G88, rfl, by rw [e88 _ (by decide), e80 _ (by decide), e70 _ (by decide), e60 _ (by decide), e50 _ (by decide), f40]; by_cases q9 : nb = 0 <;> first | (exfalso; omega) | simp [q9], by rw [e88 _ (by decide), e80 _ (by decide), e70 _ (by decide), e60 _ (by decide), f50, e40 _ (by decide)], by rw [e88 _ (by decide), e80 _ (by decide), e70 _ (by decide), f60, e50 _ (by decide), e40 _ (by decide)], by rw [e88 _ (by decide), e80 _ (by decide), f70, e60 _ (by decide), e50 _ (by decide), e40 _ (by decide)], by rw [e88 _ (by decide), f80, e70 _ (by decide), e60 _ (by decide), e50 _ (by decide), e40 _ (by decide)], by rw [f88, e80 _ (by decide), e70 _ (by decide), e60 _ (by decide), e50 _ (by decide), e40 _ (by decide)], fun c hc => by rw [e88 _ (by omega), e80 _ (by omega), e70 _ (by omega), e60 _ (by omega), e50 _ (by omega), e40 _ (by omega)]⟩
  · have h0 : nb = 0 := by
      rcases Nat.eq_zero_or_pos nb with q | q
      · exact q
      · exact absurd c21 (nI_ne0 q (by omega))
    refine cm_bipush (pc := 24) (v := 20) dX2_addBuyer_24 (by decide) ?_
    refine cm_goto (pc := 26) (tgt := 40) dX2_addBuyer_26 (by decide) ?_
    refine mk_put (pc := 40) dX2_addBuyer_40 hM.a9 (by omega) (by decide) ?_
    refine cm_mkG (fun G40 e40 f40 => ?_)
    refine cm_aload0 (pc := 41) dX2_addBuyer_41 ?_
    refine cm_getR (pc := 42) flX2_24 dX2_addBuyer_42 hM.1 hM.r8 ?_
    refine cm_aload0 (pc := 45) dX2_addBuyer_45 ?_
    refine mk_fld (pc := 46) flX2_52 dX2_addBuyer_46 hM.1 ?_
    rw [e40 _ (by decide), hb]
    refine cm_iload1 (pc := 49) dX2_addBuyer_49 ?_
    refine mk_put (pc := 50) dX2_addBuyer_50 hM.a5 (by omega) (by decide) ?_
    refine cm_mkG (fun G50 e50 f50 => ?_)
    refine cm_aload0 (pc := 51) dX2_addBuyer_51 ?_
    refine cm_getR (pc := 52) flX2_27 dX2_addBuyer_52 hM.1 hM.r9 ?_
    refine cm_aload0 (pc := 55) dX2_addBuyer_55 ?_
    refine mk_fld (pc := 56) flX2_52 dX2_addBuyer_56 hM.1 ?_
    rw [e50 _ (by decide), e40 _ (by decide), hb]
    refine cm_iload2 (pc := 59) dX2_addBuyer_59 ?_
    refine mk_put (pc := 60) dX2_addBuyer_60 hM.a6 (by omega) (by decide) ?_
    refine cm_mkG (fun G60 e60 f60 => ?_)
    refine cm_aload0 (pc := 61) dX2_addBuyer_61 ?_
    refine cm_getR (pc := 62) flX2_30 dX2_addBuyer_62 hM.1 hM.r10 ?_
    refine cm_aload0 (pc := 65) dX2_addBuyer_65 ?_
    refine mk_fld (pc := 66) flX2_52 dX2_addBuyer_66 hM.1 ?_
    rw [e60 _ (by decide), e50 _ (by decide), e40 _ (by decide), hb]
    refine cm_iload3 (pc := 69) dX2_addBuyer_69 ?_
    refine mk_put (pc := 70) dX2_addBuyer_70 hM.a7 (by omega) (by decide) ?_
    refine cm_mkG (fun G70 e70 f70 => ?_)
    refine cm_aload0 (pc := 71) dX2_addBuyer_71 ?_
    refine cm_getR (pc := 72) flX2_33 dX2_addBuyer_72 hM.1 hM.r11 ?_
    refine cm_aload0 (pc := 75) dX2_addBuyer_75 ?_
    refine mk_fld (pc := 76) flX2_52 dX2_addBuyer_76 hM.1 ?_
    rw [e70 _ (by decide), e60 _ (by decide), e50 _ (by decide), e40 _ (by decide), hb]
    refine cm_iconst (pc := 79) (v := 0) dX2_addBuyer_79 (by decide) ?_
    refine mk_put (pc := 80) dX2_addBuyer_80 hM.a8 (by omega) (by decide) ?_
    refine cm_mkG (fun G80 e80 f80 => ?_)
    refine cm_aload0 (pc := 81) dX2_addBuyer_81 ?_
    refine cm_dup (pc := 82) dX2_addBuyer_82 rfl ?_
    refine mk_fld (pc := 83) flX2_52 dX2_addBuyer_83 hM.1 ?_
    rw [e80 _ (by decide), e70 _ (by decide), e60 _ (by decide), e50 _ (by decide), e40 _ (by decide), hb]
    refine cm_iconst (pc := 86) (v := 1) dX2_addBuyer_86 (by decide) ?_
    refine cm_iadd (pc := 87) dX2_addBuyer_87 ?_
    rw [nI_1]
    refine mk_set (pc := 88) fpX2_52 dX2_addBuyer_88 hM.1 ?_
    refine cm_mkG (fun G88 e88 f88 => ?_)
    exact cm_vret (pc := 91) dX2_addBuyer_91 rfl ⟨rfl, G88, rfl, by rw [e88 _ (by decide), e80 _ (by decide), e70 _ (by decide), e60 _ (by decide), e50 _ (by decide), f40]; by_cases q9 : nb = 0 <;> first | (exfalso; omega) | simp [q9], by rw [e88 _ (by decide), e80 _ (by decide), e70 _ (by decide), e60 _ (by decide), f50, e40 _ (by decide)], by rw [e88 _ (by decide), e80 _ (by decide), e70 _ (by decide), f60, e50 _ (by decide), e40 _ (by decide)], by rw [e88 _ (by decide), e80 _ (by decide), f70, e60 _ (by decide), e50 _ (by decide), e40 _ (by decide)], by rw [e88 _ (by decide), f80, e70 _ (by decide), e60 _ (by decide), e50 _ (by decide), e40 _ (by decide)], by rw [f88, e80 _ (by decide), e70 _ (by decide), e60 _ (by decide), e50 _ (by decide), e40 _ (by decide)], fun c hc => by rw [e88 _ (by omega), e80 _ (by omega), e70 _ (by omega), e60 _ (by omega), e50 _ (by omega), e40 _ (by omega)]⟩
end MK8
