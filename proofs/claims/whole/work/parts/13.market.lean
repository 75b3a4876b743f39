/-! PART market: Market's small methods -/
def cm_oi : Option Nat → Int32
  | none => -9
  | some k => nI k
def mSun (g : cm_g2) : Int32 := g 0 1 - g 0 1 / 7 * 7 - 3
def mRich (g : cm_g2) (i : Nat) : Bool := decide (g 5 i = 1) || decide (g 5 i = 5)
def mOf (g : cm_g2) (i : Nat) (k : Int32) : Bool := decide (g 5 i = k) || (decide (k = 1) && decide (g 5 i = 5)) || (decide (k = 2) && decide (g 5 i = 4))
def mGap (g : cm_g2) (i : Nat) (wa wb : Int32) : Int32 := g 6 i + wb - g 6 (i - 1) - wa
def mHolds (g : cm_g2) (i : Nat) (wa wb : Int32) : Bool := !decide (mGap g i wa wb ≤ 0) && !decide (g 9 i < mGap g i wa wb)
def mCan (g : cm_g2) (f t : Option Nat) (way : Int32) : Bool := match f, t with
  | some f, some t => !decide (g 6 f + way < 0) && !decide (20 ≤ g 6 t + way)
  | _, _ => false
def mFirst (g : cm_g2) (way : Int32) : Nat → Option Nat
  | 0 => some 0
  | f + 1 => if mHolds g (f + 1) 0 way then some (f + 1) else if mRich g f then none else mFirst g way f
def mLast (g : cm_g2) (nb : Nat) (way : Int32) : Nat → Nat → Option Nat
  | 0, t => some t
  | n + 1, t => if t + 1 < nb then (if mHolds g (t + 1) way 0 then some t else if mRich g (t + 1) then none else mLast g nb way n (t + 1)) else some t
def mLastSpot (g : cm_g2) (nb : Nat) : Int32 := if nb = 0 then 0 else g 6 (nb - 1)
def mShaded (g : cm_g2) (nb : Nat) (at_ mv : Int32) : Bool := decide (0 < nb) && (!decide (at_ < g 6 0 + mv) && !decide (mLastSpot g nb + mv < at_))
def mHere (g : cm_g2) (at_ gd : Int32) : Nat → Nat → Option Nat
  | 0, _ => none
  | n + 1, k => if g 1 k = at_ ∧ g 2 k = gd then some k else mHere g at_ gd n (k + 1)
theorem cm_oi_ne {k : Nat} (h : k < 6) : ¬ cm_oi (some k) = -9 := by
  rcases (show k = 0 ∨ k = 1 ∨ k = 2 ∨ k = 3 ∨ k = 4 ∨ k = 5 by omega) with rfl | rfl | rfl | rfl | rfl | rfl <;> decide
section MK2
variable {D : cm_D} {d : Nat} {sh : List cm_Sh} {hi g : cm_g2} {hl : Nat → Nat → Int64} {hr : Nat → Nat → Option Nat} {a : Nat} 
set_option maxRecDepth 20000 in
theorem k_isRich (hM : cm_mkt sh hr a) {i : Nat} (hi6 : i < 6) : cm_ct D mX2_isRich d 0 0 [.ref a, .int (nI i)] (sh, cm_us hi a g, hl, hr) (fun r9 h9 => r9 = some (.int (cm_bi (mRich g i))) ∧ h9 = (sh, cm_us hi a g, hl, hr)) := by
  refine cm_ct_of (ls := [some (.ref a), some (.int (nI i))]) 0 (by decide +kernel) rfl rfl ?_
  refine cm_aload0 (pc := 0) dX2_isRich_0 ?_
  refine cm_getR (pc := 1) flX2_24 dX2_isRich_1 hM.1 hM.r8 ?_
  refine cm_iload1 (pc := 4) dX2_isRich_4 ?_
  refine mk_get (pc := 5) dX2_isRich_5 hM.a5 (by omega) (by decide) ?_
  refine cm_iconst (pc := 6) (v := 1) dX2_isRich_6 (by decide) ?_
  refine cm_icmp_eq (pc := 7) (tgt := 20) dX2_isRich_7 (by decide) (fun c7 => ?_) (fun c7 => ?_)
  · refine cm_iconst (pc := 20) (v := 1) dX2_isRich_20 (by decide) ?_
    refine cm_goto (pc := 21) (tgt := 25) dX2_isRich_21 (by decide) ?_
    exact cm_zret (pc := 25) dX2_isRich_25 rfl rfl ⟨by simp [cm_bi, mRich, *], rfl⟩
  · refine cm_aload0 (pc := 10) dX2_isRich_10 ?_
    refine cm_getR (pc := 11) flX2_24 dX2_isRich_11 hM.1 hM.r8 ?_
    refine cm_iload1 (pc := 14) dX2_isRich_14 ?_
    refine mk_get (pc := 15) dX2_isRich_15 hM.a5 (by omega) (by decide) ?_
    refine cm_iconst (pc := 16) (v := 5) dX2_isRich_16 (by decide) ?_
    refine cm_icmp_ne (pc := 17) (tgt := 24) dX2_isRich_17 (by decide) (fun c17 => ?_) (fun c17 => ?_)
    · refine cm_iconst (pc := 24) (v := 0) dX2_isRich_24 (by decide) ?_
      exact cm_zret (pc := 25) dX2_isRich_25 rfl rfl ⟨by simp [cm_bi, mRich, *], rfl⟩
    · refine cm_iconst (pc := 20) (v := 1) dX2_isRich_20 (by decide) ?_
      refine cm_goto (pc := 21) (tgt := 25) dX2_isRich_21 (by decide) ?_
      exact cm_zret (pc := 25) dX2_isRich_25 rfl rfl ⟨by simp [cm_bi, mRich, *], rfl⟩
set_option maxRecDepth 20000 in
theorem k_isOfKind (hM : cm_mkt sh hr a) {i : Nat} {kd : Int32} (hi6 : i < 6) : cm_ct D mX2_isOfKind d 0 0 [.ref a, .int (nI i), .int kd] (sh, cm_us hi a g, hl, hr) (fun r9 h9 => r9 = some (.int (cm_bi (mOf g i kd))) ∧ h9 = (sh, cm_us hi a g, hl, hr)) := by
  refine cm_ct_of (ls := [some (.ref a), some (.int (nI i)), some (.int kd)]) 0 (by decide +kernel) rfl rfl ?_
  refine cm_aload0 (pc := 0) dX2_isOfKind_0 ?_
  refine cm_getR (pc := 1) flX2_24 dX2_isOfKind_1 hM.1 hM.r8 ?_
  refine cm_iload1 (pc := 4) dX2_isOfKind_4 ?_
  refine mk_get (pc := 5) dX2_isOfKind_5 hM.a5 (by omega) (by decide) ?_
  refine cm_iload2 (pc := 6) dX2_isOfKind_6 ?_
  refine cm_icmp_eq (pc := 7) (tgt := 40) dX2_isOfKind_7 (by decide) (fun c7 => ?_) (fun c7 => ?_)
  · refine cm_iconst (pc := 40) (v := 1) dX2_isOfKind_40 (by decide) ?_
    refine cm_goto (pc := 41) (tgt := 45) dX2_isOfKind_41 (by decide) ?_
    exact cm_zret (pc := 45) dX2_isOfKind_45 rfl rfl ⟨by simp_all [cm_bi, mOf], rfl⟩
  · refine cm_iload2 (pc := 10) dX2_isOfKind_10 ?_
    refine cm_iconst (pc := 11) (v := 1) dX2_isOfKind_11 (by decide) ?_
    refine cm_icmp_ne (pc := 12) (tgt := 25) dX2_isOfKind_12 (by decide) (fun c12 => ?_) (fun c12 => ?_)
    · refine cm_iload2 (pc := 25) dX2_isOfKind_25 ?_
      refine cm_iconst (pc := 26) (v := 2) dX2_isOfKind_26 (by decide) ?_
      refine cm_icmp_ne (pc := 27) (tgt := 44) dX2_isOfKind_27 (by decide) (fun c27 => ?_) (fun c27 => ?_)
      · refine cm_iconst (pc := 44) (v := 0) dX2_isOfKind_44 (by decide) ?_
        exact cm_zret (pc := 45) dX2_isOfKind_45 rfl rfl ⟨by simp_all [cm_bi, mOf], rfl⟩
      · refine cm_aload0 (pc := 30) dX2_isOfKind_30 ?_
        refine cm_getR (pc := 31) flX2_24 dX2_isOfKind_31 hM.1 hM.r8 ?_
        refine cm_iload1 (pc := 34) dX2_isOfKind_34 ?_
        refine mk_get (pc := 35) dX2_isOfKind_35 hM.a5 (by omega) (by decide) ?_
        refine cm_iconst (pc := 36) (v := 4) dX2_isOfKind_36 (by decide) ?_
        refine cm_icmp_ne (pc := 37) (tgt := 44) dX2_isOfKind_37 (by decide) (fun c37 => ?_) (fun c37 => ?_)
        · refine cm_iconst (pc := 44) (v := 0) dX2_isOfKind_44 (by decide) ?_
          exact cm_zret (pc := 45) dX2_isOfKind_45 rfl rfl ⟨by simp_all [cm_bi, mOf], rfl⟩
        · refine cm_iconst (pc := 40) (v := 1) dX2_isOfKind_40 (by decide) ?_
          refine cm_goto (pc := 41) (tgt := 45) dX2_isOfKind_41 (by decide) ?_
          exact cm_zret (pc := 45) dX2_isOfKind_45 rfl rfl ⟨by simp_all [cm_bi, mOf], rfl⟩
    · refine cm_aload0 (pc := 15) dX2_isOfKind_15 ?_
      refine cm_getR (pc := 16) flX2_24 dX2_isOfKind_16 hM.1 hM.r8 ?_
      refine cm_iload1 (pc := 19) dX2_isOfKind_19 ?_
      refine mk_get (pc := 20) dX2_isOfKind_20 hM.a5 (by omega) (by decide) ?_
      refine cm_iconst (pc := 21) (v := 5) dX2_isOfKind_21 (by decide) ?_
      refine cm_icmp_eq (pc := 22) (tgt := 40) dX2_isOfKind_22 (by decide) (fun c22 => ?_) (fun c22 => ?_)
      · refine cm_iconst (pc := 40) (v := 1) dX2_isOfKind_40 (by decide) ?_
        refine cm_goto (pc := 41) (tgt := 45) dX2_isOfKind_41 (by decide) ?_
        exact cm_zret (pc := 45) dX2_isOfKind_45 rfl rfl ⟨by simp_all [cm_bi, mOf], rfl⟩
      · refine cm_iload2 (pc := 25) dX2_isOfKind_25 ?_
        refine cm_iconst (pc := 26) (v := 2) dX2_isOfKind_26 (by decide) ?_
        refine cm_icmp_ne (pc := 27) (tgt := 44) dX2_isOfKind_27 (by decide) (fun c27 => ?_) (fun c27 => ?_)
        · refine cm_iconst (pc := 44) (v := 0) dX2_isOfKind_44 (by decide) ?_
          exact cm_zret (pc := 45) dX2_isOfKind_45 rfl rfl ⟨by simp_all [cm_bi, mOf], rfl⟩
        · refine cm_aload0 (pc := 30) dX2_isOfKind_30 ?_
          refine cm_getR (pc := 31) flX2_24 dX2_isOfKind_31 hM.1 hM.r8 ?_
          refine cm_iload1 (pc := 34) dX2_isOfKind_34 ?_
          refine mk_get (pc := 35) dX2_isOfKind_35 hM.a5 (by omega) (by decide) ?_
          refine cm_iconst (pc := 36) (v := 4) dX2_isOfKind_36 (by decide) ?_
          refine cm_icmp_ne (pc := 37) (tgt := 44) dX2_isOfKind_37 (by decide) (fun c37 => ?_) (fun c37 => ?_)
          · refine cm_iconst (pc := 44) (v := 0) dX2_isOfKind_44 (by decide) ?_
            exact cm_zret (pc := 45) dX2_isOfKind_45 rfl rfl ⟨by simp_all [cm_bi, mOf], rfl⟩
          · refine cm_iconst (pc := 40) (v := 1) dX2_isOfKind_40 (by decide) ?_
            refine cm_goto (pc := 41) (tgt := 45) dX2_isOfKind_41 (by decide) ?_
            exact cm_zret (pc := 45) dX2_isOfKind_45 rfl rfl ⟨by simp_all [cm_bi, mOf], rfl⟩
set_option maxRecDepth 20000 in
theorem k_holds (hM : cm_mkt sh hr a) {i : Nat} {wa wb : Int32} (hi0 : 0 < i) (hi6 : i < 6) : cm_ct D mX2_holds d 0 0 [.ref a, .int (nI i), .int wa, .int wb] (sh, cm_us hi a g, hl, hr) (fun r9 h9 => r9 = some (.int (cm_bi (mHolds g i wa wb))) ∧ h9 = (sh, cm_us hi a g, hl, hr)) := by
  refine cm_ct_of (ls := [some (.ref a), some (.int (nI i)), some (.int wa), some (.int wb), none]) 1 (by decide +kernel) rfl rfl ?_
  refine cm_aload0 (pc := 0) dX2_holds_0 ?_
  refine cm_getR (pc := 1) flX2_27 dX2_holds_1 hM.1 hM.r9 ?_
  refine cm_iload1 (pc := 4) dX2_holds_4 ?_
  refine mk_get (pc := 5) dX2_holds_5 hM.a6 (by omega) (by decide) ?_
  refine cm_iload3 (pc := 6) dX2_holds_6 ?_
  refine cm_iadd (pc := 7) dX2_holds_7 ?_
  refine cm_aload0 (pc := 8) dX2_holds_8 ?_
  refine cm_getR (pc := 9) flX2_27 dX2_holds_9 hM.1 hM.r9 ?_
  refine cm_iload1 (pc := 12) dX2_holds_12 ?_
  refine cm_iconst (pc := 13) (v := 1) dX2_holds_13 (by decide) ?_
  refine cm_isub (pc := 14) dX2_holds_14 ?_
  refine mk_getE (pc := 15) (i - 1) dX2_holds_15 hM.a6 (pk_sub (b := 1) hi0) (by omega) (by decide) ?_
  refine cm_isub (pc := 16) dX2_holds_16 ?_
  refine cm_iload2 (pc := 17) dX2_holds_17 ?_
  refine cm_isub (pc := 18) dX2_holds_18 ?_
  refine cm_istore4 (pc := 19) dX2_holds_19 (by decide) rfl ?_
  refine cm_iload4 (pc := 21) dX2_holds_21 ?_
  refine cm_if_le (pc := 23) (tgt := 41) dX2_holds_23 (by decide) (fun c23 => ?_) (fun c23 => ?_)
  · refine cm_iconst (pc := 41) (v := 0) dX2_holds_41 (by decide) ?_
    exact cm_zret (pc := 42) dX2_holds_42 rfl rfl ⟨by simp [cm_bi, mHolds, mGap, *], rfl⟩
  · refine cm_iload4 (pc := 26) dX2_holds_26 ?_
    refine cm_aload0 (pc := 28) dX2_holds_28 ?_
    refine cm_getR (pc := 29) flX2_36 dX2_holds_29 hM.1 hM.r12 ?_
    refine cm_iload1 (pc := 32) dX2_holds_32 ?_
    refine mk_get (pc := 33) dX2_holds_33 hM.a9 (by omega) (by decide) ?_
    refine cm_icmp_gt (pc := 34) (tgt := 41) dX2_holds_34 (by decide) (fun c34 => ?_) (fun c34 => ?_)
    · refine cm_iconst (pc := 41) (v := 0) dX2_holds_41 (by decide) ?_
      exact cm_zret (pc := 42) dX2_holds_42 rfl rfl ⟨by simp [cm_bi, mHolds, mGap, *], rfl⟩
    · refine cm_iconst (pc := 37) (v := 1) dX2_holds_37 (by decide) ?_
      refine cm_goto (pc := 38) (tgt := 42) dX2_holds_38 (by decide) ?_
      exact cm_zret (pc := 42) dX2_holds_42 rfl rfl ⟨by simp [cm_bi, mHolds, mGap, *], rfl⟩
set_option maxRecDepth 20000 in
theorem k_canGo (hM : cm_mkt sh hr a) {f t : Option Nat} {way : Int32} (hf : ∀ k, f = some k → k < 6) (ht : ∀ k, t = some k → k < 6) : cm_ct D mX2_canGo d 0 0 [.ref a, .int (cm_oi f), .int (cm_oi t), .int way] (sh, cm_us hi a g, hl, hr) (fun r9 h9 => r9 = some (.int (cm_bi (mCan g f t way))) ∧ h9 = (sh, cm_us hi a g, hl, hr)) := by
  refine cm_ct_of (ls := [some (.ref a), some (.int (cm_oi f)), some (.int (cm_oi t)), some (.int way)]) 0 (by decide +kernel) rfl rfl ?_
  refine cm_iload1 (pc := 0) dX2_canGo_0 ?_
  refine cm_bipush (pc := 1) (v := -9) dX2_canGo_1 (by decide) ?_
  cases f with
  | none =>
    refine cm_icmp_eq (tgt := 40) (pc := 3) dX2_canGo_3 (by decide) (fun _ => ?_) (fun q => absurd rfl q)
    refine cm_iconst (pc := 40) (v := 0) dX2_canGo_40 (by decide) ?_
    exact cm_zret (pc := 41) dX2_canGo_41 rfl rfl ⟨rfl, rfl⟩
  | some f =>
  have hf6 := hf f rfl
  have hfn : ¬ cm_oi (some f) = -9 := cm_oi_ne hf6
  refine cm_icmp_eq (pc := 3) (tgt := 40) dX2_canGo_3 (by decide) (fun q => absurd q hfn) (fun c3 => ?_)
  refine cm_iload2 (pc := 6) dX2_canGo_6 ?_
  refine cm_bipush (pc := 7) (v := -9) dX2_canGo_7 (by decide) ?_
  cases t with
  | none =>
    refine cm_icmp_eq (tgt := 40) (pc := 9) dX2_canGo_9 (by decide) (fun _ => ?_) (fun q => absurd rfl q)
    refine cm_iconst (pc := 40) (v := 0) dX2_canGo_40 (by decide) ?_
    exact cm_zret (pc := 41) dX2_canGo_41 rfl rfl ⟨rfl, rfl⟩
  | some t =>
  have ht6 := ht t rfl
  have htn : ¬ cm_oi (some t) = -9 := cm_oi_ne ht6
  refine cm_icmp_eq (pc := 9) (tgt := 40) dX2_canGo_9 (by decide) (fun q => absurd q htn) (fun c9 => ?_)
  refine cm_aload0 (pc := 12) dX2_canGo_12 ?_
  refine cm_getR (pc := 13) flX2_27 dX2_canGo_13 hM.1 hM.r9 ?_
  refine cm_iload1 (pc := 16) dX2_canGo_16 ?_
  refine mk_getE (pc := 17) (f) dX2_canGo_17 hM.a6 rfl (by omega) (by decide) ?_
  refine cm_iload3 (pc := 18) dX2_canGo_18 ?_
  refine cm_iadd (pc := 19) dX2_canGo_19 ?_
  refine cm_if_lt (pc := 20) (tgt := 40) dX2_canGo_20 (by decide) (fun c20 => ?_) (fun c20 => ?_)
  · refine cm_iconst (pc := 40) (v := 0) dX2_canGo_40 (by decide) ?_
    exact cm_zret (pc := 41) dX2_canGo_41 rfl rfl ⟨by simp_all [cm_bi, mCan], rfl⟩
  · refine cm_aload0 (pc := 23) dX2_canGo_23 ?_
    refine cm_getR (pc := 24) flX2_27 dX2_canGo_24 hM.1 hM.r9 ?_
    refine cm_iload2 (pc := 27) dX2_canGo_27 ?_
    refine mk_getE (pc := 28) (t) dX2_canGo_28 hM.a6 rfl (by omega) (by decide) ?_
    refine cm_iload3 (pc := 29) dX2_canGo_29 ?_
    refine cm_iadd (pc := 30) dX2_canGo_30 ?_
    refine cm_bipush (pc := 31) (v := 20) dX2_canGo_31 (by decide) ?_
    refine cm_icmp_ge (pc := 33) (tgt := 40) dX2_canGo_33 (by decide) (fun c33 => ?_) (fun c33 => ?_)
    · refine cm_iconst (pc := 40) (v := 0) dX2_canGo_40 (by decide) ?_
      exact cm_zret (pc := 41) dX2_canGo_41 rfl rfl ⟨by simp_all [cm_bi, mCan], rfl⟩
    · refine cm_iconst (pc := 36) (v := 1) dX2_canGo_36 (by decide) ?_
      refine cm_goto (pc := 37) (tgt := 41) dX2_canGo_37 (by decide) ?_
      exact cm_zret (pc := 41) dX2_canGo_41 rfl rfl ⟨by simp_all [cm_bi, mCan], rfl⟩
end MK2
