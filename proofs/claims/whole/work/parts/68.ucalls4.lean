/-! PART ucalls4: the reference's calls: kept markets, what will be -/
def uKp (u : cm_g2) (j : Nat) : cm_g2 := va_up (uWr (va_up u 16 (upd (u 16) (32 * j) (u 0 19))) 16 (32 * j + 1)) 16 (fun x => if 32 * j + 25 ≤ x ∧ x < 32 * j + 25 + 6 then u 13 (x - (32 * j + 25)) else uWr (va_up u 16 (upd (u 16) (32 * j) (u 0 19))) 16 (32 * j + 1) 16 x)
def uKeep (u : cm_g2) (k : Int32) : Int32 × cm_g2 := if uIn k 0 2 = false then (-1, u) else if u 0 9 = 0 then (-4, u) else (u 0 19, uKp u k.toNatClampNeg)
def uLd (u : cm_g2) (j : Nat) : cm_g2 := va_up (uRd (va_up u 0 (upd (upd (u 0) 19 (u 16 (32 * j))) 20 (u 16 (32 * j)))) 16 (32 * j + 1)) 13 (fun i => if i < 6 then u 16 (32 * j + 25 + i) else u 13 i)
def uOnK (u : cm_g2) (k : Int32) : Int32 × cm_g2 := if uIn k 0 2 = false then (-1, u) else if u 16 (32 * k.toNatClampNeg) = -9 then (-3, uMeet u 1) else (u 16 (32 * k.toNatClampNeg), uLd u k.toNatClampNeg)
theorem va_up_own {u : cm_g2} {c : Nat} : va_up u c (u c) = u := by
  funext x
  by_cases q : x = c
  · subst q; rw [va_up_self]
  · rw [va_up_ne _ _ q]
section U4
variable {D : cm_D} {d : Nat} {sh : List cm_Sh} {hi u : cm_g2} {hl : Nat → Nat → Int64} {hr : Nat → Nat → Option Nat} {e nb ns : Nat}
set_option maxRecDepth 20000 in
theorem l_rkeep (hE : cm_mdl sh hr e) {j : Nat} (hj : j < 3) {V : cm_g2} (v13 : V 13 = u 13) (v0 : V 0 = u 0) : ∀ q k : Nat, k + q = 6 → cm_g D mX7_keep (d + 1) 0 0 (fun r9 h9 => r9 = some (.int (u 0 19)) ∧ h9 = (sh, cm_us hi e (va_up V 16 (fun x => if 32 * j + 25 ≤ x ∧ x < 32 * j + 25 + 6 then u 13 (x - (32 * j + 25)) else V 16 x)), hl, hr)) 0 0 49 [some (.ref e), some (.int (nI j)), some (.int (nI (32 * j))), some (.int (nI k))] [] (sh, cm_us hi e (va_up V 16 (fun x => if 32 * j + 25 ≤ x ∧ x < 32 * j + 25 + k then u 13 (x - (32 * j + 25)) else V 16 x)), hl, hr) := by
  intro q
  induction q with
  | zero =>
    intro k hk
    have h1 : k = 6 := by omega
    subst h1
    refine cm_iload3 (pc := 49) dX7_keep_49 ?_
    refine cm_bipush (pc := 50) (v := 6) dX7_keep_50 (by decide) ?_
    refine cm_icmp_ge (pc := 52) (tgt := 78) dX7_keep_52 (by decide) (fun c52 => ?_) (fun q => absurd (by decide) q)
    refine cm_aload0 (pc := 78) dX7_keep_78 ?_
    refine mk_fld (pc := 79) flX7_160 dX7_keep_79 hE.1 ?_
    rw [show va_up V 16 (fun x => if 32 * j + 25 ≤ x ∧ x < 32 * j + 25 + 6 then u 13 (x - (32 * j + 25)) else V 16 x) 0 = u 0 by rw [va_up_ne _ _ (by decide), v0]]
    exact cm_iret (pc := 82) dX7_keep_82 rfl ⟨rfl, rfl⟩
  | succ q ih =>
    intro k hk
    have hst := ih (k + 1) (by omega)
    refine cm_iload3 (pc := 49) dX7_keep_49 ?_
    refine cm_bipush (pc := 50) (v := 6) dX7_keep_50 (by decide) ?_
    refine cm_icmp_ge (pc := 52) (tgt := 78) dX7_keep_52 (by decide) (fun q => absurd q (nI_ge (a := k) (b := 6) (by omega) (by omega))) (fun c52 => ?_)
    refine cm_aload0 (pc := 55) dX7_keep_55 ?_
    refine cm_getR (pc := 56) flX7_55 dX7_keep_56 hE.1 hE.r29 ?_
    refine cm_iload2 (pc := 59) dX7_keep_59 ?_
    refine cm_bipush (pc := 60) (v := 25) dX7_keep_60 (by decide) ?_
    refine cm_iadd (pc := 62) dX7_keep_62 ?_
    rw [show nI (32 * j) + 25 = nI (32 * j + 25) by rw [show (25 : Int32) = nI 25 from rfl, nI_add]]
    refine cm_iload3 (pc := 63) dX7_keep_63 ?_
    refine cm_iadd (pc := 64) dX7_keep_64 ?_
    rw [nI_add]
    refine cm_aload0 (pc := 65) dX7_keep_65 ?_
    refine cm_getR (pc := 66) flX7_46 dX7_keep_66 hE.1 hE.r17 ?_
    refine cm_iload3 (pc := 69) dX7_keep_69 ?_
    refine mk_get (pc := 70) dX7_keep_70 hE.a13 (by omega) (by decide) ?_
    rw [show va_up V 16 (fun x => if 32 * j + 25 ≤ x ∧ x < 32 * j + 25 + k then u 13 (x - (32 * j + 25)) else V 16 x) 13 k = u 13 k by rw [va_up_ne _ _ (by decide), v13]]
    refine mk_putE (pc := 71) (32 * j + 25 + k) dX7_keep_71 hE.a16 rfl (by omega) (by decide) ?_
    rw [show va_up (va_up V 16 (fun x => if 32 * j + 25 ≤ x ∧ x < 32 * j + 25 + k then u 13 (x - (32 * j + 25)) else V 16 x)) 16 (upd ((va_up V 16 (fun x => if 32 * j + 25 ≤ x ∧ x < 32 * j + 25 + k then u 13 (x - (32 * j + 25)) else V 16 x)) 16) (32 * j + 25 + k) (u 13 k)) = va_up V 16 (fun x => if 32 * j + 25 ≤ x ∧ x < 32 * j + 25 + (k + 1) then u 13 (x - (32 * j + 25)) else V 16 x) by
      rw [va_up_self, bx_uu]
      congr 1
      funext x
      unfold upd
      show (if x = 32 * j + 25 + k then u 13 k else if 32 * j + 25 ≤ x ∧ x < 32 * j + 25 + k then u 13 (x - (32 * j + 25)) else V 16 x) = _
      by_cases q9 : x = 32 * j + 25 + k
      · subst q9; rw [if_pos rfl, if_pos (by omega), show 32 * j + 25 + k - (32 * j + 25) = k by omega]
      · rw [if_neg q9]
        by_cases q8 : 32 * j + 25 ≤ x ∧ x < 32 * j + 25 + k
        · rw [if_pos q8, if_pos (by omega)]
        · rw [if_neg q8, if_neg (by omega)]]
    refine cm_incN3 (pc := 72) dX7_keep_72 (by decide) rfl ?_
    refine cm_goto (pc := 75) (tgt := 49) dX7_keep_75 (by decide) ?_
    exact hst
set_option maxRecDepth 20000 in
theorem r_keep (hE : cm_mdl sh hr e) {k : Int32} : cm_ct D mX7_keep (d + 1) 0 0 [.ref e, .int k] (sh, cm_us hi e u, hl, hr) (fun r9 h9 => r9 = some (.int (uKeep u k).1) ∧ h9 = (sh, cm_us hi e (uKeep u k).2, hl, hr)) := by
  refine cm_ct_of (ls := [some (.ref e), some (.int k), none, none]) 2 (by decide +kernel) rfl rfl ?_
  refine cm_iload1 (pc := 0) dX7_keep_0 ?_
  refine cm_iconst (pc := 1) (v := 0) dX7_keep_1 (by decide) ?_
  refine cm_iconst (pc := 2) (v := 2) dX7_keep_2 (by decide) ?_
  refine cm_S3 (pc := 3) mX7_in_s mlX7_83 dX7_keep_3 (by omega) (Nat.le_of_ble_eq_true rfl) (Nat.le_refl _) (Nat.le_refl _) (r_in (d := d) ) (fun r3 h3 hq3 => ?_)
  obtain ⟨rfl, rfl⟩ := hq3
  refine cm_ifneB (pc := 6) (tgt := 11) dX7_keep_6 (by decide) (fun c6 => ?_) (fun c6 => ?_)
  · obtain ⟨j, hj, rfl⟩ := uIn_ex 2 c6
    have hjc : (nI j).toNatClampNeg = j := nI_clamp (by omega)
    refine cm_aload0 (pc := 11) dX7_keep_11 ?_
    refine mk_fld (pc := 12) flX7_151 dX7_keep_12 hE.1 ?_
    refine cm_if_ne (pc := 15) (tgt := 21) dX7_keep_15 (by decide) (fun c15 => ?_) (fun c15 => ?_)
    · refine cm_bipush (pc := 21) (v := 32) dX7_keep_21 (by decide) ?_
      refine cm_iload1 (pc := 23) dX7_keep_23 ?_
      refine cm_imul (pc := 24) dX7_keep_24 ?_
      rw [show (32 : Int32) * nI j = nI (32 * j) by rw [show (32 : Int32) = nI 32 from rfl, pk_mul]]
      refine cm_istore2 (pc := 25) dX7_keep_25 (by decide) rfl ?_
      refine cm_aload0 (pc := 26) dX7_keep_26 ?_
      refine cm_getR (pc := 27) flX7_55 dX7_keep_27 hE.1 hE.r29 ?_
      refine cm_iload2 (pc := 30) dX7_keep_30 ?_
      refine cm_aload0 (pc := 31) dX7_keep_31 ?_
      refine mk_fld (pc := 32) flX7_160 dX7_keep_32 hE.1 ?_
      refine mk_putE (pc := 35) (32 * j) dX7_keep_35 hE.a16 rfl (by omega) (by decide) ?_
      refine cm_aload0 (pc := 36) dX7_keep_36 ?_
      refine cm_aload0 (pc := 37) dX7_keep_37 ?_
      refine cm_getR (pc := 38) flX7_55 dX7_keep_38 hE.1 hE.r29 ?_
      refine cm_iload2 (pc := 41) dX7_keep_41 ?_
      refine cm_iconst (pc := 42) (v := 1) dX7_keep_42 (by decide) ?_
      refine cm_iadd (pc := 43) dX7_keep_43 ?_
      rw [show nI (32 * j) + 1 = nI (32 * j + 1) by rw [show (1 : Int32) = nI 1 from rfl, nI_add]]
      refine cm_V2 (pc := 44) mX7_write_v mlX7_237 dX7_keep_44 hE.1 (by omega) (Nat.le_of_ble_eq_true rfl) (Nat.le_refl _) (Nat.le_refl _) (r_write (d := d) (cc := 16) (at_ := 32 * j + 1) hE (by decide) hE.a16 (by omega) (by decide)) (fun r44 h44 hq44 => ?_)
      obtain ⟨rfl, v44, rfl, t44⟩ := hq44
      rw [t44.eq]
      refine cm_iconst (pc := 47) (v := 0) dX7_keep_47 (by decide) ?_
      refine cm_istore3 (pc := 48) dX7_keep_48 (by decide) rfl ?_
      have k9 := l_rkeep (D := D) (d := d) (sh := sh) (hi := hi) (hl := hl) (hr := hr) (e := e) (u := u) hE (j := j) (by omega) (V := uWr (va_up u 16 (upd (u 16) (32 * j) (u 0 19))) 16 (32 * j + 1)) (by rw [uWr_c (by decide), va_up_ne _ _ (by decide)]) (by rw [uWr_c (by decide), va_up_ne _ _ (by decide)]) 6 0 (by omega)
      rw [show va_up (uWr (va_up u 16 (upd (u 16) (32 * j) (u 0 19))) 16 (32 * j + 1)) 16 (fun x => (if 32 * j + 25 ≤ x ∧ x < 32 * j + 25 + 0 then u 13 (x - (32 * j + 25)) else uWr (va_up u 16 (upd (u 16) (32 * j) (u 0 19))) 16 (32 * j + 1) 16 x)) = uWr (va_up u 16 (upd (u 16) (32 * j) (u 0 19))) 16 (32 * j + 1) from (congrArg (va_up _ 16) (funext fun x => if_neg (by omega))).trans va_up_own] at k9
      have hspec : uKeep u (nI j) = (u 0 19, uKp u j) := by
        unfold uKeep
        rw [if_neg (by rw [c6]; decide), if_neg c15, hjc]
      rw [hspec]
      exact k9
    · refine cm_bipush (pc := 18) (v := -4) dX7_keep_18 (by decide) ?_
      exact cm_iret (pc := 20) dX7_keep_20 rfl ⟨by simp [uKeep, *], by simp [uKeep, *]⟩
  · refine cm_iconst (pc := 9) (v := -1) dX7_keep_9 (by decide) ?_
    exact cm_iret (pc := 10) dX7_keep_10 rfl ⟨by simp [uKeep, *], by simp [uKeep, *]⟩
set_option maxRecDepth 20000 in
theorem l_ron (hE : cm_mdl sh hr e) {j : Nat} (hj : j < 3) {V : cm_g2} (v13 : V 13 = u 13) (v16 : V 16 = u 16) (v0 : V 0 19 = u 16 (32 * j)) : ∀ q k : Nat, k + q = 6 → cm_g D mX7_on (d + 1) 0 0 (fun r9 h9 => r9 = some (.int (u 16 (32 * j))) ∧ h9 = (sh, cm_us hi e (va_up V 13 (fun i => if i < 6 then u 16 (32 * j + 25 + i) else u 13 i)), hl, hr)) 0 0 64 [some (.ref e), some (.int (nI j)), some (.int (nI (32 * j))), some (.int (nI k))] [] (sh, cm_us hi e (va_up V 13 (fun i => if i < k then u 16 (32 * j + 25 + i) else u 13 i)), hl, hr) := by
  intro q
  induction q with
  | zero =>
    intro k hk
    have h1 : k = 6 := by omega
    subst h1
    refine cm_iload3 (pc := 64) dX7_on_64 ?_
    refine cm_bipush (pc := 65) (v := 6) dX7_on_65 (by decide) ?_
    refine cm_icmp_ge (pc := 67) (tgt := 93) dX7_on_67 (by decide) (fun c67 => ?_) (fun q => absurd (by decide) q)
    refine cm_aload0 (pc := 93) dX7_on_93 ?_
    refine mk_fld (pc := 94) flX7_160 dX7_on_94 hE.1 ?_
    rw [show (va_up V 13 (fun i => if i < 6 then u 16 (32 * j + 25 + i) else u 13 i)) 0 19 = u 16 (32 * j) by rw [va_up_ne _ _ (by decide), v0]]
    exact cm_iret (pc := 97) dX7_on_97 rfl ⟨rfl, rfl⟩
  | succ q ih =>
    intro k hk
    have hst := ih (k + 1) (by omega)
    refine cm_iload3 (pc := 64) dX7_on_64 ?_
    refine cm_bipush (pc := 65) (v := 6) dX7_on_65 (by decide) ?_
    refine cm_icmp_ge (pc := 67) (tgt := 93) dX7_on_67 (by decide) (fun q => absurd q (nI_ge (a := k) (b := 6) (by omega) (by omega))) (fun c67 => ?_)
    refine cm_aload0 (pc := 70) dX7_on_70 ?_
    refine cm_getR (pc := 71) flX7_46 dX7_on_71 hE.1 hE.r17 ?_
    refine cm_iload3 (pc := 74) dX7_on_74 ?_
    refine cm_aload0 (pc := 75) dX7_on_75 ?_
    refine cm_getR (pc := 76) flX7_55 dX7_on_76 hE.1 hE.r29 ?_
    refine cm_iload2 (pc := 79) dX7_on_79 ?_
    refine cm_bipush (pc := 80) (v := 25) dX7_on_80 (by decide) ?_
    refine cm_iadd (pc := 82) dX7_on_82 ?_
    rw [show nI (32 * j) + 25 = nI (32 * j + 25) by rw [show (25 : Int32) = nI 25 from rfl, nI_add]]
    refine cm_iload3 (pc := 83) dX7_on_83 ?_
    refine cm_iadd (pc := 84) dX7_on_84 ?_
    rw [nI_add]
    refine mk_getE (pc := 85) (32 * j + 25 + k) dX7_on_85 hE.a16 rfl (by omega) (by decide) ?_
    rw [show (va_up V 13 (fun i => if i < k then u 16 (32 * j + 25 + i) else u 13 i)) 16 (32 * j + 25 + k) = u 16 (32 * j + 25 + k) by rw [va_up_ne _ _ (by decide), v16]]
    refine mk_put (pc := 86) dX7_on_86 hE.a13 (by omega) (by decide) ?_
    rw [show va_up (va_up V 13 (fun i => if i < k then u 16 (32 * j + 25 + i) else u 13 i)) 13 (upd ((va_up V 13 (fun i => if i < k then u 16 (32 * j + 25 + i) else u 13 i)) 13) k (u 16 (32 * j + 25 + k))) = va_up V 13 (fun i => if i < (k + 1) then u 16 (32 * j + 25 + i) else u 13 i) by
      rw [va_up_self, bx_uu]
      congr 1
      funext x
      unfold upd
      show (if x = k then u 16 (32 * j + 25 + k) else if x < k then u 16 (32 * j + 25 + x) else u 13 x) = _
      by_cases q9 : x = k
      · subst q9; rw [if_pos rfl, if_pos (by omega)]
      · rw [if_neg q9]
        by_cases q8 : x < k
        · rw [if_pos q8, if_pos (by omega)]
        · rw [if_neg q8, if_neg (by omega)]]
    refine cm_incN3 (pc := 87) dX7_on_87 (by decide) rfl ?_
    refine cm_goto (pc := 90) (tgt := 64) dX7_on_90 (by decide) ?_
    exact hst
set_option maxRecDepth 20000 in
theorem r_on (hE : cm_mdl sh hr e) {k : Int32} : cm_ct D mX7_on (d + 1) 0 0 [.ref e, .int k] (sh, cm_us hi e u, hl, hr) (fun r9 h9 => r9 = some (.int (uOnK u k).1) ∧ h9 = (sh, cm_us hi e (uOnK u k).2, hl, hr)) := by
  refine cm_ct_of (ls := [some (.ref e), some (.int k), none, none]) 2 (by decide +kernel) rfl rfl ?_
  refine cm_iload1 (pc := 0) dX7_on_0 ?_
  refine cm_iconst (pc := 1) (v := 0) dX7_on_1 (by decide) ?_
  refine cm_iconst (pc := 2) (v := 2) dX7_on_2 (by decide) ?_
  refine cm_S3 (pc := 3) mX7_in_s mlX7_83 dX7_on_3 (by omega) (Nat.le_of_ble_eq_true rfl) (Nat.le_refl _) (Nat.le_refl _) (r_in (d := d) ) (fun r3 h3 hq3 => ?_)
  obtain ⟨rfl, rfl⟩ := hq3
  refine cm_ifneB (pc := 6) (tgt := 11) dX7_on_6 (by decide) (fun c6 => ?_) (fun c6 => ?_)
  · obtain ⟨j, hj, rfl⟩ := uIn_ex 2 c6
    have hjc : (nI j).toNatClampNeg = j := nI_clamp (by omega)
    refine cm_bipush (pc := 11) (v := 32) dX7_on_11 (by decide) ?_
    refine cm_iload1 (pc := 13) dX7_on_13 ?_
    refine cm_imul (pc := 14) dX7_on_14 ?_
    rw [show (32 : Int32) * nI j = nI (32 * j) by rw [show (32 : Int32) = nI 32 from rfl, pk_mul]]
    refine cm_istore2 (pc := 15) dX7_on_15 (by decide) rfl ?_
    refine cm_aload0 (pc := 16) dX7_on_16 ?_
    refine cm_getR (pc := 17) flX7_55 dX7_on_17 hE.1 hE.r29 ?_
    refine cm_iload2 (pc := 20) dX7_on_20 ?_
    refine mk_getE (pc := 21) (32 * j) dX7_on_21 hE.a16 rfl (by omega) (by decide) ?_
    refine cm_bipush (pc := 22) (v := -9) dX7_on_22 (by decide) ?_
    refine cm_icmp_ne (pc := 24) (tgt := 33) dX7_on_24 (by decide) (fun c24 => ?_) (fun c24 => ?_)
    · refine cm_aload0 (pc := 33) dX7_on_33 ?_
      refine cm_aload0 (pc := 34) dX7_on_34 ?_
      refine cm_getR (pc := 35) flX7_55 dX7_on_35 hE.1 hE.r29 ?_
      refine cm_iload2 (pc := 38) dX7_on_38 ?_
      refine mk_getE (pc := 39) (32 * j) dX7_on_39 hE.a16 rfl (by omega) (by decide) ?_
      refine mk_set (pc := 40) fpX7_160 dX7_on_40 hE.1 ?_
      refine cm_aload0 (pc := 43) dX7_on_43 ?_
      refine cm_aload0 (pc := 44) dX7_on_44 ?_
      refine mk_fld (pc := 45) flX7_160 dX7_on_45 hE.1 ?_
      refine mk_set (pc := 48) fpX7_163 dX7_on_48 hE.1 ?_
      rw [va_up_self, bx_uu, pk_us]
      refine cm_aload0 (pc := 51) dX7_on_51 ?_
      refine cm_aload0 (pc := 52) dX7_on_52 ?_
      refine cm_getR (pc := 53) flX7_55 dX7_on_53 hE.1 hE.r29 ?_
      refine cm_iload2 (pc := 56) dX7_on_56 ?_
      refine cm_iconst (pc := 57) (v := 1) dX7_on_57 (by decide) ?_
      refine cm_iadd (pc := 58) dX7_on_58 ?_
      rw [show nI (32 * j) + 1 = nI (32 * j + 1) by rw [show (1 : Int32) = nI 1 from rfl, nI_add]]
      refine cm_V2 (pc := 59) mX7_read_v mlX7_244 dX7_on_59 hE.1 (by omega) (Nat.le_of_ble_eq_true rfl) (Nat.le_refl _) (Nat.le_refl _) (r_read (d := d) (cc := 16) (at_ := 32 * j + 1) hE (by decide) hE.a16 (by omega) (by decide)) (fun r59 h59 hq59 => ?_)
      obtain ⟨rfl, v59, rfl, t59⟩ := hq59
      rw [t59.eq]
      refine cm_iconst (pc := 62) (v := 0) dX7_on_62 (by decide) ?_
      refine cm_istore3 (pc := 63) dX7_on_63 (by decide) rfl ?_
      have k9 := l_ron (D := D) (d := d) (sh := sh) (hi := hi) (hl := hl) (hr := hr) (e := e) (u := u) hE (j := j) (by omega) (V := uRd (va_up u 0 (upd (upd (u 0) 19 (u 16 (32 * j))) 20 (u 16 (32 * j)))) 16 (32 * j + 1)) (by rw [uRd_c (by decide), va_up_ne _ _ (by decide)]) (by rw [uRd_c (by decide), va_up_ne _ _ (by decide)]) (by rw [uRd_c (by decide), va_up_self, pk_un (by decide), pk_us]) 6 0 (by omega)
      rw [show va_up (uRd (va_up u 0 (upd (upd (u 0) 19 (u 16 (32 * j))) 20 (u 16 (32 * j)))) 16 (32 * j + 1)) 13 (fun i => if i < 0 then u 16 (32 * j + 25 + i) else u 13 i) = uRd (va_up u 0 (upd (upd (u 0) 19 (u 16 (32 * j))) 20 (u 16 (32 * j)))) 16 (32 * j + 1) from (congrArg (va_up _ 13) ((funext fun x => if_neg (by omega)).trans (show u 13 = (uRd (va_up u 0 (upd (upd (u 0) 19 (u 16 (32 * j))) 20 (u 16 (32 * j)))) 16 (32 * j + 1)) 13 by rw [uRd_c (by decide), va_up_ne _ _ (by decide)]))).trans va_up_own] at k9
      have hspec : uOnK u (nI j) = (u 16 (32 * j), uLd u j) := by
        unfold uOnK
        rw [if_neg (by rw [c6]; decide), hjc, if_neg c24]
      rw [hspec]
      exact k9
    · refine cm_aload0 (pc := 27) dX7_on_27 ?_
      refine cm_iconst (pc := 28) (v := 1) dX7_on_28 (by decide) ?_
      refine cm_V1 (pc := 29) mX7_meet_v mlX7_91 dX7_on_29 hE.1 (by omega) (Nat.le_of_ble_eq_true rfl) (Nat.le_refl _) (Nat.le_refl _) (r_meet (d := d) hE (f := 1) (by decide)) (fun r29 h29 hq29 => ?_)
      obtain ⟨rfl, rfl⟩ := hq29
      exact cm_iret (pc := 32) dX7_on_32 rfl ⟨by simp [uOnK, *], by simp [uOnK, *]⟩
  · refine cm_iconst (pc := 9) (v := -1) dX7_on_9 (by decide) ?_
    exact cm_iret (pc := 10) dX7_on_10 rfl ⟨by simp [uOnK, *], by simp [uOnK, *]⟩
def uLA (u : cm_g2) (nb ns : Nat) : Nat → cm_g2
  | 0 => va_up (uPA u) 0 (upd (upd (uPA u 0) 32 0) 33 0)
  | k + 1 => va_up (uPass (uLA u nb ns k) nb ns 0 (-9)) 0 (upd (upd (uPass (uLA u nb ns k) nb ns 0 (-9) 0) 32 (uPass (uLA u nb ns k) nb ns 0 (-9) 0 32 ||| uPass (uLA u nb ns k) nb ns 0 (-9) 0 25)) 33 (uPass (uLA u nb ns k) nb ns 0 (-9) 0 33 + uPass (uLA u nb ns k) nb ns 0 (-9) 0 26))
theorem uOk.up0 {u : cm_g2} {nb ns : Nat} {f : Nat → Int32} (h : uOk u nb ns) (h9 : f 9 = u 0 9) (h10 : f 10 = u 0 10) : uOk (va_up u 0 f) nb ns := by
  refine ⟨by rw [va_up_self, h9, h10]; exact h.1, fun i hi => by rw [va_up_ne _ _ (by decide)]; exact h.2.1 i hi, fun k hk => by rw [va_up_ne _ _ (by decide)]; exact h.2.2 k hk⟩
theorem uOk.la {u : cm_g2} {nb ns : Nat} (h : uOk u nb ns) : ∀ k, uOk (uLA u nb ns k) nb ns
  | 0 => h.pa.up0 (by rw [pk_un (by decide), pk_un (by decide)]) (by rw [pk_un (by decide), pk_un (by decide)])
  | k + 1 => (uOk.la h k).pass.up0 (by rw [pk_un (by decide), pk_un (by decide)]) (by rw [pk_un (by decide), pk_un (by decide)])
def uBought (u : cm_g2) (nb ns : Nat) (n : Int32) : Int32 × cm_g2 := if uIn n 0 60 = false then (-1, u) else (uSz (uCB (uLA u nb ns n.toNatClampNeg) 0 32) 10, uAsk (uCB (uLA u nb ns n.toNatClampNeg)) (uCB (uLA u nb ns n.toNatClampNeg) 0 33))
set_option maxRecDepth 20000 in
theorem l_rla (hE : cm_mdl sh hr e) {n : Nat} (h : uOk u nb ns) (hn60 : n ≤ 60) : ∀ q k : Nat, k + q = n → cm_g D mX7_lookAhead (d + 5) 0 0 (fun r9 h9 => r9 = none ∧ h9 = (sh, cm_us hi e (uCB (uLA u nb ns n)), hl, hr)) 0 0 16 [some (.ref e), some (.int (nI n)), some (.int (nI k))] [] (sh, cm_us hi e ((uLA u nb ns k)), hl, hr) := by
  intro q
  induction q with
  | zero =>
    intro k hk
    have h1 : k = n := by omega
    subst h1
    refine cm_iload2 (pc := 16) dX7_lookAhead_16 ?_
    refine cm_iload1 (pc := 17) dX7_lookAhead_17 ?_
    refine cm_geN (pc := 18) (tgt := 60) dX7_lookAhead_18 (by decide) (by omega) (by omega) (fun c18 => ?_) (fun c18 => ?_)
    · refine cm_aload0 (pc := 60) dX7_lookAhead_60 ?_
      refine cm_V0 (pc := 61) mX7_comeBack_v mlX7_256 dX7_lookAhead_61 hE.1 (by omega) (Nat.le_of_ble_eq_true rfl) (Nat.le_refl _) (Nat.le_refl _) (r_comeBack (d := d + 3) hE) (fun r61 h61 hq61 => ?_)
      obtain ⟨rfl, rfl⟩ := hq61
      exact cm_vret (pc := 64) dX7_lookAhead_64 rfl ⟨rfl, rfl⟩
    · exact absurd c18 (by omega)
  | succ q ih =>
    intro k hk
    have hst := ih (k + 1) (by omega)
    refine cm_iload2 (pc := 16) dX7_lookAhead_16 ?_
    refine cm_iload1 (pc := 17) dX7_lookAhead_17 ?_
    refine cm_geN (pc := 18) (tgt := 60) dX7_lookAhead_18 (by decide) (by omega) (by omega) (fun c18 => ?_) (fun c18 => ?_)
    · exact absurd c18 (by omega)
    · refine cm_aload0 (pc := 21) dX7_lookAhead_21 ?_
      refine cm_iconst (pc := 22) (v := 0) dX7_lookAhead_22 (by decide) ?_
      refine cm_bipush (pc := 23) (v := -9) dX7_lookAhead_23 (by decide) ?_
      refine cm_V2 (pc := 25) mX7_passMinute_v mlX7_241 dX7_lookAhead_25 hE.1 (by omega) (Nat.le_of_ble_eq_true rfl) (Nat.le_refl _) (Nat.le_refl _) (r_passMinute (d := d) hE (h.la k)) (fun r25 h25 hq25 => ?_)
      obtain ⟨rfl, rfl⟩ := hq25
      refine cm_aload0 (pc := 28) dX7_lookAhead_28 ?_
      refine cm_dup (pc := 29) dX7_lookAhead_29 rfl ?_
      refine mk_fld (pc := 30) flX7_259 dX7_lookAhead_30 hE.1 ?_
      refine cm_aload0 (pc := 33) dX7_lookAhead_33 ?_
      refine mk_fld (pc := 34) flX7_218 dX7_lookAhead_34 hE.1 ?_
      refine cm_ior (pc := 37) dX7_lookAhead_37 ?_
      refine mk_set (pc := 38) fpX7_259 dX7_lookAhead_38 hE.1 ?_
      refine cm_aload0 (pc := 41) dX7_lookAhead_41 ?_
      refine cm_dup (pc := 42) dX7_lookAhead_42 rfl ?_
      refine mk_fld (pc := 43) flX7_262 dX7_lookAhead_43 hE.1 ?_
      refine cm_aload0 (pc := 46) dX7_lookAhead_46 ?_
      refine mk_fld (pc := 47) flX7_221 dX7_lookAhead_47 hE.1 ?_
      refine cm_iadd (pc := 50) dX7_lookAhead_50 ?_
      refine mk_set (pc := 51) fpX7_262 dX7_lookAhead_51 hE.1 ?_
      refine cm_incN2 (pc := 54) dX7_lookAhead_54 (by decide) rfl ?_
      refine cm_goto (pc := 57) (tgt := 16) dX7_lookAhead_57 (by decide) ?_
      rw [va_up_self, pk_un (by decide), pk_un (by decide), bx_uu]
      exact hst
set_option maxRecDepth 20000 in
theorem r_lookAhead (hE : cm_mdl sh hr e) {n : Nat} (h : uOk u nb ns) (hn60 : n ≤ 60) : cm_ct D mX7_lookAhead (d + 5) 0 0 [.ref e, .int (nI n)] (sh, cm_us hi e u, hl, hr) (fun r9 h9 => r9 = none ∧ h9 = (sh, cm_us hi e (uCB (uLA u nb ns n)), hl, hr)) := by
  refine cm_ct_of (ls := [some (.ref e), some (.int (nI n)), none]) 1 (by decide +kernel) rfl rfl ?_
  refine cm_aload0 (pc := 0) dX7_lookAhead_0 ?_
  refine cm_V0 (pc := 1) mX7_putAside_v mlX7_253 dX7_lookAhead_1 hE.1 (by omega) (Nat.le_of_ble_eq_true rfl) (Nat.le_refl _) (Nat.le_refl _) (r_putAside (d := d + 3) hE) (fun r1 h1 hq1 => ?_)
  obtain ⟨rfl, rfl⟩ := hq1
  refine cm_aload0 (pc := 4) dX7_lookAhead_4 ?_
  refine cm_iconst (pc := 5) (v := 0) dX7_lookAhead_5 (by decide) ?_
  refine mk_set (pc := 6) fpX7_259 dX7_lookAhead_6 hE.1 ?_
  refine cm_aload0 (pc := 9) dX7_lookAhead_9 ?_
  refine cm_iconst (pc := 10) (v := 0) dX7_lookAhead_10 (by decide) ?_
  refine mk_set (pc := 11) fpX7_262 dX7_lookAhead_11 hE.1 ?_
  refine cm_iconst (pc := 14) (v := 0) dX7_lookAhead_14 (by decide) ?_
  refine cm_istore2 (pc := 15) dX7_lookAhead_15 (by decide) rfl ?_
  rw [va_up_self, bx_uu]
  exact l_rla hE h hn60 n 0 (Nat.zero_add _)
end U4
