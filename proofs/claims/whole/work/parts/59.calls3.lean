/-! PART calls3: the class's calls: what will be, what is best, tracks, winds -/
theorem isU_ex {r b : Int32} (n : Nat) (h : isU r b = true) (hb : b = nI n := by rfl) (hn : n < 2 ^ 31 := by decide) : ∃ j, j ≤ n ∧ r = nI j := by
  subst hb
  have h1 := isU_z.mp h
  rw [nI_toInt hn] at h1
  exact ⟨r.toInt.toNat, by omega, z_of h1.1⟩
def fr33 (hi H : cm_g2) : Prop := ∀ c, c ≠ 2 → c < 33 ∨ 44 < c → H c = hi c
def cUps (hi : cm_g2) (v : Int32) : Nat → Int32 := upd (hi 2) 10 v
theorem told_fr {hi H G : cm_g2} {v : Int32} (F : ∀ c, c < 33 ∨ 44 < c → H c = hi c) (e : ∀ c, c ≠ 2 → G c = H c) (f : G 2 = upd (H 2) 10 v) : fr33 hi G ∧ G 2 = cUps hi v := ⟨fun c h1 h2 => by rw [e c h1, F c h2], by rw [f, F 2 (by decide)]; rfl⟩
section C3
variable {D : cm_D} {d : Nat} {sh : List cm_Sh} {hi : cm_g2} {hl : Nat → Nat → Int64} {hr : Nat → Nat → Option Nat} {nb ns a b n : Nat}
set_option maxRecDepth 20000 in
theorem k_when (hX : cm_cls sh hr) {i : Int32} (h : mOk (cm_sf hi 5) nb ns) : cm_ct D mX6_when (d + 6) 0 0 [.ref 2, .int i] (sh, hi, hl, hr) (fun r9 h9 => ∃ H, h9 = (sh, H, hl, hr) ∧ (if isW i (hi 5 3) = false then r9 = some (.int (-1)) ∧ H = hi else ∃ g, mEq g (cP hi) ∧ fr33 hi H ∧ (match (if hi 12 i.toNatClampNeg = 4 then none else cFs g nb ns i.toNatClampNeg 60 0) with | none => r9 = some (.int (-9)) ∧ H 2 = hi 2 | some m => r9 = some (.int (nI m)) ∧ H 2 = cUps hi (cm_oi (mHere (mIt g nb ns m).1 ((mIt g nb ns m).1 6 i.toNatClampNeg) (hi 12 i.toNatClampNeg) ns 0))))) := by
  have hnb := h.1.2.1
  have hns := h.1.2.2.2
  refine cm_ct_of (ls := [some (.ref 2), some (.int i), none]) 1 (by decide +kernel) rfl rfl ?_
  refine cm_aload0 (pc := 0) dX6_when_0 ?_
  refine cm_iload1 (pc := 1) dX6_when_1 ?_
  refine cm_V1 (pc := 2) mX6_isBuyer_v mlX6_139 dX6_when_2 hX.ox (by omega) (Nat.le_of_ble_eq_true rfl) (Nat.le_refl _) (Nat.le_refl _) (k_isBuyer (d := d + 4) hX) (fun r2 h2 hq2 => ?_)
  obtain ⟨rfl, rfl⟩ := hq2
  refine cm_ifneB (pc := 5) (tgt := 10) dX6_when_5 (by decide) (fun c5 => ?_) (fun c5 => ?_)
  · obtain ⟨j, hj, rfl⟩ := isW_ex nb c5 (show hi 5 3 = nI nb from h.1.1) (by omega)
    have hjc : (nI j).toNatClampNeg = j := nI_clamp (by omega)
    refine cm_aload0 (pc := 10) dX6_when_10 ?_
    refine cm_getR (pc := 11) flX6_46 dX6_when_11 hX.ox hX.r6 ?_
    refine cm_aload0 (pc := 14) dX6_when_14 ?_
    refine cm_getR (pc := 15) flX6_21 dX6_when_15 hX.ox hX.r2 ?_
    refine cm_iload1 (pc := 18) dX6_when_18 ?_
    refine cm_V2 (pc := 19) mX0_firstSaleTo_v mlX6_213 dX6_when_19 hX.of (by omega) (Nat.le_of_ble_eq_true rfl) (Nat.le_refl _) (Nat.le_refl _) (k_firstSaleTo (d := d) hX h (i := j) (by omega)) (fun r19 h19 hq19 => ?_)
    obtain ⟨H19, g, rfl, mg, F19, R19⟩ := hq19
    cases hcf : (if hi 12 j = 4 then none else cFs g nb ns j 60 0) with
    | none =>
      rw [hcf] at R19
      subst R19
      refine cm_istore2 (pc := 22) dX6_when_22 (by decide) rfl ?_
      refine cm_iload2 (pc := 23) dX6_when_23 ?_
      refine cm_bipush (pc := 24) (v := -9) dX6_when_24 (by decide) ?_
      refine cm_icmp_eq (pc := 26) (tgt := 40) dX6_when_26 (by decide) (fun c26 => ?_) (fun q => absurd rfl q)
      refine cm_iload2 (pc := 40) dX6_when_40 ?_
      exact cm_iret (pc := 41) dX6_when_41 rfl ⟨H19, rfl, by rw [if_neg (by rw [c5]; decide)]; simp only [hjc]; refine ⟨g, mg, fun c _ hc => F19 c hc, ?_⟩; rw [hcf]; exact ⟨by trivial, F19 2 (by decide)⟩⟩
    | some m =>
      rw [hcf] at R19
      obtain ⟨rfl, R2⟩ := R19
      have cle : m ≤ 60 := by
        split at hcf
        · cases hcf
        · have := cFs_le hcf; omega
      refine cm_istore2 (pc := 22) dX6_when_22 (by decide) rfl ?_
      refine cm_iload2 (pc := 23) dX6_when_23 ?_
      refine cm_bipush (pc := 24) (v := -9) dX6_when_24 (by decide) ?_
      refine cm_icmp_eq (pc := 26) (tgt := 40) dX6_when_26 (by decide) (fun q => absurd q (wI_ne (p := m) (by have := cle; omega))) (fun c26 => ?_)
      refine cm_aload0 (pc := 29) dX6_when_29 ?_
      refine cm_aload0 (pc := 30) dX6_when_30 ?_
      refine cm_getR (pc := 31) flX6_46 dX6_when_31 hX.ox hX.r6 ?_
      refine cm_getI (pc := 34) flX6_217 dX6_when_34 hX.of ?_
      refine cm_putI (pc := 37) fpX6_201 dX6_when_37 hX.ox ?_
      refine cm_memG (fun G37 e37 f37 => ?_)
      refine cm_iload2 (pc := 40) dX6_when_40 ?_
      exact cm_iret (pc := 41) dX6_when_41 rfl ⟨G37, rfl, by rw [if_neg (by rw [c5]; decide)]; simp only [hjc]; refine ⟨g, mg, (told_fr F19 e37 f37).1, ?_⟩; rw [hcf]; exact ⟨by trivial, by rw [(told_fr F19 e37 f37).2, R2]⟩⟩
  · refine cm_iconst (pc := 8) (v := -1) dX6_when_8 (by decide) ?_
    exact cm_iret (pc := 9) dX6_when_9 rfl ⟨hi, rfl, by simp [*]⟩
set_option maxRecDepth 20000 in
theorem k_bought (hX : cm_cls sh hr) {n : Int32} (h : mOk (cm_sf hi 5) nb ns) : cm_ct D mX6_bought (d + 6) 0 0 [.ref 2, .int n] (sh, hi, hl, hr) (fun r9 h9 => ∃ H, h9 = (sh, H, hl, hr) ∧ (if isU n 60 = false then r9 = some (.int (-1)) ∧ H = hi else ∃ g, mEq g (cP hi) ∧ fr33 hi H ∧ r9 = some (.int (nI (mIt g nb ns n.toNatClampNeg).2)) ∧ H 2 = cUps hi (sumP ((mIt g nb ns n.toNatClampNeg).1 8) nb - sumP (hi 13) nb))) := by
  have hnb := h.1.2.1
  have hns := h.1.2.2.2
  refine cm_ct_of (ls := [some (.ref 2), some (.int n), none]) 1 (by decide +kernel) rfl rfl ?_
  refine cm_iload1 (pc := 0) dX6_bought_0 ?_
  refine cm_bipush (pc := 1) (v := 60) dX6_bought_1 (by decide) ?_
  refine cm_S2 (pc := 3) mX6_isUpTo_s mlX6_179 dX6_bought_3 (by omega) (Nat.le_of_ble_eq_true rfl) (Nat.le_refl _) (Nat.le_refl _) (k_isUpTo (d := d + 5) ) (fun r3 h3 hq3 => ?_)
  obtain ⟨rfl, rfl⟩ := hq3
  refine cm_ifneB (pc := 6) (tgt := 11) dX6_bought_6 (by decide) (fun c6 => ?_) (fun c6 => ?_)
  · obtain ⟨m, hm, rfl⟩ := isU_ex 60 c6
    have hmc : (nI m).toNatClampNeg = m := nI_clamp (by omega)
    refine cm_aload0 (pc := 11) dX6_bought_11 ?_
    refine cm_getR (pc := 12) flX6_46 dX6_bought_12 hX.ox hX.r6 ?_
    refine cm_aload0 (pc := 15) dX6_bought_15 ?_
    refine cm_getR (pc := 16) flX6_21 dX6_bought_16 hX.ox hX.r2 ?_
    refine cm_iload1 (pc := 19) dX6_bought_19 ?_
    refine cm_V2 (pc := 20) mX0_sales_v mlX6_220 dX6_bought_20 hX.of (by omega) (Nat.le_of_ble_eq_true rfl) (Nat.le_refl _) (Nat.le_refl _) (k_sales (d := d) hX h (show m < 2147483648 by omega)) (fun r20 h20 hq20 => ?_)
    obtain ⟨H20, g, rfl, mg, F20, rfl, R20⟩ := hq20
    refine cm_istore2 (pc := 23) dX6_bought_23 (by decide) rfl ?_
    refine cm_aload0 (pc := 24) dX6_bought_24 ?_
    refine cm_aload0 (pc := 25) dX6_bought_25 ?_
    refine cm_getR (pc := 26) flX6_46 dX6_bought_26 hX.ox hX.r6 ?_
    refine cm_getI (pc := 29) flX6_217 dX6_bought_29 hX.of ?_
    refine cm_putI (pc := 32) fpX6_201 dX6_bought_32 hX.ox ?_
    refine cm_memG (fun G32 e32 f32 => ?_)
    refine cm_iload2 (pc := 35) dX6_bought_35 ?_
    exact cm_iret (pc := 36) dX6_bought_36 rfl ⟨G32, rfl, by rw [if_neg (by rw [c6]; decide)]; simp only [hmc]; exact ⟨g, mg, (told_fr F20 e32 f32).1, by trivial, by rw [(told_fr F20 e32 f32).2, R20]⟩⟩
  · refine cm_iconst (pc := 9) (v := -1) dX6_bought_9 (by decide) ?_
    exact cm_iret (pc := 10) dX6_bought_10 rfl ⟨hi, rfl, by simp [*]⟩
set_option maxRecDepth 20000 in
theorem k_rest (hX : cm_cls sh hr) (h : mOk (cm_sf hi 5) nb ns) : cm_ct D mX6_rest (d + 6) 0 0 [.ref 2] (sh, hi, hl, hr) (fun r9 h9 => ∃ H hl9, h9 = (sh, H, hl9, hr) ∧ (if hi 5 3 = 0 then r9 = some (.int (-4)) ∧ H = hi else ∃ g, mEq g (cP hi) ∧ fr33 hi H ∧ (match cRs g nb ns 200 0 with | none => r9 = some (.int (-9)) ∧ H 2 = hi 2 | some m => r9 = some (.int (nI m)) ∧ H 2 = cUps hi (sumP (fun i => if (mIt g nb ns m).1 7 i = 4 then 0 else 1) nb)))) := by
  have hnb := h.1.2.1
  have hns := h.1.2.2.2
  refine cm_ct_of (ls := [some (.ref 2), none]) 1 (by decide +kernel) rfl rfl ?_
  refine cm_aload0 (pc := 0) dX6_rest_0 ?_
  refine cm_getR (pc := 1) flX6_21 dX6_rest_1 hX.ox hX.r2 ?_
  refine cm_getI (pc := 4) flX6_136 dX6_rest_4 hX.mp.1 ?_
  refine cm_if_ne (pc := 7) (tgt := 13) dX6_rest_7 (by decide) (fun c7 => ?_) (fun c7 => ?_)
  · refine cm_aload0 (pc := 13) dX6_rest_13 ?_
    refine cm_getR (pc := 14) flX6_46 dX6_rest_14 hX.ox hX.r6 ?_
    refine cm_aload0 (pc := 17) dX6_rest_17 ?_
    refine cm_getR (pc := 18) flX6_21 dX6_rest_18 hX.ox hX.r2 ?_
    refine cm_V1 (pc := 21) mX0_firstRest_v mlX6_223 dX6_rest_21 hX.of (by omega) (Nat.le_of_ble_eq_true rfl) (Nat.le_refl _) (Nat.le_refl _) (k_firstRest (d := d) hX h) (fun r21 h21 hq21 => ?_)
    obtain ⟨H21, hl21, g, rfl, mg, F21, R21⟩ := hq21
    cases hcf : cRs g nb ns 200 0 with
    | none =>
      rw [hcf] at R21
      subst R21
      refine cm_istore1 (pc := 24) dX6_rest_24 (by decide) rfl ?_
      refine cm_iload1 (pc := 25) dX6_rest_25 ?_
      refine cm_bipush (pc := 26) (v := -9) dX6_rest_26 (by decide) ?_
      refine cm_icmp_eq (pc := 28) (tgt := 42) dX6_rest_28 (by decide) (fun c28 => ?_) (fun q => absurd rfl q)
      refine cm_iload1 (pc := 42) dX6_rest_42 ?_
      exact cm_iret (pc := 43) dX6_rest_43 rfl ⟨H21, hl21, rfl, by rw [if_neg c7]; refine ⟨g, mg, fun c _ hc => F21 c hc, ?_⟩; rw [hcf]; exact ⟨by trivial, F21 2 (by decide)⟩⟩
    | some m =>
      rw [hcf] at R21
      obtain ⟨rfl, R2⟩ := R21
      refine cm_istore1 (pc := 24) dX6_rest_24 (by decide) rfl ?_
      refine cm_iload1 (pc := 25) dX6_rest_25 ?_
      refine cm_bipush (pc := 26) (v := -9) dX6_rest_26 (by decide) ?_
      refine cm_icmp_eq (pc := 28) (tgt := 42) dX6_rest_28 (by decide) (fun q => absurd q (wI_ne (p := m) (by have := cRs_le hcf; omega))) (fun c28 => ?_)
      refine cm_aload0 (pc := 31) dX6_rest_31 ?_
      refine cm_aload0 (pc := 32) dX6_rest_32 ?_
      refine cm_getR (pc := 33) flX6_46 dX6_rest_33 hX.ox hX.r6 ?_
      refine cm_getI (pc := 36) flX6_217 dX6_rest_36 hX.of ?_
      refine cm_putI (pc := 39) fpX6_201 dX6_rest_39 hX.ox ?_
      refine cm_memG (fun G39 e39 f39 => ?_)
      refine cm_iload1 (pc := 42) dX6_rest_42 ?_
      exact cm_iret (pc := 43) dX6_rest_43 rfl ⟨G39, hl21, rfl, by rw [if_neg c7]; refine ⟨g, mg, (told_fr F21 e39 f39).1, ?_⟩; rw [hcf]; exact ⟨by trivial, by rw [(told_fr F21 e39 f39).2, R2]⟩⟩
  · refine cm_bipush (pc := 10) (v := -4) dX6_rest_10 (by decide) ?_
    exact cm_iret (pc := 12) dX6_rest_12 rfl ⟨hi, hl, rfl, by simp [*]⟩
set_option maxRecDepth 20000 in
theorem k_track (hX : cm_cls sh hr) {n r : Int32} (h : mOk (cm_sf hi 5) nb ns) : cm_ct D mX6_track (d + 6) 0 0 [.ref 2, .int n, .int r] (sh, hi, hl, hr) (fun r9 h9 => ∃ H, h9 = (sh, H, hl, hr) ∧ (if isU n 60 = false ∨ isW r 6 = false then r9 = some (.int (-1)) ∧ H = hi else ∃ g, mEq g (cP hi) ∧ (∀ c, c ≠ 2 → c < 33 ∨ 44 < c → c ≠ sR r → c ≠ sR r + 1 → H c = hi c) ∧ H (sR r) 1 = nI nb ∧ (∀ x, x < nb → H (sR r + 1) x = (mIt g nb ns n.toNatClampNeg).1 6 x) ∧ r9 = some (.int 1) ∧ H 2 = cUps hi (mSun (mIt g nb ns n.toNatClampNeg).1))) := by
  have hnb := h.1.2.1
  have hns := h.1.2.2.2
  refine cm_ct_of (ls := [some (.ref 2), some (.int n), some (.int r)]) 0 (by decide +kernel) rfl rfl ?_
  refine cm_iload1 (pc := 0) dX6_track_0 ?_
  refine cm_bipush (pc := 1) (v := 60) dX6_track_1 (by decide) ?_
  refine cm_S2 (pc := 3) mX6_isUpTo_s mlX6_179 dX6_track_3 (by omega) (Nat.le_of_ble_eq_true rfl) (Nat.le_refl _) (Nat.le_refl _) (k_isUpTo (d := d + 5) ) (fun r3 h3 hq3 => ?_)
  obtain ⟨rfl, rfl⟩ := hq3
  refine cm_ifeqB (pc := 6) (tgt := 18) dX6_track_6 (by decide) (fun c6 => ?_) (fun c6 => ?_)
  · refine cm_iconst (pc := 18) (v := -1) dX6_track_18 (by decide) ?_
    exact cm_iret (pc := 19) dX6_track_19 rfl ⟨hi, rfl, by simp [*]⟩
  · obtain ⟨m, hm, rfl⟩ := isU_ex 60 c6
    have hmc : (nI m).toNatClampNeg = m := nI_clamp (by omega)
    refine cm_iload2 (pc := 9) dX6_track_9 ?_
    refine cm_bipush (pc := 10) (v := 6) dX6_track_10 (by decide) ?_
    refine cm_S2 (pc := 12) mX6_isWithin_s mlX6_64 dX6_track_12 (by omega) (Nat.le_of_ble_eq_true rfl) (Nat.le_refl _) (Nat.le_refl _) (k_isWithin (d := d + 5) ) (fun r12 h12 hq12 => ?_)
    obtain ⟨rfl, rfl⟩ := hq12
    refine cm_ifneB (pc := 15) (tgt := 20) dX6_track_15 (by decide) (fun c15 => ?_) (fun c15 => ?_)
    · obtain ⟨j, hj, rfl⟩ := isW_ex 6 c15
      have hjc : (nI j).toNatClampNeg = j := nI_clamp (by omega)
      have hS := (hX.row j hj).2
      refine cm_aload0 (pc := 20) dX6_track_20 ?_
      refine cm_aload0 (pc := 21) dX6_track_21 ?_
      refine cm_getR (pc := 22) flX6_46 dX6_track_22 hX.ox hX.r6 ?_
      refine cm_aload0 (pc := 25) dX6_track_25 ?_
      refine cm_getR (pc := 26) flX6_21 dX6_track_26 hX.ox hX.r2 ?_
      refine cm_iload1 (pc := 29) dX6_track_29 ?_
      refine cm_aload0 (pc := 30) dX6_track_30 ?_
      refine cm_getR (pc := 31) flX6_11 dX6_track_31 hX.ox hX.r0 ?_
      refine cm_iload2 (pc := 34) dX6_track_34 ?_
      refine cm_aal2 (pc := 35) dX6_track_35 hX.a3 (by omega) (by decide) (hX.row j hj).1 ?_
      refine cm_V3 (pc := 36) mX0_spotsAfter_v mlX6_227 dX6_track_36 hX.of (by omega) (Nat.le_of_ble_eq_true rfl) (Nat.le_refl _) (Nat.le_refl _) (k_spotsAfter (d := d) hX h (show m < 2147483648 by omega) hS (by omega)) (fun r36 h36 hq36 => ?_)
      obtain ⟨H36, g, rfl, mg, F36, Z36, U36, rfl⟩ := hq36
      refine cm_V1 (pc := 39) mX6_tell_v mlX6_84 dX6_track_39 hX.ox (by omega) (Nat.le_of_ble_eq_true rfl) (Nat.le_refl _) (Nat.le_refl _) (k_tell (d := d + 5) hX) (fun r39 h39 hq39 => ?_)
      obtain ⟨rfl, rfl⟩ := hq39
      exact cm_iret (pc := 42) dX6_track_42 rfl ⟨_, rfl, by rw [if_neg (by rw [c6, c15]; decide)]; simp only [sR, hjc, hmc]; exact ⟨g, mg, fun c h1 h2 h3 h4 => by rw [show kTell H36 _ c = H36 c from va_up_ne _ _ h1]; exact F36 c h2 h3 h4, by rw [show kTell H36 _ (61 + 2 * j) = H36 (61 + 2 * j) from va_up_ne _ _ (by omega)]; exact Z36, fun x hx => by rw [show kTell H36 _ (61 + 2 * j + 1) = H36 (61 + 2 * j + 1) from va_up_ne _ _ (by omega)]; exact U36 x hx, by trivial, by rw [show kTell H36 _ 2 = upd (H36 2) 10 _ from va_up_self _ _ _, F36 2 (by decide) (by omega) (by omega)]; rfl⟩⟩
    · refine cm_iconst (pc := 18) (v := -1) dX6_track_18 (by decide) ?_
      exact cm_iret (pc := 19) dX6_track_19 rfl ⟨hi, rfl, by simp [*]⟩
set_option maxRecDepth 20000 in
theorem k_best (hX : cm_cls sh hr) {n r : Int32} (h : mOk (cm_sf hi 5) nb ns) : cm_ct D mX6_best (d + 8) 0 0 [.ref 2, .int n, .int r] (sh, hi, hl, hr) (fun r9 h9 => ∃ H, h9 = (sh, H, hl, hr) ∧ (if isU n 20 = false ∨ isW r 6 = false then r9 = some (.int (-1)) ∧ H = hi else if hi 5 3 = 0 then r9 = some (.int (-4)) ∧ H = hi else ∃ m9 b9, (∀ c, c < 33 ∨ 45 < c → c ≠ sR r → c ≠ sR r + 1 → H c = hi c) ∧ boFold (boVal (cP hi) nb ns n.toNatClampNeg) (cIter nb 720 (List.range nb)) (-1) (List.replicate nb 0) m9 b9 ∧ r9 = some (.int m9) ∧ H (sR r) 1 = nI nb ∧ ∀ x, x < nb → H (sR r + 1) x = nI (oG b9 x))) := by
  have hnb := h.1.2.1
  have hns := h.1.2.2.2
  refine cm_ct_of (ls := [some (.ref 2), some (.int n), some (.int r)]) 0 (by decide +kernel) rfl rfl ?_
  refine cm_iload1 (pc := 0) dX6_best_0 ?_
  refine cm_bipush (pc := 1) (v := 20) dX6_best_1 (by decide) ?_
  refine cm_S2 (pc := 3) mX6_isUpTo_s mlX6_179 dX6_best_3 (by omega) (Nat.le_of_ble_eq_true rfl) (Nat.le_refl _) (Nat.le_refl _) (k_isUpTo (d := d + 7) ) (fun r3 h3 hq3 => ?_)
  obtain ⟨rfl, rfl⟩ := hq3
  refine cm_ifeqB (pc := 6) (tgt := 18) dX6_best_6 (by decide) (fun c6 => ?_) (fun c6 => ?_)
  · refine cm_iconst (pc := 18) (v := -1) dX6_best_18 (by decide) ?_
    exact cm_iret (pc := 19) dX6_best_19 rfl ⟨hi, rfl, by simp [*]⟩
  · obtain ⟨m, hm, rfl⟩ := isU_ex 20 c6
    have hmc : (nI m).toNatClampNeg = m := nI_clamp (by omega)
    refine cm_iload2 (pc := 9) dX6_best_9 ?_
    refine cm_bipush (pc := 10) (v := 6) dX6_best_10 (by decide) ?_
    refine cm_S2 (pc := 12) mX6_isWithin_s mlX6_64 dX6_best_12 (by omega) (Nat.le_of_ble_eq_true rfl) (Nat.le_refl _) (Nat.le_refl _) (k_isWithin (d := d + 7) ) (fun r12 h12 hq12 => ?_)
    obtain ⟨rfl, rfl⟩ := hq12
    refine cm_ifneB (pc := 15) (tgt := 20) dX6_best_15 (by decide) (fun c15 => ?_) (fun c15 => ?_)
    · obtain ⟨j, hj, rfl⟩ := isW_ex 6 c15
      have hjc : (nI j).toNatClampNeg = j := nI_clamp (by omega)
      have hS := (hX.row j hj).2
      refine cm_aload0 (pc := 20) dX6_best_20 ?_
      refine cm_getR (pc := 21) flX6_21 dX6_best_21 hX.ox hX.r2 ?_
      refine cm_getI (pc := 24) flX6_136 dX6_best_24 hX.mp.1 ?_
      refine cm_if_ne (pc := 27) (tgt := 33) dX6_best_27 (by decide) (fun c27 => ?_) (fun c27 => ?_)
      · have h0 : 0 < nb := by
          rcases Nat.eq_zero_or_pos nb with w | w
          · subst w; exact absurd h.1.1 c27
          · exact w
        refine cm_aload0 (pc := 33) dX6_best_33 ?_
        refine cm_getR (pc := 34) flX6_46 dX6_best_34 hX.ox hX.r6 ?_
        refine cm_aload0 (pc := 37) dX6_best_37 ?_
        refine cm_getR (pc := 38) flX6_21 dX6_best_38 hX.ox hX.r2 ?_
        refine cm_iload1 (pc := 41) dX6_best_41 ?_
        refine cm_aload0 (pc := 42) dX6_best_42 ?_
        refine cm_getR (pc := 43) flX6_11 dX6_best_43 hX.ox hX.r0 ?_
        refine cm_iload2 (pc := 46) dX6_best_46 ?_
        refine cm_aal2 (pc := 47) dX6_best_47 hX.a3 (by omega) (by decide) (hX.row j hj).1 ?_
        refine cm_V3 (pc := 48) mX0_bestOrder_v mlX6_231 dX6_best_48 hX.of (by omega) (Nat.le_of_ble_eq_true rfl) (Nat.le_refl _) (Nat.le_refl _) (k_bestOrder (d := d) hX h h0 (show m < 2147483648 by omega) hS (by omega)) (fun r48 h48 hq48 => ?_)
        obtain ⟨H48, m9, b9, rfl, F48, B48, rfl, Z48, U48⟩ := hq48
        exact cm_iret (pc := 51) dX6_best_51 rfl ⟨H48, rfl, by rw [if_neg (by rw [c6, c15]; decide), if_neg c27]; simp only [sR, hjc, hmc]; exact ⟨m9, b9, F48, B48, by trivial, Z48, U48⟩⟩
      · refine cm_bipush (pc := 30) (v := -4) dX6_best_30 (by decide) ?_
        exact cm_iret (pc := 32) dX6_best_32 rfl ⟨hi, rfl, by simp [*]⟩
    · refine cm_iconst (pc := 18) (v := -1) dX6_best_18 (by decide) ?_
      exact cm_iret (pc := 19) dX6_best_19 rfl ⟨hi, rfl, by simp [*]⟩
set_option maxRecDepth 20000 in
theorem k_spot (hX : cm_cls sh hr) {k n : Int32} (h : mOk (cm_sf hi 5) nb ns) : cm_ct D mX6_spot (d + 7) 0 0 [.ref 2, .int k, .int n] (sh, hi, hl, hr) (fun r9 h9 => ∃ H, h9 = (sh, H, hl, hr) ∧ (if isW k (hi 5 2) = false ∨ isU n 20 = false then r9 = some (.int (-1)) ∧ H = hi else if hi 5 3 = 0 then r9 = some (.int (-4)) ∧ H = hi else ∃ F, fr33 hi H ∧ (∀ i, i < 20 → bpVal (cP hi) nb ns n.toNatClampNeg k.toNatClampNeg i (F i)) ∧ r9 = some (.int (nI (cMax F 20).2)) ∧ H 2 = cUps hi (cMax F 20).1)) := by
  have hnb := h.1.2.1
  have hns := h.1.2.2.2
  refine cm_ct_of (ls := [some (.ref 2), some (.int k), some (.int n), none]) 1 (by decide +kernel) rfl rfl ?_
  refine cm_aload0 (pc := 0) dX6_spot_0 ?_
  refine cm_iload1 (pc := 1) dX6_spot_1 ?_
  refine cm_V1 (pc := 2) mX6_isStall_v mlX6_146 dX6_spot_2 hX.ox (by omega) (Nat.le_of_ble_eq_true rfl) (Nat.le_refl _) (Nat.le_refl _) (k_isStall (d := d + 5) hX) (fun r2 h2 hq2 => ?_)
  obtain ⟨rfl, rfl⟩ := hq2
  refine cm_ifeqB (pc := 5) (tgt := 17) dX6_spot_5 (by decide) (fun c5 => ?_) (fun c5 => ?_)
  · refine cm_iconst (pc := 17) (v := -1) dX6_spot_17 (by decide) ?_
    exact cm_iret (pc := 18) dX6_spot_18 rfl ⟨hi, rfl, by simp [*]⟩
  · obtain ⟨j, hj, rfl⟩ := isW_ex ns c5 (show hi 5 2 = nI ns from h.1.2.2.1) (by omega)
    have hjc : (nI j).toNatClampNeg = j := nI_clamp (by omega)
    refine cm_iload2 (pc := 8) dX6_spot_8 ?_
    refine cm_bipush (pc := 9) (v := 20) dX6_spot_9 (by decide) ?_
    refine cm_S2 (pc := 11) mX6_isUpTo_s mlX6_179 dX6_spot_11 (by omega) (Nat.le_of_ble_eq_true rfl) (Nat.le_refl _) (Nat.le_refl _) (k_isUpTo (d := d + 6) ) (fun r11 h11 hq11 => ?_)
    obtain ⟨rfl, rfl⟩ := hq11
    refine cm_ifneB (pc := 14) (tgt := 19) dX6_spot_14 (by decide) (fun c14 => ?_) (fun c14 => ?_)
    · obtain ⟨m, hm, rfl⟩ := isU_ex 20 c14
      have hmc : (nI m).toNatClampNeg = m := nI_clamp (by omega)
      refine cm_aload0 (pc := 19) dX6_spot_19 ?_
      refine cm_getR (pc := 20) flX6_21 dX6_spot_20 hX.ox hX.r2 ?_
      refine cm_getI (pc := 23) flX6_136 dX6_spot_23 hX.mp.1 ?_
      refine cm_if_ne (pc := 26) (tgt := 32) dX6_spot_26 (by decide) (fun c26 => ?_) (fun c26 => ?_)
      · refine cm_aload0 (pc := 32) dX6_spot_32 ?_
        refine cm_getR (pc := 33) flX6_46 dX6_spot_33 hX.ox hX.r6 ?_
        refine cm_aload0 (pc := 36) dX6_spot_36 ?_
        refine cm_getR (pc := 37) flX6_21 dX6_spot_37 hX.ox hX.r2 ?_
        refine cm_iload1 (pc := 40) dX6_spot_40 ?_
        refine cm_iload2 (pc := 41) dX6_spot_41 ?_
        refine cm_V3 (pc := 42) mX0_bestPlace_v mlX6_234 dX6_spot_42 hX.of (by omega) (Nat.le_of_ble_eq_true rfl) (Nat.le_refl _) (Nat.le_refl _) (k_bestPlace (d := d) hX h (show m < 2147483648 by omega) (by omega)) (fun r42 h42 hq42 => ?_)
        obtain ⟨H42, F, rfl, F42, V42, rfl, R42⟩ := hq42
        refine cm_istore3 (pc := 45) dX6_spot_45 (by decide) rfl ?_
        refine cm_aload0 (pc := 46) dX6_spot_46 ?_
        refine cm_aload0 (pc := 47) dX6_spot_47 ?_
        refine cm_getR (pc := 48) flX6_46 dX6_spot_48 hX.ox hX.r6 ?_
        refine cm_getI (pc := 51) flX6_217 dX6_spot_51 hX.of ?_
        refine cm_putI (pc := 54) fpX6_201 dX6_spot_54 hX.ox ?_
        refine cm_memG (fun G54 e54 f54 => ?_)
        refine cm_iload3 (pc := 57) dX6_spot_57 ?_
        exact cm_iret (pc := 58) dX6_spot_58 rfl ⟨G54, rfl, by rw [if_neg (by rw [c5, c14]; decide), if_neg c26]; simp only [hjc, hmc]; exact ⟨F, (told_fr F42 e54 f54).1, V42, by trivial, by rw [(told_fr F42 e54 f54).2, R42]⟩⟩
      · refine cm_bipush (pc := 29) (v := -4) dX6_spot_29 (by decide) ?_
        exact cm_iret (pc := 31) dX6_spot_31 rfl ⟨hi, rfl, by simp [*]⟩
    · refine cm_iconst (pc := 17) (v := -1) dX6_spot_17 (by decide) ?_
      exact cm_iret (pc := 18) dX6_spot_18 rfl ⟨hi, rfl, by simp [*]⟩
set_option maxRecDepth 20000 in
theorem k_missed (hX : cm_cls sh hr) {n : Int32} (h : mOk (cm_sf hi 5) nb ns) : cm_ct D mX6_missed (d + 7) 0 0 [.ref 2, .int n] (sh, hi, hl, hr) (fun r9 h9 => ∃ H, h9 = (sh, H, hl, hr) ∧ (if isU n 20 = false then r9 = some (.int (-1)) ∧ H = hi else if hi 5 3 = 0 then r9 = some (.int (-4)) ∧ H = hi else ∃ F g0, fr33 hi H ∧ mEq g0 (cP hi) ∧ (∀ i, i < nb → lmVal (cP hi) nb ns n.toNatClampNeg (mIt g0 nb ns n.toNatClampNeg).2 (cWho (cP hi) (mIt g0 nb ns n.toNatClampNeg).1 nb) i (F i)) ∧ r9 = some (.int (nI (cMin F nb).2)) ∧ H 2 = cUps hi (cMin F nb).1)) := by
  have hnb := h.1.2.1
  have hns := h.1.2.2.2
  refine cm_ct_of (ls := [some (.ref 2), some (.int n), none]) 1 (by decide +kernel) rfl rfl ?_
  refine cm_iload1 (pc := 0) dX6_missed_0 ?_
  refine cm_bipush (pc := 1) (v := 20) dX6_missed_1 (by decide) ?_
  refine cm_S2 (pc := 3) mX6_isUpTo_s mlX6_179 dX6_missed_3 (by omega) (Nat.le_of_ble_eq_true rfl) (Nat.le_refl _) (Nat.le_refl _) (k_isUpTo (d := d + 6) ) (fun r3 h3 hq3 => ?_)
  obtain ⟨rfl, rfl⟩ := hq3
  refine cm_ifneB (pc := 6) (tgt := 11) dX6_missed_6 (by decide) (fun c6 => ?_) (fun c6 => ?_)
  · obtain ⟨m, hm, rfl⟩ := isU_ex 20 c6
    have hmc : (nI m).toNatClampNeg = m := nI_clamp (by omega)
    refine cm_aload0 (pc := 11) dX6_missed_11 ?_
    refine cm_getR (pc := 12) flX6_21 dX6_missed_12 hX.ox hX.r2 ?_
    refine cm_getI (pc := 15) flX6_136 dX6_missed_15 hX.mp.1 ?_
    refine cm_if_ne (pc := 18) (tgt := 24) dX6_missed_18 (by decide) (fun c18 => ?_) (fun c18 => ?_)
    · have h0 : 0 < nb := by
        rcases Nat.eq_zero_or_pos nb with w | w
        · subst w; exact absurd h.1.1 c18
        · exact w
      refine cm_aload0 (pc := 24) dX6_missed_24 ?_
      refine cm_getR (pc := 25) flX6_46 dX6_missed_25 hX.ox hX.r6 ?_
      refine cm_aload0 (pc := 28) dX6_missed_28 ?_
      refine cm_getR (pc := 29) flX6_21 dX6_missed_29 hX.ox hX.r2 ?_
      refine cm_iload1 (pc := 32) dX6_missed_32 ?_
      refine cm_V2 (pc := 33) mX0_leastMissed_v mlX6_238 dX6_missed_33 hX.of (by omega) (Nat.le_of_ble_eq_true rfl) (Nat.le_refl _) (Nat.le_refl _) (k_leastMissed (d := d) hX h (show m < 2147483648 by omega)) (fun r33 h33 hq33 => ?_)
      obtain ⟨H33, rfl, F33, F, g0, mg, V33, rfl, R33⟩ := hq33
      refine cm_istore2 (pc := 36) dX6_missed_36 (by decide) rfl ?_
      refine cm_aload0 (pc := 37) dX6_missed_37 ?_
      refine cm_aload0 (pc := 38) dX6_missed_38 ?_
      refine cm_getR (pc := 39) flX6_46 dX6_missed_39 hX.ox hX.r6 ?_
      refine cm_getI (pc := 42) flX6_217 dX6_missed_42 hX.of ?_
      refine cm_putI (pc := 45) fpX6_201 dX6_missed_45 hX.ox ?_
      refine cm_memG (fun G45 e45 f45 => ?_)
      refine cm_iload2 (pc := 48) dX6_missed_48 ?_
      exact cm_iret (pc := 49) dX6_missed_49 rfl ⟨G45, rfl, by rw [if_neg (by rw [c6]; decide), if_neg c18]; simp only [hmc]; exact ⟨F, g0, (told_fr F33 e45 f45).1, mg, V33, by trivial, by rw [(told_fr F33 e45 f45).2, R33 h0]⟩⟩
    · refine cm_bipush (pc := 21) (v := -4) dX6_missed_21 (by decide) ?_
      exact cm_iret (pc := 23) dX6_missed_23 rfl ⟨hi, rfl, by simp [*]⟩
  · refine cm_iconst (pc := 9) (v := -1) dX6_missed_9 (by decide) ?_
    exact cm_iret (pc := 10) dX6_missed_10 rfl ⟨hi, rfl, by simp [*]⟩
def cFewest (hi : cm_g2) (nb : Nat) : Int32 × cm_g2 := if hi 5 3 = 0 then (-4, hi) else (bitC (cFew (cP hi) nb (2 ^ nb - 2)), kTell hi (cFew (cP hi) nb (2 ^ nb - 2)))
def cBShift (P : cm_g2) (nb ns : Nat) : Int32 := (cBS P nb ns (20 + (P 6 0).toInt.toNat - (P 6 (nb - 1)).toInt.toNat)).1
def cTurns (hi : cm_g2) (nb ns : Nat) : Int32 × cm_g2 := if hi 5 3 = 0 then (-4, hi) else (cAbs (cBShift (cP hi) nb ns), kTell hi (bitC (mShs (cP hi) nb (mSun (cP hi) + cBShift (cP hi) nb ns) ns)))
set_option maxRecDepth 20000 in
theorem k_fewest (hX : cm_cls sh hr) (h : mOk (cm_sf hi 5) nb ns) : cm_ct D mX6_fewest (d + 3) 0 0 [.ref 2] (sh, hi, hl, hr) (fun r9 h9 => r9 = some (.int (cFewest hi nb).1) ∧ h9 = (sh, (cFewest hi nb).2, hl, hr)) := by
  have hnb := h.1.2.1
  have hns := h.1.2.2.2
  refine cm_ct_of (ls := [some (.ref 2)]) 0 (by decide +kernel) rfl rfl ?_
  refine cm_aload0 (pc := 0) dX6_fewest_0 ?_
  refine cm_getR (pc := 1) flX6_21 dX6_fewest_1 hX.ox hX.r2 ?_
  refine cm_getI (pc := 4) flX6_136 dX6_fewest_4 hX.mp.1 ?_
  refine cm_if_ne (pc := 7) (tgt := 13) dX6_fewest_7 (by decide) (fun c7 => ?_) (fun c7 => ?_)
  · have h0 : 0 < nb := by
      rcases Nat.eq_zero_or_pos nb with w | w
      · subst w; exact absurd h.1.1 c7
      · exact w
    refine cm_aload0 (pc := 13) dX6_fewest_13 ?_
    refine cm_aload0 (pc := 14) dX6_fewest_14 ?_
    refine cm_getR (pc := 15) flX6_21 dX6_fewest_15 hX.ox hX.r2 ?_
    refine cm_V0 (pc := 18) mX2_fewestHolders_v mlX6_241 dX6_fewest_18 hX.mp.1 (by omega) (Nat.le_of_ble_eq_true rfl) (Nat.le_refl _) (Nat.le_refl _) (cm_ct_us 5 (k_fewestHolders (d := d) hX.mp (show cm_sf hi 5 0 3 = nI nb from h.1.1) hnb h0)) (fun r18 h18 hq18 => ?_)
    obtain ⟨rfl, rfl⟩ := hq18
    rw [cm_us_sf]
    refine cm_putI (pc := 21) fpX6_201 dX6_fewest_21 hX.ox ?_
    refine cm_memG (fun G21 e21 f21 => ?_)
    refine cm_aload0 (pc := 24) dX6_fewest_24 ?_
    refine cm_getI (pc := 25) flX6_201 dX6_fewest_25 hX.ox ?_
    rw [show G21 2 10 = cFew (cP hi) nb (2 ^ nb - 2) by rw [f21]; exact if_pos rfl]
    refine cm_S1 (pc := 28) mJ6_bitCount_0f7a4_s mlX6_244 dX6_fewest_28 (by omega) (Nat.le_of_ble_eq_true rfl) (Nat.le_refl _) (Nat.le_refl _) (k_bitCount (d := d + 2)) (fun r28 h28 hq28 => ?_)
    obtain ⟨rfl, rfl⟩ := hq28
    exact cm_iret (pc := 31) dX6_fewest_31 rfl ⟨by unfold cFewest; rw [if_neg c7], by unfold cFewest; rw [if_neg c7]; rw [show G21 = kTell hi (cFew (cP hi) nb (2 ^ nb - 2)) from upG e21 f21]⟩
  · refine cm_bipush (pc := 10) (v := -4) dX6_fewest_10 (by decide) ?_
    exact cm_iret (pc := 12) dX6_fewest_12 rfl ⟨by simp [cFewest, *], by simp [cFewest, *]⟩
set_option maxRecDepth 20000 in
theorem k_turns (hX : cm_cls sh hr) (h : mOk (cm_sf hi 5) nb ns) : cm_ct D mX6_turns (d + 4) 0 0 [.ref 2] (sh, hi, hl, hr) (fun r9 h9 => r9 = some (.int (cTurns hi nb ns).1) ∧ h9 = (sh, (cTurns hi nb ns).2, hl, hr)) := by
  have hnb := h.1.2.1
  have hns := h.1.2.2.2
  refine cm_ct_of (ls := [some (.ref 2), none]) 1 (by decide +kernel) rfl rfl ?_
  refine cm_aload0 (pc := 0) dX6_turns_0 ?_
  refine cm_getR (pc := 1) flX6_21 dX6_turns_1 hX.ox hX.r2 ?_
  refine cm_getI (pc := 4) flX6_136 dX6_turns_4 hX.mp.1 ?_
  refine cm_if_ne (pc := 7) (tgt := 13) dX6_turns_7 (by decide) (fun c7 => ?_) (fun c7 => ?_)
  · have h0 : 0 < nb := by
      rcases Nat.eq_zero_or_pos nb with w | w
      · subst w; exact absurd h.1.1 c7
      · exact w
    refine cm_aload0 (pc := 13) dX6_turns_13 ?_
    refine cm_getR (pc := 14) flX6_21 dX6_turns_14 hX.ox hX.r2 ?_
    refine cm_V0 (pc := 17) mX2_bestShift_v mlX6_249 dX6_turns_17 hX.mp.1 (by omega) (Nat.le_of_ble_eq_true rfl) (Nat.le_refl _) (Nat.le_refl _) (cm_ct_us 5 (k_bestShift (d := d) hX.mp h h0)) (fun r17 h17 hq17 => ?_)
    obtain ⟨rfl, rfl⟩ := hq17
    rw [cm_us_sf, show (cBS (cm_sf hi 5) nb ns (20 + (cm_sf hi 5 6 0).toInt.toNat - (cm_sf hi 5 6 (nb - 1)).toInt.toNat)).1 = cBShift (cP hi) nb ns from rfl]
    refine cm_istore1 (pc := 20) dX6_turns_20 (by decide) rfl ?_
    refine cm_aload0 (pc := 21) dX6_turns_21 ?_
    refine cm_aload0 (pc := 22) dX6_turns_22 ?_
    refine cm_getR (pc := 23) flX6_21 dX6_turns_23 hX.ox hX.r2 ?_
    refine cm_aload0 (pc := 26) dX6_turns_26 ?_
    refine cm_getR (pc := 27) flX6_21 dX6_turns_27 hX.ox hX.r2 ?_
    refine cm_V0 (pc := 30) mX2_sun_v mlX6_198 dX6_turns_30 hX.mp.1 (by omega) (Nat.le_of_ble_eq_true rfl) (Nat.le_refl _) (Nat.le_refl _) (cm_ct_us 5 (k_sun (d := d + 3) hX.mp)) (fun r30 h30 hq30 => ?_)
    obtain ⟨rfl, rfl⟩ := hq30
    rw [cm_us_sf]
    refine cm_iload1 (pc := 33) dX6_turns_33 ?_
    refine cm_iadd (pc := 34) dX6_turns_34 ?_
    refine cm_V1 (pc := 35) mX2_stallsShaded_v mlX6_207 dX6_turns_35 hX.mp.1 (by omega) (Nat.le_of_ble_eq_true rfl) (Nat.le_refl _) (Nat.le_refl _) (cm_ct_us 5 (k_stallsShaded (d := d + 1) hX.mp (show cm_sf hi 5 0 2 = nI ns from h.1.2.2.1) hns (show cm_sf hi 5 0 3 = nI nb from h.1.1) hnb)) (fun r35 h35 hq35 => ?_)
    obtain ⟨rfl, rfl⟩ := hq35
    rw [cm_us_sf]
    refine cm_S1 (pc := 38) mJ6_bitCount_0f7a4_s mlX6_244 dX6_turns_38 (by omega) (Nat.le_of_ble_eq_true rfl) (Nat.le_refl _) (Nat.le_refl _) (k_bitCount (d := d + 3)) (fun r38 h38 hq38 => ?_)
    obtain ⟨rfl, rfl⟩ := hq38
    refine cm_putI (pc := 41) fpX6_201 dX6_turns_41 hX.ox ?_
    refine cm_memG (fun G41 e41 f41 => ?_)
    refine cm_iload1 (pc := 44) dX6_turns_44 ?_
    refine cm_abs (pc := 45) mJ9_abs_0f7a4_s lmX6_252 dX6_turns_45 (by omega) (Nat.le_of_ble_eq_true rfl) (Nat.le_refl _) (Nat.le_refl _) ?_
    exact cm_iret (pc := 48) dX6_turns_48 rfl ⟨by unfold cTurns; rw [if_neg c7]; rfl, by unfold cTurns; rw [if_neg c7]; rw [show G41 = kTell hi (bitC (mShs (cP hi) nb (mSun (cP hi) + cBShift (cP hi) nb ns) ns)) from upG e41 f41]⟩
  · refine cm_bipush (pc := 10) (v := -4) dX6_turns_10 (by decide) ?_
    exact cm_iret (pc := 12) dX6_turns_12 rfl ⟨by simp [cTurns, *], by simp [cTurns, *]⟩
set_option maxRecDepth 20000 in
theorem k_winds (hX : cm_cls sh hr) {n seed : Int32} (h : mOk (cm_sf hi 5) nb ns) : cm_ct D mX6_winds (d + 6) 0 0 [.ref 2, .int n, .int seed] (sh, hi, hl, hr) (fun r9 h9 => ∃ H, h9 = (sh, H, hl, hr) ∧ (if n < 1 ∨ 60 < n ∨ seed < 1 ∨ ¬ lg_cmp seed.toInt64 2147483647 < 0 then r9 = some (.int (-1)) ∧ H = hi else if hi 5 3 = 0 then r9 = some (.int (-4)) ∧ H = hi else ∃ g, mEq g (cP hi) ∧ fr33 hi H ∧ r9 = some (.int (nI (mItW g nb ns (cWind seed.toInt64) n.toNatClampNeg).2)) ∧ H 2 = cUps hi (sumP ((mItW g nb ns (cWind seed.toInt64) n.toNatClampNeg).1 8) nb - sumP (hi 13) nb))) := by
  have hnb := h.1.2.1
  have hns := h.1.2.2.2
  refine cm_ct_of (ls := [some (.ref 2), some (.int n), some (.int seed), none]) 1 (by decide +kernel) rfl rfl ?_
  refine cm_iload1 (pc := 0) dX6_winds_0 ?_
  refine cm_iconst (pc := 1) (v := 1) dX6_winds_1 (by decide) ?_
  refine cm_icmp_lt (pc := 2) (tgt := 25) dX6_winds_2 (by decide) (fun c2 => ?_) (fun c2 => ?_)
  · refine cm_iconst (pc := 25) (v := -1) dX6_winds_25 (by decide) ?_
    exact cm_iret (pc := 26) dX6_winds_26 rfl ⟨hi, rfl, by simp [*]⟩
  · refine cm_iload1 (pc := 5) dX6_winds_5 ?_
    refine cm_bipush (pc := 6) (v := 60) dX6_winds_6 (by decide) ?_
    refine cm_icmp_gt (pc := 8) (tgt := 25) dX6_winds_8 (by decide) (fun c8 => ?_) (fun c8 => ?_)
    · refine cm_iconst (pc := 25) (v := -1) dX6_winds_25 (by decide) ?_
      exact cm_iret (pc := 26) dX6_winds_26 rfl ⟨hi, rfl, by simp [*]⟩
    · refine cm_iload2 (pc := 11) dX6_winds_11 ?_
      refine cm_iconst (pc := 12) (v := 1) dX6_winds_12 (by decide) ?_
      refine cm_icmp_lt (pc := 13) (tgt := 25) dX6_winds_13 (by decide) (fun c13 => ?_) (fun c13 => ?_)
      · refine cm_iconst (pc := 25) (v := -1) dX6_winds_25 (by decide) ?_
        exact cm_iret (pc := 26) dX6_winds_26 rfl ⟨hi, rfl, by simp [*]⟩
      · refine cm_iload2 (pc := 16) dX6_winds_16 ?_
        refine cm_i2l (pc := 17) dX6_winds_17 ?_
        refine cm_ldc2 (pc := 18) dX6_winds_18 ctX6_279 ?_
        refine cm_lcmp (pc := 21) dX6_winds_21 ?_
        refine cm_if_lt (pc := 22) (tgt := 27) dX6_winds_22 (by decide) (fun c22 => ?_) (fun c22 => ?_)
        · refine cm_aload0 (pc := 27) dX6_winds_27 ?_
          refine cm_getR (pc := 28) flX6_21 dX6_winds_28 hX.ox hX.r2 ?_
          refine cm_getI (pc := 31) flX6_136 dX6_winds_31 hX.mp.1 ?_
          refine cm_if_ne (pc := 34) (tgt := 40) dX6_winds_34 (by decide) (fun c34 => ?_) (fun c34 => ?_)
          · have c2z := Int32.not_lt.mp c2
            rw [Int32.le_iff_toInt_le] at c2z
            have c8z := Int32.not_lt.mp c8
            rw [Int32.le_iff_toInt_le] at c8z
            have e1 : (1 : Int32).toInt = 1 := by decide
            have e60 : (60 : Int32).toInt = 60 := by decide
            rw [e1] at c2z
            rw [e60] at c8z
            have hn9 : n = nI n.toNatClampNeg := z_of (by omega)
            have hn8 : n.toNatClampNeg < 2147483648 := by show n.toInt.toNat < _; omega
            obtain ⟨q9, hq9, rfl⟩ : ∃ q9, q9 < 2147483648 ∧ n = nI q9 := ⟨n.toNatClampNeg, hn8, hn9⟩
            have hqc : (nI q9).toNatClampNeg = q9 := nI_clamp (by omega)
            refine cm_aload0 (pc := 40) dX6_winds_40 ?_
            refine cm_getR (pc := 41) flX6_46 dX6_winds_41 hX.ox hX.r6 ?_
            refine cm_aload0 (pc := 44) dX6_winds_44 ?_
            refine cm_getR (pc := 45) flX6_21 dX6_winds_45 hX.ox hX.r2 ?_
            refine cm_iload1 (pc := 48) dX6_winds_48 ?_
            refine cm_iload2 (pc := 49) dX6_winds_49 ?_
            refine cm_V3 (pc := 50) mX0_salesInWinds_v mlX6_281 dX6_winds_50 hX.of (by omega) (Nat.le_of_ble_eq_true rfl) (Nat.le_refl _) (Nat.le_refl _) (k_salesInWinds (d := d) hX h hq9) (fun r50 h50 hq50 => ?_)
            obtain ⟨H50, g, rfl, mg, F50, rfl, R50⟩ := hq50
            refine cm_istore3 (pc := 53) dX6_winds_53 (by decide) rfl ?_
            refine cm_aload0 (pc := 54) dX6_winds_54 ?_
            refine cm_aload0 (pc := 55) dX6_winds_55 ?_
            refine cm_getR (pc := 56) flX6_46 dX6_winds_56 hX.ox hX.r6 ?_
            refine cm_getI (pc := 59) flX6_217 dX6_winds_59 hX.of ?_
            refine cm_putI (pc := 62) fpX6_201 dX6_winds_62 hX.ox ?_
            refine cm_memG (fun G62 e62 f62 => ?_)
            refine cm_iload3 (pc := 65) dX6_winds_65 ?_
            exact cm_iret (pc := 66) dX6_winds_66 rfl ⟨G62, rfl, by rw [if_neg (fun w => w.elim c2 (fun w => w.elim c8 (fun w => w.elim c13 (fun w => w c22)))), if_neg c34, hqc]; exact ⟨g, mg, (told_fr F50 e62 f62).1, by trivial, by rw [(told_fr F50 e62 f62).2, R50]⟩⟩
          · refine cm_bipush (pc := 37) (v := -4) dX6_winds_37 (by decide) ?_
            exact cm_iret (pc := 39) dX6_winds_39 rfl ⟨hi, rfl, by simp [*]⟩
        · refine cm_iconst (pc := 25) (v := -1) dX6_winds_25 (by decide) ?_
          exact cm_iret (pc := 26) dX6_winds_26 rfl ⟨hi, rfl, by simp [*]⟩
def cUnl (hi : cm_g2) (s : Nat) : Nat → Nat → Bool
  | 0, _ => false
  | q + 1, k => if hi (s + 1) k = -9 then cUnl hi s q (k + 1) else if isW (hi (s + 1) k) 20 then cUnl hi s q (k + 1) else true
def cRT (hi : cm_g2) (nb : Nat) (set : Int32) (s : Nat) : Int32 × cm_g2 := if hi 5 3 = 0 then (-4, hi) else if bitC set ≤ 5 then (if hi s 1 = -1 then (-3, kRef hi 1) else if hi s 1 = hi 5 3 then (if cUnl hi s nb 0 then (-3, kRef hi 3) else (0, hi)) else (-3, kRef hi 5)) else (-6, hi)
theorem cRT_0 {hi : cm_g2} {nb s : Nat} {set : Int32} : (cRT hi nb set s).1 = 0 → (cRT hi nb set s).2 = hi ∧ hi s 1 = hi 5 3 := by
  unfold cRT
  by_cases h1 : hi 5 3 = 0
  · rw [if_pos h1]; intro w; exact absurd (show (-4 : Int32) = 0 from w) (by decide)
  · rw [if_neg h1]
    by_cases h2 : bitC set ≤ 5
    · rw [if_pos h2]
      by_cases h3 : hi s 1 = -1
      · rw [if_pos h3]; intro w; exact absurd (show (-3 : Int32) = 0 from w) (by decide)
      · rw [if_neg h3]
        by_cases h4 : hi s 1 = hi 5 3
        · rw [if_pos h4]
          cases cUnl hi s nb 0
          · intro _; exact ⟨rfl, h4⟩
          · intro w; exact absurd (show (-3 : Int32) = 0 from w) (by decide)
        · rw [if_neg h4]; intro w; exact absurd (show (-3 : Int32) = 0 from w) (by decide)
    · rw [if_neg h2]; intro w; exact absurd (show (-6 : Int32) = 0 from w) (by decide)
set_option maxRecDepth 20000 in
theorem l_unl (hX : cm_cls sh hr) {set : Int32} {s : Nat} {Z : Bool} (hS : cm_str sh hr s 40) (hz : hi s 1 = nI nb) (hb : hi 5 3 = nI nb) (hnb : nb ≤ 6) : ∀ q k : Nat, k + q = nb → Z = cUnl hi s q k → cm_g D mX6_refuseTrack (d + 3) 0 0 (fun r9 h9 => r9 = some (.int (if Z then -3 else 0)) ∧ h9 = (sh, if Z then kRef hi 3 else hi, hl, hr)) 0 0 59 [some (.ref 2), some (.int set), some (.ref s), some (.int (nI k))] [] (sh, hi, hl, hr) := by
  intro q
  induction q with
  | zero =>
    intro k hk hZ
    have h1 : k = nb := by omega
    subst h1
    refine cm_iload3 (pc := 59) dX6_refuseTrack_59 ?_
    refine cm_aload0 (pc := 60) dX6_refuseTrack_60 ?_
    refine cm_getR (pc := 61) flX6_21 dX6_refuseTrack_61 hX.ox hX.r2 ?_
    refine cm_getI (pc := 64) flX6_136 dX6_refuseTrack_64 hX.mp.1 ?_
    rw [hb]
    refine cm_geN (pc := 67) (tgt := 105) dX6_refuseTrack_67 (by decide) (by omega) (by omega) (fun c67 => ?_) (fun c67 => ?_)
    · refine cm_iconst (pc := 105) (v := 0) dX6_refuseTrack_105 (by decide) ?_
      exact cm_iret (pc := 106) dX6_refuseTrack_106 rfl ⟨by rw [hZ]; rfl, by rw [hZ]; rfl⟩
    · exact absurd c67 (by omega)
  | succ q ih =>
    intro k hk hZ
    have hst := ih (k + 1) (by omega)
    refine cm_iload3 (pc := 59) dX6_refuseTrack_59 ?_
    refine cm_aload0 (pc := 60) dX6_refuseTrack_60 ?_
    refine cm_getR (pc := 61) flX6_21 dX6_refuseTrack_61 hX.ox hX.r2 ?_
    refine cm_getI (pc := 64) flX6_136 dX6_refuseTrack_64 hX.mp.1 ?_
    rw [hb]
    refine cm_geN (pc := 67) (tgt := 105) dX6_refuseTrack_67 (by decide) (by omega) (by omega) (fun c67 => ?_) (fun c67 => ?_)
    · exact absurd c67 (by omega)
    · refine cm_aload2 (pc := 70) dX6_refuseTrack_70 ?_
      refine cm_iload3 (pc := 71) dX6_refuseTrack_71 ?_
      refine cm_V1 (pc := 72) mX4_get_v mlX6_87 dX6_refuseTrack_72 hS.1 (by omega) (Nat.le_of_ble_eq_true rfl) (Nat.le_refl _) (Nat.le_refl _) (cm_ct_us s (k_get (d := d) hS (by decide) (show (hi s 1).toInt ≤ _ by rw [hz, nI_toInt (by omega)]; omega))) (fun r72 h72 hq72 => ?_)
      obtain ⟨rfl, rfl⟩ := hq72
      rw [cm_us_sf, show stGet (cm_sf hi s) (nI k) = hi (s + 1) k by
        unfold stGet
        rw [if_pos (by rw [show cm_sf hi s 0 1 = nI nb from hz]; exact isW_nn (by omega) (by omega)), nI_clamp (by omega)]
        rfl]
      refine cm_bipush (pc := 75) (v := -9) dX6_refuseTrack_75 (by decide) ?_
      refine cm_icmp_eq (pc := 77) (tgt := 99) dX6_refuseTrack_77 (by decide) (fun c77 => ?_) (fun c77 => ?_)
      · refine cm_incN3 (pc := 99) dX6_refuseTrack_99 (by decide) rfl ?_
        refine cm_goto (pc := 102) (tgt := 59) dX6_refuseTrack_102 (by decide) ?_
        exact hst (by rw [hZ]; simp [cUnl, *])
      · refine cm_aload2 (pc := 80) dX6_refuseTrack_80 ?_
        refine cm_iload3 (pc := 81) dX6_refuseTrack_81 ?_
        refine cm_V1 (pc := 82) mX4_get_v mlX6_87 dX6_refuseTrack_82 hS.1 (by omega) (Nat.le_of_ble_eq_true rfl) (Nat.le_refl _) (Nat.le_refl _) (cm_ct_us s (k_get (d := d) hS (by decide) (show (hi s 1).toInt ≤ _ by rw [hz, nI_toInt (by omega)]; omega))) (fun r82 h82 hq82 => ?_)
        obtain ⟨rfl, rfl⟩ := hq82
        rw [cm_us_sf, show stGet (cm_sf hi s) (nI k) = hi (s + 1) k by
          unfold stGet
          rw [if_pos (by rw [show cm_sf hi s 0 1 = nI nb from hz]; exact isW_nn (by omega) (by omega)), nI_clamp (by omega)]
          rfl]
        refine cm_bipush (pc := 85) (v := 20) dX6_refuseTrack_85 (by decide) ?_
        refine cm_S2 (pc := 87) mX6_isWithin_s mlX6_64 dX6_refuseTrack_87 (by omega) (Nat.le_of_ble_eq_true rfl) (Nat.le_refl _) (Nat.le_refl _) (k_isWithin (d := d + 2) ) (fun r87 h87 hq87 => ?_)
        obtain ⟨rfl, rfl⟩ := hq87
        refine cm_ifneB (pc := 90) (tgt := 99) dX6_refuseTrack_90 (by decide) (fun c90 => ?_) (fun c90 => ?_)
        · refine cm_incN3 (pc := 99) dX6_refuseTrack_99 (by decide) rfl ?_
          refine cm_goto (pc := 102) (tgt := 59) dX6_refuseTrack_102 (by decide) ?_
          exact hst (by rw [hZ]; simp [cUnl, *])
        · refine cm_aload0 (pc := 93) dX6_refuseTrack_93 ?_
          refine cm_iconst (pc := 94) (v := 3) dX6_refuseTrack_94 (by decide) ?_
          refine cm_V1 (pc := 95) mX6_refuse_v mlX6_68 dX6_refuseTrack_95 hX.ox (by omega) (Nat.le_of_ble_eq_true rfl) (Nat.le_refl _) (Nat.le_refl _) (k_refuse (d := d + 2) hX (f := 3) (by decide)) (fun r95 h95 hq95 => ?_)
          obtain ⟨rfl, rfl⟩ := hq95
          exact cm_iret (pc := 98) dX6_refuseTrack_98 rfl ⟨by rw [hZ, show cUnl hi s (q + 1) k = true by simp [cUnl, *]]; rfl, by rw [hZ, show cUnl hi s (q + 1) k = true by simp [cUnl, *]]; rfl⟩
set_option maxRecDepth 20000 in
theorem k_refuseTrack (hX : cm_cls sh hr) {set : Int32} {s : Nat} (h : mOk (cm_sf hi 5) nb ns) (hS : cm_str sh hr s 40) (hzs : cSz hi s 40) : cm_ct D mX6_refuseTrack (d + 3) 0 0 [.ref 2, .int set, .ref s] (sh, hi, hl, hr) (fun r9 h9 => r9 = some (.int (cRT hi nb set s).1) ∧ h9 = (sh, (cRT hi nb set s).2, hl, hr)) := by
  have hnb := h.1.2.1
  have hns := h.1.2.2.2
  refine cm_ct_of (ls := [some (.ref 2), some (.int set), some (.ref s), none]) 1 (by decide +kernel) rfl rfl ?_
  refine cm_aload0 (pc := 0) dX6_refuseTrack_0 ?_
  refine cm_getR (pc := 1) flX6_21 dX6_refuseTrack_1 hX.ox hX.r2 ?_
  refine cm_getI (pc := 4) flX6_136 dX6_refuseTrack_4 hX.mp.1 ?_
  refine cm_if_ne (pc := 7) (tgt := 13) dX6_refuseTrack_7 (by decide) (fun c7 => ?_) (fun c7 => ?_)
  · refine cm_iload1 (pc := 13) dX6_refuseTrack_13 ?_
    refine cm_S1 (pc := 14) mJ6_bitCount_0f7a4_s mlX6_244 dX6_refuseTrack_14 (by omega) (Nat.le_of_ble_eq_true rfl) (Nat.le_refl _) (Nat.le_refl _) (k_bitCount (d := d + 2)) (fun r14 h14 hq14 => ?_)
    obtain ⟨rfl, rfl⟩ := hq14
    refine cm_iconst (pc := 17) (v := 5) dX6_refuseTrack_17 (by decide) ?_
    refine cm_icmp_le (pc := 18) (tgt := 24) dX6_refuseTrack_18 (by decide) (fun c18 => ?_) (fun c18 => ?_)
    · refine cm_aload2 (pc := 24) dX6_refuseTrack_24 ?_
      refine cm_V0 (pc := 25) mX4_isThere_v mlX6_90 dX6_refuseTrack_25 hS.1 (by omega) (Nat.le_of_ble_eq_true rfl) (Nat.le_refl _) (Nat.le_refl _) (k_isThere (d := d + 2) hS) (fun r25 h25 hq25 => ?_)
      obtain ⟨rfl, rfl⟩ := hq25
      refine cm_ifneB (pc := 28) (tgt := 37) dX6_refuseTrack_28 (by decide) (fun c28 => ?_) (fun c28 => ?_)
      · have q1 : ¬ hi s 1 = -1 := by simpa using c28
        refine cm_aload2 (pc := 37) dX6_refuseTrack_37 ?_
        refine cm_V0 (pc := 38) mX4_size_v mlX6_104 dX6_refuseTrack_38 hS.1 (by omega) (Nat.le_of_ble_eq_true rfl) (Nat.le_refl _) (Nat.le_refl _) (k_size (d := d + 2) hS) (fun r38 h38 hq38 => ?_)
        obtain ⟨rfl, rfl⟩ := hq38
        refine cm_aload0 (pc := 41) dX6_refuseTrack_41 ?_
        refine cm_getR (pc := 42) flX6_21 dX6_refuseTrack_42 hX.ox hX.r2 ?_
        refine cm_getI (pc := 45) flX6_136 dX6_refuseTrack_45 hX.mp.1 ?_
        refine cm_icmp_eq (pc := 48) (tgt := 57) dX6_refuseTrack_48 (by decide) (fun c48 => ?_) (fun c48 => ?_)
        · refine cm_iconst (pc := 57) (v := 0) dX6_refuseTrack_57 (by decide) ?_
          refine cm_istore3 (pc := 58) dX6_refuseTrack_58 (by decide) rfl ?_
          have hz : hi s 1 = nI nb := c48.trans h.1.1
          refine cm_g_imp (fun r9 h9 q => ?_) (l_unl hX (D := D) (set := set) hS hz h.1.1 hnb nb 0 (by omega) rfl)
          obtain ⟨q2, q3⟩ := q
          have hsp : cRT hi nb set s = (if cUnl hi s nb 0 then (-3, kRef hi 3) else (0, hi)) := by
            unfold cRT
            rw [if_neg c7, if_pos c18, if_neg q1, if_pos c48]
          rw [hsp, q2, q3]
          cases cUnl hi s nb 0 <;> exact ⟨rfl, rfl⟩
        · refine cm_aload0 (pc := 51) dX6_refuseTrack_51 ?_
          refine cm_iconst (pc := 52) (v := 5) dX6_refuseTrack_52 (by decide) ?_
          refine cm_V1 (pc := 53) mX6_refuse_v mlX6_68 dX6_refuseTrack_53 hX.ox (by omega) (Nat.le_of_ble_eq_true rfl) (Nat.le_refl _) (Nat.le_refl _) (k_refuse (d := d + 2) hX (f := 5) (by decide)) (fun r53 h53 hq53 => ?_)
          obtain ⟨rfl, rfl⟩ := hq53
          exact cm_iret (pc := 56) dX6_refuseTrack_56 rfl ⟨by simp [cRT, *], by simp [cRT, *]⟩
      · have q1 : hi s 1 = -1 := by simpa using c28
        refine cm_aload0 (pc := 31) dX6_refuseTrack_31 ?_
        refine cm_iconst (pc := 32) (v := 1) dX6_refuseTrack_32 (by decide) ?_
        refine cm_V1 (pc := 33) mX6_refuse_v mlX6_68 dX6_refuseTrack_33 hX.ox (by omega) (Nat.le_of_ble_eq_true rfl) (Nat.le_refl _) (Nat.le_refl _) (k_refuse (d := d + 2) hX (f := 1) (by decide)) (fun r33 h33 hq33 => ?_)
        obtain ⟨rfl, rfl⟩ := hq33
        exact cm_iret (pc := 36) dX6_refuseTrack_36 rfl ⟨by simp [cRT, *], by simp [cRT, *]⟩
    · refine cm_bipush (pc := 21) (v := -6) dX6_refuseTrack_21 (by decide) ?_
      exact cm_iret (pc := 23) dX6_refuseTrack_23 rfl ⟨by simp [cRT, *], by simp [cRT, *]⟩
  · refine cm_bipush (pc := 10) (v := -4) dX6_refuseTrack_10 (by decide) ?_
    exact cm_iret (pc := 12) dX6_refuseTrack_12 rfl ⟨by simp [cRT, *], by simp [cRT, *]⟩
theorem pw_sh : ∀ n, n ≤ 6 → (1 : Int32) <<< (nI n &&& 31) = nI (2 ^ n) := by decide +kernel
set_option maxRecDepth 20000 in
theorem k_isSetOfBuyers (hX : cm_cls sh hr) {set : Int32} (h : mOk (cm_sf hi 5) nb ns) : cm_ct D mX6_isSetOfBuyers (d + 1) 0 0 [.ref 2, .int set] (sh, hi, hl, hr) (fun r9 h9 => r9 = some (.int (cm_bi (isW set (nI (2 ^ nb))))) ∧ h9 = (sh, hi, hl, hr)) := by
  have hnb := h.1.2.1
  have hns := h.1.2.2.2
  refine cm_ct_of (ls := [some (.ref 2), some (.int set)]) 0 (by decide +kernel) rfl rfl ?_
  refine cm_iload1 (pc := 0) dX6_isSetOfBuyers_0 ?_
  refine cm_iconst (pc := 1) (v := 1) dX6_isSetOfBuyers_1 (by decide) ?_
  refine cm_aload0 (pc := 2) dX6_isSetOfBuyers_2 ?_
  refine cm_getR (pc := 3) flX6_21 dX6_isSetOfBuyers_3 hX.ox hX.r2 ?_
  refine cm_getI (pc := 6) flX6_136 dX6_isSetOfBuyers_6 hX.mp.1 ?_
  refine cm_top_eq h.1.1 ?_
  refine cm_ishl (pc := 9) dX6_isSetOfBuyers_9 ?_
  rw [show (1 : Int32) <<< (nI nb &&& 31) = nI (2 ^ nb) from pw_sh nb hnb]
  refine cm_S2 (pc := 10) mX6_isWithin_s mlX6_64 dX6_isSetOfBuyers_10 (by omega) (Nat.le_of_ble_eq_true rfl) (Nat.le_refl _) (Nat.le_refl _) (k_isWithin (d := d) ) (fun r10 h10 hq10 => ?_)
  obtain ⟨rfl, rfl⟩ := hq10
  exact cm_zret (pc := 13) dX6_isSetOfBuyers_13 rfl (cm_nb _) ⟨rfl, rfl⟩
set_option maxRecDepth 20000 in
theorem k_fits (hX : cm_cls sh hr) {set n r : Int32} (h : mOk (cm_sf hi 5) nb ns) (hI : cInv hi) : cm_ct D mX6_fits (d + 8) 0 0 [.ref 2, .int set, .int n, .int r] (sh, hi, hl, hr) (fun r9 h9 => ∃ H, h9 = (sh, H, hl, hr) ∧ (if isW set (nI (2 ^ nb)) = false ∨ isU n 20 = false ∨ isW r 6 = false then r9 = some (.int (-1)) ∧ H = hi else if (cRT hi nb set (sR r)).1 = 0 then ∃ F, (∀ c, c ≠ 2 → c < 47 ∨ 59 < c → H c = hi c) ∧ (∀ w, w < tW (sbOf set) 6 → skVal (cP hi) nb ns n.toNatClampNeg (sbOf set) (hi (sR r + 1)) w (F w)) ∧  r9 = some (.int (nI (skFold (sbOf set) F (tW (sbOf set) 6)).1)) ∧ H 2 = cUps hi (skFold (sbOf set) F (tW (sbOf set) 6)).2.1 else r9 = some (.int (cRT hi nb set (sR r)).1) ∧ H = (cRT hi nb set (sR r)).2)) := by
  have hnb := h.1.2.1
  have hns := h.1.2.2.2
  refine cm_ct_of (ls := [some (.ref 2), some (.int set), some (.int n), some (.int r), none]) 1 (by decide +kernel) rfl rfl ?_
  refine cm_aload0 (pc := 0) dX6_fits_0 ?_
  refine cm_iload1 (pc := 1) dX6_fits_1 ?_
  refine cm_V1 (pc := 2) mX6_isSetOfBuyers_v mlX6_257 dX6_fits_2 hX.ox (by omega) (Nat.le_of_ble_eq_true rfl) (Nat.le_refl _) (Nat.le_refl _) (k_isSetOfBuyers (d := d + 6) hX h) (fun r2 h2 hq2 => ?_)
  obtain ⟨rfl, rfl⟩ := hq2
  refine cm_ifeqB (pc := 5) (tgt := 26) dX6_fits_5 (by decide) (fun c5 => ?_) (fun c5 => ?_)
  · refine cm_iconst (pc := 26) (v := -1) dX6_fits_26 (by decide) ?_
    exact cm_iret (pc := 27) dX6_fits_27 rfl ⟨hi, rfl, by simp [*]⟩
  · refine cm_iload2 (pc := 8) dX6_fits_8 ?_
    refine cm_bipush (pc := 9) (v := 20) dX6_fits_9 (by decide) ?_
    refine cm_S2 (pc := 11) mX6_isUpTo_s mlX6_179 dX6_fits_11 (by omega) (Nat.le_of_ble_eq_true rfl) (Nat.le_refl _) (Nat.le_refl _) (k_isUpTo (d := d + 7) ) (fun r11 h11 hq11 => ?_)
    obtain ⟨rfl, rfl⟩ := hq11
    refine cm_ifeqB (pc := 14) (tgt := 26) dX6_fits_14 (by decide) (fun c14 => ?_) (fun c14 => ?_)
    · refine cm_iconst (pc := 26) (v := -1) dX6_fits_26 (by decide) ?_
      exact cm_iret (pc := 27) dX6_fits_27 rfl ⟨hi, rfl, by simp [*]⟩
    · obtain ⟨m, hm, rfl⟩ := isU_ex 20 c14
      have hmc : (nI m).toNatClampNeg = m := nI_clamp (by omega)
      refine cm_iload3 (pc := 17) dX6_fits_17 ?_
      refine cm_bipush (pc := 18) (v := 6) dX6_fits_18 (by decide) ?_
      refine cm_S2 (pc := 20) mX6_isWithin_s mlX6_64 dX6_fits_20 (by omega) (Nat.le_of_ble_eq_true rfl) (Nat.le_refl _) (Nat.le_refl _) (k_isWithin (d := d + 7) ) (fun r20 h20 hq20 => ?_)
      obtain ⟨rfl, rfl⟩ := hq20
      refine cm_ifneB (pc := 23) (tgt := 28) dX6_fits_23 (by decide) (fun c23 => ?_) (fun c23 => ?_)
      · obtain ⟨j, hj, rfl⟩ := isW_ex 6 c23
        have hjc : (nI j).toNatClampNeg = j := nI_clamp (by omega)
        have hS := (hX.row j hj).2
        refine cm_aload0 (pc := 28) dX6_fits_28 ?_
        refine cm_iload1 (pc := 29) dX6_fits_29 ?_
        refine cm_aload0 (pc := 30) dX6_fits_30 ?_
        refine cm_getR (pc := 31) flX6_11 dX6_fits_31 hX.ox hX.r0 ?_
        refine cm_iload3 (pc := 34) dX6_fits_34 ?_
        refine cm_aal2 (pc := 35) dX6_fits_35 hX.a3 (by omega) (by decide) (hX.row j hj).1 ?_
        refine cm_V2 (pc := 36) mX6_refuseTrack_v mlX6_260 dX6_fits_36 hX.ox (by omega) (Nat.le_of_ble_eq_true rfl) (Nat.le_refl _) (Nat.le_refl _) (k_refuseTrack (d := d + 4) hX h hS (hI.1 j hj)) (fun r36 h36 hq36 => ?_)
        obtain ⟨rfl, rfl⟩ := hq36
        have hr2 : (cRT hi nb set (61 + 2 * j)).1 = 0 → (cRT hi nb set (61 + 2 * j)).2 = hi ∧ hi (61 + 2 * j) 1 = nI nb := fun w => ⟨(cRT_0 w).1, (cRT_0 w).2.trans h.1.1⟩
        refine cm_istore4 (pc := 39) dX6_fits_39 (by decide) rfl ?_
        refine cm_iload4 (pc := 41) dX6_fits_41 ?_
        refine cm_if_eq (pc := 43) (tgt := 49) dX6_fits_43 (by decide) (fun c43 => ?_) (fun c43 => ?_)
        · have c0 : (cRT hi nb set (61 + 2 * j)).1 = 0 := c43
          rw [(hr2 c0).1]
          refine cm_aload0 (pc := 49) dX6_fits_49 ?_
          refine cm_getR (pc := 50) flX6_53 dX6_fits_50 hX.ox hX.r7 ?_
          refine cm_aload0 (pc := 53) dX6_fits_53 ?_
          refine cm_getR (pc := 54) flX6_21 dX6_fits_54 hX.ox hX.r2 ?_
          refine cm_iload1 (pc := 57) dX6_fits_57 ?_
          refine cm_iload2 (pc := 58) dX6_fits_58 ?_
          refine cm_aload0 (pc := 59) dX6_fits_59 ?_
          refine cm_getR (pc := 60) flX6_11 dX6_fits_60 hX.ox hX.r0 ?_
          refine cm_iload3 (pc := 63) dX6_fits_63 ?_
          refine cm_aal2 (pc := 64) dX6_fits_64 hX.a3 (by omega) (by decide) (hX.row j hj).1 ?_
          refine cm_V4 (pc := 65) mX5_seek_v mlX6_264 dX6_fits_65 hX.ot (by omega) (Nat.le_of_ble_eq_true rfl) (Nat.le_refl _) (Nat.le_refl _) (k_seek (d := d) (set := set) hX h (show m < 2147483648 by omega) hS (by omega) (hr2 c0).2) (fun r65 h65 hq65 => ?_)
          obtain ⟨rfl, H65, F, rfl, F65, V65, A65, B65, C65⟩ := hq65
          refine cm_aload0 (pc := 68) dX6_fits_68 ?_
          refine cm_aload0 (pc := 69) dX6_fits_69 ?_
          refine cm_getR (pc := 70) flX6_53 dX6_fits_70 hX.ox hX.r7 ?_
          refine cm_getI (pc := 73) flX6_268 dX6_fits_73 hX.ot ?_
          refine cm_putI (pc := 76) fpX6_201 dX6_fits_76 hX.ox ?_
          refine cm_memG (fun G76 e76 f76 => ?_)
          refine cm_aload0 (pc := 79) dX6_fits_79 ?_
          refine cm_getR (pc := 80) flX6_53 dX6_fits_80 hX.ox hX.r7 ?_
          refine cm_getI (pc := 83) flX6_270 dX6_fits_83 hX.ot ?_
          rw [show G76 47 2 = H65 47 2 by rw [e76 47 (by decide)], A65]
          exact cm_iret (pc := 86) dX6_fits_86 rfl ⟨G76, rfl, by rw [if_neg (by rw [c5, c14, c23]; decide)]; simp only [sR, hjc, hmc]; rw [if_pos c0]; exact ⟨F, fun c h1 h2 => by rw [e76 c h1, F65 c h2], V65, by trivial, by rw [f76, F65 2 (by decide), B65]; rfl⟩⟩
        · refine cm_iload4 (pc := 46) dX6_fits_46 ?_
          exact cm_iret (pc := 48) dX6_fits_48 rfl ⟨_, rfl, by rw [if_neg (by rw [c5, c14, c23]; decide)]; simp only [sR, hjc]; rw [if_neg c43]; refine ⟨?_, ?_⟩ <;> trivial⟩
      · refine cm_iconst (pc := 26) (v := -1) dX6_fits_26 (by decide) ?_
        exact cm_iret (pc := 27) dX6_fits_27 rfl ⟨hi, rfl, by simp [*]⟩
set_option maxRecDepth 20000 in
theorem k_could (hX : cm_cls sh hr) {set n r i : Int32} (h : mOk (cm_sf hi 5) nb ns) (hI : cInv hi) : cm_ct D mX6_could (d + 8) 0 0 [.ref 2, .int set, .int n, .int r, .int i] (sh, hi, hl, hr) (fun r9 h9 => ∃ H, h9 = (sh, H, hl, hr) ∧ (if (isW set (nI (2 ^ nb)) = false ∨ isU n 20 = false ∨ isW r 6 = false) ∨ isW i 6 = false ∨ isI set i = false then r9 = some (.int (-1)) ∧ H = hi else if (cRT hi nb set (sR r)).1 = 0 then ∃ F, (∀ c, c ≠ 2 → c < 47 ∨ 59 < c → H c = hi c) ∧ (∀ w, w < tW (sbOf set) 6 → skVal (cP hi) nb ns n.toNatClampNeg (sbOf set) (hi (sR r + 1)) w (F w)) ∧  r9 = some (.int ((skFold (sbOf set) F (tW (sbOf set) 6)).2.2 i.toNatClampNeg)) ∧ H 2 = hi 2 else r9 = some (.int (cRT hi nb set (sR r)).1) ∧ H = (cRT hi nb set (sR r)).2)) := by
  have hnb := h.1.2.1
  have hns := h.1.2.2.2
  refine cm_ct_of (ls := [some (.ref 2), some (.int set), some (.int n), some (.int r), some (.int i), none]) 1 (by decide +kernel) rfl rfl ?_
  refine cm_aload0 (pc := 0) dX6_could_0 ?_
  refine cm_iload1 (pc := 1) dX6_could_1 ?_
  refine cm_V1 (pc := 2) mX6_isSetOfBuyers_v mlX6_257 dX6_could_2 hX.ox (by omega) (Nat.le_of_ble_eq_true rfl) (Nat.le_refl _) (Nat.le_refl _) (k_isSetOfBuyers (d := d + 6) hX h) (fun r2 h2 hq2 => ?_)
  obtain ⟨rfl, rfl⟩ := hq2
  refine cm_ifeqB (pc := 5) (tgt := 26) dX6_could_5 (by decide) (fun c5 => ?_) (fun c5 => ?_)
  · refine cm_iconst (pc := 26) (v := -1) dX6_could_26 (by decide) ?_
    exact cm_iret (pc := 27) dX6_could_27 rfl ⟨hi, rfl, by simp [*]⟩
  · refine cm_iload2 (pc := 8) dX6_could_8 ?_
    refine cm_bipush (pc := 9) (v := 20) dX6_could_9 (by decide) ?_
    refine cm_S2 (pc := 11) mX6_isUpTo_s mlX6_179 dX6_could_11 (by omega) (Nat.le_of_ble_eq_true rfl) (Nat.le_refl _) (Nat.le_refl _) (k_isUpTo (d := d + 7) ) (fun r11 h11 hq11 => ?_)
    obtain ⟨rfl, rfl⟩ := hq11
    refine cm_ifeqB (pc := 14) (tgt := 26) dX6_could_14 (by decide) (fun c14 => ?_) (fun c14 => ?_)
    · refine cm_iconst (pc := 26) (v := -1) dX6_could_26 (by decide) ?_
      exact cm_iret (pc := 27) dX6_could_27 rfl ⟨hi, rfl, by simp [*]⟩
    · obtain ⟨m, hm, rfl⟩ := isU_ex 20 c14
      have hmc : (nI m).toNatClampNeg = m := nI_clamp (by omega)
      refine cm_iload3 (pc := 17) dX6_could_17 ?_
      refine cm_bipush (pc := 18) (v := 6) dX6_could_18 (by decide) ?_
      refine cm_S2 (pc := 20) mX6_isWithin_s mlX6_64 dX6_could_20 (by omega) (Nat.le_of_ble_eq_true rfl) (Nat.le_refl _) (Nat.le_refl _) (k_isWithin (d := d + 7) ) (fun r20 h20 hq20 => ?_)
      obtain ⟨rfl, rfl⟩ := hq20
      refine cm_ifneB (pc := 23) (tgt := 28) dX6_could_23 (by decide) (fun c23 => ?_) (fun c23 => ?_)
      · obtain ⟨j, hj, rfl⟩ := isW_ex 6 c23
        have hjc : (nI j).toNatClampNeg = j := nI_clamp (by omega)
        have hS := (hX.row j hj).2
        refine cm_iload4 (pc := 28) dX6_could_28 ?_
        refine cm_bipush (pc := 30) (v := 6) dX6_could_30 (by decide) ?_
        refine cm_S2 (pc := 32) mX6_isWithin_s mlX6_64 dX6_could_32 (by omega) (Nat.le_of_ble_eq_true rfl) (Nat.le_refl _) (Nat.le_refl _) (k_isWithin (d := d + 7) ) (fun r32 h32 hq32 => ?_)
        obtain ⟨rfl, rfl⟩ := hq32
        refine cm_ifeqB (pc := 35) (tgt := 47) dX6_could_35 (by decide) (fun c35 => ?_) (fun c35 => ?_)
        · refine cm_iconst (pc := 47) (v := -1) dX6_could_47 (by decide) ?_
          exact cm_iret (pc := 48) dX6_could_48 rfl ⟨hi, rfl, by simp [*]⟩
        · obtain ⟨x, hx, rfl⟩ := isW_ex 6 c35
          have hxc : (nI x).toNatClampNeg = x := nI_clamp (by omega)
          refine cm_iload1 (pc := 38) dX6_could_38 ?_
          refine cm_iload4 (pc := 39) dX6_could_39 ?_
          refine cm_S2 (pc := 41) mX6_isIn_s mlX6_273 dX6_could_41 (by omega) (Nat.le_of_ble_eq_true rfl) (Nat.le_refl _) (Nat.le_refl _) (k_isIn (d := d + 7) ) (fun r41 h41 hq41 => ?_)
          obtain ⟨rfl, rfl⟩ := hq41
          refine cm_ifneB (pc := 44) (tgt := 49) dX6_could_44 (by decide) (fun c44 => ?_) (fun c44 => ?_)
          · refine cm_aload0 (pc := 49) dX6_could_49 ?_
            refine cm_iload1 (pc := 50) dX6_could_50 ?_
            refine cm_aload0 (pc := 51) dX6_could_51 ?_
            refine cm_getR (pc := 52) flX6_11 dX6_could_52 hX.ox hX.r0 ?_
            refine cm_iload3 (pc := 55) dX6_could_55 ?_
            refine cm_aal2 (pc := 56) dX6_could_56 hX.a3 (by omega) (by decide) (hX.row j hj).1 ?_
            refine cm_V2 (pc := 57) mX6_refuseTrack_v mlX6_260 dX6_could_57 hX.ox (by omega) (Nat.le_of_ble_eq_true rfl) (Nat.le_refl _) (Nat.le_refl _) (k_refuseTrack (d := d + 4) hX h hS (hI.1 j hj)) (fun r57 h57 hq57 => ?_)
            obtain ⟨rfl, rfl⟩ := hq57
            have hr2 : (cRT hi nb set (61 + 2 * j)).1 = 0 → (cRT hi nb set (61 + 2 * j)).2 = hi ∧ hi (61 + 2 * j) 1 = nI nb := fun w => ⟨(cRT_0 w).1, (cRT_0 w).2.trans h.1.1⟩
            refine cm_istore5 (pc := 60) dX6_could_60 (by decide) rfl ?_
            refine cm_iload5 (pc := 62) dX6_could_62 ?_
            refine cm_if_eq (pc := 64) (tgt := 70) dX6_could_64 (by decide) (fun c64 => ?_) (fun c64 => ?_)
            · have c0 : (cRT hi nb set (61 + 2 * j)).1 = 0 := c64
              rw [(hr2 c0).1]
              refine cm_aload0 (pc := 70) dX6_could_70 ?_
              refine cm_getR (pc := 71) flX6_53 dX6_could_71 hX.ox hX.r7 ?_
              refine cm_aload0 (pc := 74) dX6_could_74 ?_
              refine cm_getR (pc := 75) flX6_21 dX6_could_75 hX.ox hX.r2 ?_
              refine cm_iload1 (pc := 78) dX6_could_78 ?_
              refine cm_iload2 (pc := 79) dX6_could_79 ?_
              refine cm_aload0 (pc := 80) dX6_could_80 ?_
              refine cm_getR (pc := 81) flX6_11 dX6_could_81 hX.ox hX.r0 ?_
              refine cm_iload3 (pc := 84) dX6_could_84 ?_
              refine cm_aal2 (pc := 85) dX6_could_85 hX.a3 (by omega) (by decide) (hX.row j hj).1 ?_
              refine cm_V4 (pc := 86) mX5_seek_v mlX6_264 dX6_could_86 hX.ot (by omega) (Nat.le_of_ble_eq_true rfl) (Nat.le_refl _) (Nat.le_refl _) (k_seek (d := d) (set := set) hX h (show m < 2147483648 by omega) hS (by omega) (hr2 c0).2) (fun r86 h86 hq86 => ?_)
              obtain ⟨rfl, H86, F, rfl, F86, V86, A86, B86, C86⟩ := hq86
              refine cm_aload0 (pc := 89) dX6_could_89 ?_
              refine cm_getR (pc := 90) flX6_53 dX6_could_90 hX.ox hX.r7 ?_
              refine cm_getR (pc := 93) flX6_276 dX6_could_93 hX.ot hX.rt1 ?_
              refine cm_iload4 (pc := 96) dX6_could_96 ?_
              refine cm_ialN (pc := 98) dX6_could_98 hX.a59 (by omega) (by decide) ?_
              rw [C86 x hx]
              exact cm_iret (pc := 99) dX6_could_99 rfl ⟨H86, rfl, by rw [if_neg (by rw [c5, c14, c23, c35, c44]; decide)]; simp only [sR, hjc, hmc, hxc]; rw [if_pos c0]; exact ⟨F, fun c _ h2 => F86 c h2, V86, by trivial, F86 2 (by decide)⟩⟩
            · refine cm_iload5 (pc := 67) dX6_could_67 ?_
              exact cm_iret (pc := 69) dX6_could_69 rfl ⟨_, rfl, by rw [if_neg (by rw [c5, c14, c23, c35, c44]; decide)]; simp only [sR, hjc]; rw [if_neg c64]; refine ⟨?_, ?_⟩ <;> trivial⟩
          · refine cm_iconst (pc := 47) (v := -1) dX6_could_47 (by decide) ?_
            exact cm_iret (pc := 48) dX6_could_48 rfl ⟨hi, rfl, by simp [*]⟩
      · refine cm_iconst (pc := 26) (v := -1) dX6_could_26 (by decide) ?_
        exact cm_iret (pc := 27) dX6_could_27 rfl ⟨hi, rfl, by simp [*]⟩
end C3
