/-! PART calls2: the class's calls: buyers, stalls, minutes -/
abbrev cP (hi : cm_g2) : cm_g2 := cm_sf hi 5
def cBuyer (hi : cm_g2) (i w : Int32) : Int32 × cm_g2 := if isW i (hi 5 3) = false ∨ isW w 4 = false then (-1, hi) else (1, kTell hi (cFB (cP hi) i.toNatClampNeg w))
def cStall (hi : cm_g2) (i w : Int32) : Int32 × cm_g2 := if isW i (hi 5 2) = false ∨ isW w 4 = false then (-1, hi) else (1, kTell hi (cFS (cP hi) i.toNatClampNeg w))
def cMarkV (P : cm_g2) (nb ns i : Nat) (kd : Int32) : Int32 := if kd = 1 then (if mCan P (mFirst P 1 i) (mLast P nb 1 nb i) 1 then cm_oi (mLast P nb 1 nb i) - cm_oi (mFirst P 1 i) else 0) else if kd = 2 then (if 0 < i ∧ i + 1 < nb then P 6 (i + 1) - P 6 (i - 1) else 0) else if kd = 3 then cFar P ns (P 6 i) 8 else if kd = 4 then sumP (fun x => cm_bi (!decide (P 0 0 < cAbs (P 1 x - P 6 i)))) ns else cFar P ns (P 6 i) (1 <<< (P 7 i &&& 31))
def cMark (hi : cm_g2) (nb ns : Nat) (i kd : Int32) : Int32 × cm_g2 := if isW i (hi 5 3) = false ∨ kd < 1 ∨ ¬ kd ≤ 5 then (-1, hi) else if mOf (cP hi) i.toNatClampNeg kd = true then (cMarkV (cP hi) nb ns i.toNatClampNeg kd, hi) else (-3, kRef hi 3)
def cWant (hi : cm_g2) (i gd : Int32) : Int32 × cm_g2 := if isW i (hi 5 3) = false ∨ isW gd 5 = false then (-1, hi) else (hi 12 i.toNatClampNeg, va_up hi 12 (upd (hi 12) i.toNatClampNeg gd))
def cPrice (hi : cm_g2) (k v : Int32) : Int32 × cm_g2 := if isW k (hi 5 2) = false ∨ v < 0 ∨ ¬ v ≤ 99 then (-1, hi) else (hi 8 k.toNatClampNeg, va_up hi 8 (upd (hi 8) k.toNatClampNeg v))
def cWish (hi : cm_g2) (i : Int32) : Int32 × cm_g2 := if isW i (hi 5 3) = false then (-1, hi) else (1, kTell hi (mWay (cP hi) i.toNatClampNeg))
def cSv (hi : cm_g2) (m : Nat) : cm_g2 := va_up hi 18 (fun x => if 24 * m ≤ x ∧ x < 24 * m + 24 then (if x < 24 * m + 6 then hi 11 (x - 24 * m) else if x < 24 * m + 12 then hi 12 (x - (24 * m + 6)) else if x < 24 * m + 18 then hi 13 (x - (24 * m + 12)) else hi 9 (x - (24 * m + 18))) else hi 18 x)
def cMins (hi : cm_g2) (nb ns m0 : Nat) : Nat → Nat × cm_g2
  | 0 => (0, hi)
  | k + 1 => ((cMins hi nb ns m0 k).1 + (mPass (cm_sf (cSv (cMins hi nb ns m0 k).2 (m0 + k)) 5) nb ns 0).2, cm_us (cSv (cMins hi nb ns m0 k).2 (m0 + k)) 5 (mPass (cm_sf (cSv (cMins hi nb ns m0 k).2 (m0 + k)) 5) nb ns 0).1)
def cMinutes (hi : cm_g2) (nb ns : Nat) (n : Int32) : Int32 × cm_g2 := if isU n 20 = false then (-1, hi) else if hi 5 3 = 0 then (-4, hi) else if hi 5 1 + n ≤ 60 then (nI (cMins hi nb ns (hi 5 1).toNatClampNeg n.toNatClampNeg).1, (cMins hi nb ns (hi 5 1).toNatClampNeg n.toNatClampNeg).2) else (-2, hi)
def cTurn (hi : cm_g2) (nb : Nat) (way : Int32) : Int32 × cm_g2 := if ¬ way = 0 ∧ ¬ way = 1 then (-1, hi) else if hi 5 3 = 0 then (-4, hi) else (cm_bi (cShift (cP hi) nb (if way = 0 then -1 else 1)), if cShift (cP hi) nb (if way = 0 then -1 else 1) then cm_us hi 5 (mMv (cP hi) 0 nb (if way = 0 then -1 else 1)) else hi)
def cShade (hi : cm_g2) (nb : Nat) : Int32 × cm_g2 := if hi 5 3 = 0 then (-4, hi) else (mLastSpot (cP hi) nb - hi 11 0 + 1, kTell hi (hi 11 0 + mSun (cP hi)))
theorem svOk.eq {hi H : cm_g2} {m : Nat} (h : svOk hi H 5 m) : H = cSv hi m := by
  funext c
  by_cases e : c = 18
  · subst e
    funext x
    rw [h.2 x]
    unfold cSv
    rw [va_up_self]
  · rw [h.1 c e]
    exact (va_up_ne _ _ e).symm
theorem cSv_c {hi : cm_g2} {m c : Nat} (h : c ≠ 18) : cSv hi m c = hi c := va_up_ne _ _ h
theorem cMins_ok {hi : cm_g2} {nb ns m0 : Nat} (h : mOk (cP hi) nb ns) (h1 : hi 5 1 = nI m0) : ∀ k, mOk (cP (cMins hi nb ns m0 k).2) nb ns ∧ (cMins hi nb ns m0 k).2 5 1 = nI (m0 + k)
  | 0 => ⟨h, h1⟩
  | k + 1 => by
    have ih := cMins_ok h h1 k
    have e : ∀ c, c ≤ 10 → cm_sf (cSv (cMins hi nb ns m0 k).2 (m0 + k)) 5 c = cP (cMins hi nb ns m0 k).2 c := fun c hc => cSv_c (by omega)
    have h9 : mOk (cm_sf (cSv (cMins hi nb ns m0 k).2 (m0 + k)) 5) nb ns := ih.1.congr ⟨fun j _ => by rw [e 0 (by decide)], fun c _ h9 i _ => by rw [e c (by omega)], fun i _ => by rw [e 10 (by decide)]⟩
    refine ⟨?_, ?_⟩
    · show mOk (cm_sf (cm_us _ 5 _) 5) nb ns
      rw [cm_sf_us]
      exact h9.pass
    · show cm_us (cSv (cMins hi nb ns m0 k).2 (m0 + k)) 5 (mPass (cm_sf (cSv (cMins hi nb ns m0 k).2 (m0 + k)) 5) nb ns 0).1 5 1 = _
      rw [cm_us_0, mPass_0]
      show cm_sf (cSv (cMins hi nb ns m0 k).2 (m0 + k)) 5 0 1 + 1 = _
      show cm_sf (cSv (cMins hi nb ns m0 k).2 (m0 + k)) 5 0 1 + 1 = _
      rw [e 0 (by decide)]
      show (cMins hi nb ns m0 k).2 5 1 + 1 = _
      rw [ih.2, nI_1]
      rfl
section C2
variable {D : cm_D} {d : Nat} {sh : List cm_Sh} {hi : cm_g2} {hl : Nat → Nat → Int64} {hr : Nat → Nat → Option Nat} {nb ns a b n : Nat}
set_option maxRecDepth 20000 in
theorem k_buyer (hX : cm_cls sh hr) {i w : Int32} (h : mOk (cm_sf hi 5) nb ns) : cm_ct D mX6_buyer (d + 2) 0 0 [.ref 2, .int i, .int w] (sh, hi, hl, hr) (fun r9 h9 => r9 = some (.int (cBuyer hi i w).1) ∧ h9 = (sh, (cBuyer hi i w).2, hl, hr)) := by
  have hnb := h.1.2.1
  have hns := h.1.2.2.2
  refine cm_ct_of (ls := [some (.ref 2), some (.int i), some (.int w)]) 0 (by decide +kernel) rfl rfl ?_
  refine cm_aload0 (pc := 0) dX6_buyer_0 ?_
  refine cm_iload1 (pc := 1) dX6_buyer_1 ?_
  refine cm_V1 (pc := 2) mX6_isBuyer_v mlX6_139 dX6_buyer_2 hX.ox (by omega) (Nat.le_of_ble_eq_true rfl) (Nat.le_refl _) (Nat.le_refl _) (k_isBuyer (d := d) hX) (fun r2 h2 hq2 => ?_)
  obtain ⟨rfl, rfl⟩ := hq2
  refine cm_ifeqB (pc := 5) (tgt := 16) dX6_buyer_5 (by decide) (fun c5 => ?_) (fun c5 => ?_)
  · refine cm_iconst (pc := 16) (v := -1) dX6_buyer_16 (by decide) ?_
    exact cm_iret (pc := 17) dX6_buyer_17 rfl ⟨by first | rfl | (simp [cBuyer, cP, *]; done), by first | rfl | (simp [cBuyer, cP, *]; done)⟩
  · obtain ⟨j, hj, rfl⟩ := isW_ex nb c5 (show hi 5 3 = nI nb from h.1.1) (by omega)
    have hjc : (nI j).toNatClampNeg = j := nI_clamp (by omega)
    refine cm_iload2 (pc := 8) dX6_buyer_8 ?_
    refine cm_iconst (pc := 9) (v := 4) dX6_buyer_9 (by decide) ?_
    refine cm_S2 (pc := 10) mX6_isWithin_s mlX6_64 dX6_buyer_10 (by omega) (Nat.le_of_ble_eq_true rfl) (Nat.le_refl _) (Nat.le_refl _) (k_isWithin (d := d + 1) ) (fun r10 h10 hq10 => ?_)
    obtain ⟨rfl, rfl⟩ := hq10
    refine cm_ifneB (pc := 13) (tgt := 18) dX6_buyer_13 (by decide) (fun c13 => ?_) (fun c13 => ?_)
    · refine cm_aload0 (pc := 18) dX6_buyer_18 ?_
      refine cm_aload0 (pc := 19) dX6_buyer_19 ?_
      refine cm_getR (pc := 20) flX6_21 dX6_buyer_20 hX.ox hX.r2 ?_
      refine cm_iload1 (pc := 23) dX6_buyer_23 ?_
      refine cm_iload2 (pc := 24) dX6_buyer_24 ?_
      refine cm_V2 (pc := 25) mX2_factOfBuyer_v mlX6_143 dX6_buyer_25 hX.mp.1 (by omega) (Nat.le_of_ble_eq_true rfl) (Nat.le_refl _) (Nat.le_refl _) (cm_ct_us 5 (k_factOfBuyer (d := d + 1) hX.mp (by omega))) (fun r25 h25 hq25 => ?_)
      obtain ⟨rfl, rfl⟩ := hq25
      rw [cm_us_sf]
      refine cm_V1 (pc := 28) mX6_tell_v mlX6_84 dX6_buyer_28 hX.ox (by omega) (Nat.le_of_ble_eq_true rfl) (Nat.le_refl _) (Nat.le_refl _) (k_tell (d := d + 1) hX) (fun r28 h28 hq28 => ?_)
      obtain ⟨rfl, rfl⟩ := hq28
      exact cm_iret (pc := 31) dX6_buyer_31 rfl ⟨by first | rfl | (simp [cBuyer, cP, *]; done), by first | rfl | (simp [cBuyer, cP, *]; done)⟩
    · refine cm_iconst (pc := 16) (v := -1) dX6_buyer_16 (by decide) ?_
      exact cm_iret (pc := 17) dX6_buyer_17 rfl ⟨by first | rfl | (simp [cBuyer, cP, *]; done), by first | rfl | (simp [cBuyer, cP, *]; done)⟩
set_option maxRecDepth 20000 in
theorem k_stall (hX : cm_cls sh hr) {i w : Int32} (h : mOk (cm_sf hi 5) nb ns) : cm_ct D mX6_stall (d + 2) 0 0 [.ref 2, .int i, .int w] (sh, hi, hl, hr) (fun r9 h9 => r9 = some (.int (cStall hi i w).1) ∧ h9 = (sh, (cStall hi i w).2, hl, hr)) := by
  have hnb := h.1.2.1
  have hns := h.1.2.2.2
  refine cm_ct_of (ls := [some (.ref 2), some (.int i), some (.int w)]) 0 (by decide +kernel) rfl rfl ?_
  refine cm_aload0 (pc := 0) dX6_stall_0 ?_
  refine cm_iload1 (pc := 1) dX6_stall_1 ?_
  refine cm_V1 (pc := 2) mX6_isStall_v mlX6_146 dX6_stall_2 hX.ox (by omega) (Nat.le_of_ble_eq_true rfl) (Nat.le_refl _) (Nat.le_refl _) (k_isStall (d := d) hX) (fun r2 h2 hq2 => ?_)
  obtain ⟨rfl, rfl⟩ := hq2
  refine cm_ifeqB (pc := 5) (tgt := 16) dX6_stall_5 (by decide) (fun c5 => ?_) (fun c5 => ?_)
  · refine cm_iconst (pc := 16) (v := -1) dX6_stall_16 (by decide) ?_
    exact cm_iret (pc := 17) dX6_stall_17 rfl ⟨by first | rfl | (simp [cStall, cP, *]; done), by first | rfl | (simp [cStall, cP, *]; done)⟩
  · obtain ⟨j, hj, rfl⟩ := isW_ex ns c5 (show hi 5 2 = nI ns from h.1.2.2.1) (by omega)
    have hjc : (nI j).toNatClampNeg = j := nI_clamp (by omega)
    refine cm_iload2 (pc := 8) dX6_stall_8 ?_
    refine cm_iconst (pc := 9) (v := 4) dX6_stall_9 (by decide) ?_
    refine cm_S2 (pc := 10) mX6_isWithin_s mlX6_64 dX6_stall_10 (by omega) (Nat.le_of_ble_eq_true rfl) (Nat.le_refl _) (Nat.le_refl _) (k_isWithin (d := d + 1) ) (fun r10 h10 hq10 => ?_)
    obtain ⟨rfl, rfl⟩ := hq10
    refine cm_ifneB (pc := 13) (tgt := 18) dX6_stall_13 (by decide) (fun c13 => ?_) (fun c13 => ?_)
    · refine cm_aload0 (pc := 18) dX6_stall_18 ?_
      refine cm_aload0 (pc := 19) dX6_stall_19 ?_
      refine cm_getR (pc := 20) flX6_21 dX6_stall_20 hX.ox hX.r2 ?_
      refine cm_iload1 (pc := 23) dX6_stall_23 ?_
      refine cm_iload2 (pc := 24) dX6_stall_24 ?_
      refine cm_V2 (pc := 25) mX2_factOfStall_v mlX6_149 dX6_stall_25 hX.mp.1 (by omega) (Nat.le_of_ble_eq_true rfl) (Nat.le_refl _) (Nat.le_refl _) (cm_ct_us 5 (k_factOfStall (d := d + 1) hX.mp (by omega))) (fun r25 h25 hq25 => ?_)
      obtain ⟨rfl, rfl⟩ := hq25
      rw [cm_us_sf]
      refine cm_V1 (pc := 28) mX6_tell_v mlX6_84 dX6_stall_28 hX.ox (by omega) (Nat.le_of_ble_eq_true rfl) (Nat.le_refl _) (Nat.le_refl _) (k_tell (d := d + 1) hX) (fun r28 h28 hq28 => ?_)
      obtain ⟨rfl, rfl⟩ := hq28
      exact cm_iret (pc := 31) dX6_stall_31 rfl ⟨by first | rfl | (simp [cStall, cP, *]; done), by first | rfl | (simp [cStall, cP, *]; done)⟩
    · refine cm_iconst (pc := 16) (v := -1) dX6_stall_16 (by decide) ?_
      exact cm_iret (pc := 17) dX6_stall_17 rfl ⟨by first | rfl | (simp [cStall, cP, *]; done), by first | rfl | (simp [cStall, cP, *]; done)⟩
set_option maxHeartbeats 1000000 in
set_option maxRecDepth 20000 in
theorem k_mark (hX : cm_cls sh hr) {i kd : Int32} (h : mOk (cm_sf hi 5) nb ns) : cm_ct D mX6_mark (d + 5) 0 0 [.ref 2, .int i, .int kd] (sh, hi, hl, hr) (fun r9 h9 => r9 = some (.int (cMark hi nb ns i kd).1) ∧ h9 = (sh, (cMark hi nb ns i kd).2, hl, hr)) := by
  have hnb := h.1.2.1
  have hns := h.1.2.2.2
  refine cm_ct_of (ls := [some (.ref 2), some (.int i), some (.int kd)]) 0 (by decide +kernel) rfl rfl ?_
  refine cm_aload0 (pc := 0) dX6_mark_0 ?_
  refine cm_iload1 (pc := 1) dX6_mark_1 ?_
  refine cm_V1 (pc := 2) mX6_isBuyer_v mlX6_139 dX6_mark_2 hX.ox (by omega) (Nat.le_of_ble_eq_true rfl) (Nat.le_refl _) (Nat.le_refl _) (k_isBuyer (d := d + 3) hX) (fun r2 h2 hq2 => ?_)
  obtain ⟨rfl, rfl⟩ := hq2
  refine cm_ifeqB (pc := 5) (tgt := 18) dX6_mark_5 (by decide) (fun c5 => ?_) (fun c5 => ?_)
  · refine cm_iconst (pc := 18) (v := -1) dX6_mark_18 (by decide) ?_
    exact cm_iret (pc := 19) dX6_mark_19 rfl ⟨by simp [cMark, *], by simp [cMark, *]⟩
  · obtain ⟨j, hj, rfl⟩ := isW_ex nb c5 (show hi 5 3 = nI nb from h.1.1) (by omega)
    have hjc : (nI j).toNatClampNeg = j := nI_clamp (by omega)
    refine cm_iload2 (pc := 8) dX6_mark_8 ?_
    refine cm_iconst (pc := 9) (v := 1) dX6_mark_9 (by decide) ?_
    refine cm_icmp_lt (pc := 10) (tgt := 18) dX6_mark_10 (by decide) (fun c10 => ?_) (fun c10 => ?_)
    · refine cm_iconst (pc := 18) (v := -1) dX6_mark_18 (by decide) ?_
      exact cm_iret (pc := 19) dX6_mark_19 rfl ⟨by simp [cMark, *], by simp [cMark, *]⟩
    · refine cm_iload2 (pc := 13) dX6_mark_13 ?_
      refine cm_iconst (pc := 14) (v := 5) dX6_mark_14 (by decide) ?_
      refine cm_icmp_le (pc := 15) (tgt := 20) dX6_mark_15 (by decide) (fun c15 => ?_) (fun c15 => ?_)
      · refine cm_aload0 (pc := 20) dX6_mark_20 ?_
        refine cm_getR (pc := 21) flX6_21 dX6_mark_21 hX.ox hX.r2 ?_
        refine cm_iload1 (pc := 24) dX6_mark_24 ?_
        refine cm_iload2 (pc := 25) dX6_mark_25 ?_
        refine cm_V2 (pc := 26) mX2_isOfKind_v mlX6_152 dX6_mark_26 hX.mp.1 (by omega) (Nat.le_of_ble_eq_true rfl) (Nat.le_refl _) (Nat.le_refl _) (cm_ct_us 5 (k_isOfKind (d := d + 4) hX.mp (by omega))) (fun r26 h26 hq26 => ?_)
        obtain ⟨rfl, rfl⟩ := hq26
        rw [cm_us_sf]
        refine cm_ifneB (pc := 29) (tgt := 38) dX6_mark_29 (by decide) (fun c29 => ?_) (fun c29 => ?_)
        · have q0 : mOf (cP hi) j kd = true := c29
          have hspec : cMark hi nb ns (nI j) kd = (cMarkV (cP hi) nb ns j kd, hi) := by
            unfold cMark
            rw [if_neg (fun w => w.elim (fun w => by rw [c5] at w; cases w) (fun w => w.elim c10 (fun w => w c15))), hjc, if_pos q0]
          refine cm_iload2 (pc := 38) dX6_mark_38 ?_
          refine cm_split 1 (fun s39_1 => ?_) (fun s39_1 => ?_)
          · refine cm_tsIn (pc := 39) (tgt := 68) (off := 29) dX6_mark_39 (by decide) (by decide) (by decide +kernel) (by decide) ?_
            refine cm_aload0 (pc := 68) dX6_mark_68 ?_
            refine cm_getR (pc := 69) flX6_21 dX6_mark_69 hX.ox hX.r2 ?_
            refine cm_iload1 (pc := 72) dX6_mark_72 ?_
            refine cm_V1 (pc := 73) mX2_takenAlongRight_v mlX6_155 dX6_mark_73 hX.mp.1 (by omega) (Nat.le_of_ble_eq_true rfl) (Nat.le_refl _) (Nat.le_refl _) (cm_ct_us 5 (k_takenAlongRight (d := d + 2) hX.mp (show cm_sf hi 5 0 3 = nI nb from h.1.1) hnb hj)) (fun r73 h73 hq73 => ?_)
            obtain ⟨rfl, rfl⟩ := hq73
            rw [cm_us_sf]
            exact cm_iret (pc := 76) dX6_mark_76 rfl ⟨by rw [hspec]; show some (Value.int _) = some (Value.int (cMarkV (cP hi) nb ns j kd)); unfold cMarkV; rw [if_pos s39_1]; try rfl, by rw [hspec]⟩
          refine cm_split 2 (fun s39_2 => ?_) (fun s39_2 => ?_)
          · refine cm_tsIn (pc := 39) (tgt := 77) (off := 38) dX6_mark_39 (by decide) (by decide) (by decide +kernel) (by decide) ?_
            refine cm_aload0 (pc := 77) dX6_mark_77 ?_
            refine cm_getR (pc := 78) flX6_21 dX6_mark_78 hX.ox hX.r2 ?_
            refine cm_iload1 (pc := 81) dX6_mark_81 ?_
            refine cm_V1 (pc := 82) mX2_neighboursApart_v mlX6_158 dX6_mark_82 hX.mp.1 (by omega) (Nat.le_of_ble_eq_true rfl) (Nat.le_refl _) (Nat.le_refl _) (cm_ct_us 5 (k_neighboursApart (d := d + 4) hX.mp (show cm_sf hi 5 0 3 = nI nb from h.1.1) hnb hj)) (fun r82 h82 hq82 => ?_)
            obtain ⟨rfl, rfl⟩ := hq82
            rw [cm_us_sf]
            exact cm_iret (pc := 85) dX6_mark_85 rfl ⟨by rw [hspec]; show some (Value.int _) = some (Value.int (cMarkV (cP hi) nb ns j kd)); unfold cMarkV; rw [if_neg s39_1, if_pos s39_2]; try rfl, by rw [hspec]⟩
          refine cm_split 3 (fun s39_3 => ?_) (fun s39_3 => ?_)
          · refine cm_tsIn (pc := 39) (tgt := 86) (off := 47) dX6_mark_39 (by decide) (by decide) (by decide +kernel) (by decide) ?_
            refine cm_aload0 (pc := 86) dX6_mark_86 ?_
            refine cm_getR (pc := 87) flX6_21 dX6_mark_87 hX.ox hX.r2 ?_
            refine cm_aload0 (pc := 90) dX6_mark_90 ?_
            refine cm_getR (pc := 91) flX6_21 dX6_mark_91 hX.ox hX.r2 ?_
            refine cm_getR (pc := 94) flX6_161 dX6_mark_94 hX.mp.1 hX.mp.r9 ?_
            refine cm_iload1 (pc := 97) dX6_mark_97 ?_
            refine cm_ialN (pc := 98) dX6_mark_98 hX.mp.a6 (by omega) (by decide) ?_
            refine cm_bipush (pc := 99) (v := 8) dX6_mark_99 (by decide) ?_
            refine cm_V2 (pc := 101) mX2_farToNearest_v mlX6_164 dX6_mark_101 hX.mp.1 (by omega) (Nat.le_of_ble_eq_true rfl) (Nat.le_refl _) (Nat.le_refl _) (cm_ct_us 5 (k_farToNearest (d := d + 1) hX.mp (show cm_sf hi 5 0 2 = nI ns from h.1.2.2.1) hns)) (fun r101 h101 hq101 => ?_)
            obtain ⟨rfl, rfl⟩ := hq101
            rw [cm_us_sf]
            exact cm_iret (pc := 104) dX6_mark_104 rfl ⟨by rw [hspec]; show some (Value.int _) = some (Value.int (cMarkV (cP hi) nb ns j kd)); unfold cMarkV; rw [if_neg s39_1, if_neg s39_2, if_pos s39_3]; try rfl, by rw [hspec]⟩
          refine cm_split 4 (fun s39_4 => ?_) (fun s39_4 => ?_)
          · refine cm_tsIn (pc := 39) (tgt := 105) (off := 66) dX6_mark_39 (by decide) (by decide) (by decide +kernel) (by decide) ?_
            refine cm_aload0 (pc := 105) dX6_mark_105 ?_
            refine cm_getR (pc := 106) flX6_21 dX6_mark_106 hX.ox hX.r2 ?_
            refine cm_iload1 (pc := 109) dX6_mark_109 ?_
            refine cm_V1 (pc := 110) mX2_stallsInReach_v mlX6_167 dX6_mark_110 hX.mp.1 (by omega) (Nat.le_of_ble_eq_true rfl) (Nat.le_refl _) (Nat.le_refl _) (cm_ct_us 5 (k_stallsInReach (d := d + 3) hX.mp (show cm_sf hi 5 0 2 = nI ns from h.1.2.2.1) hns (by omega))) (fun r110 h110 hq110 => ?_)
            obtain ⟨rfl, rfl⟩ := hq110
            rw [cm_us_sf]
            exact cm_iret (pc := 113) dX6_mark_113 rfl ⟨by rw [hspec]; show some (Value.int _) = some (Value.int (cMarkV (cP hi) nb ns j kd)); unfold cMarkV; rw [if_neg s39_1, if_neg s39_2, if_neg s39_3, if_pos s39_4]; try rfl, by rw [hspec]⟩
          refine cm_tsOut (pc := 39) (tgt := 114) dX6_mark_39 (by have := cm_nez s39_1; have := cm_nez s39_2; have := cm_nez s39_3; have := cm_nez s39_4; simp at *; omega) (by decide) ?_
          refine cm_aload0 (pc := 114) dX6_mark_114 ?_
          refine cm_getR (pc := 115) flX6_21 dX6_mark_115 hX.ox hX.r2 ?_
          refine cm_aload0 (pc := 118) dX6_mark_118 ?_
          refine cm_getR (pc := 119) flX6_21 dX6_mark_119 hX.ox hX.r2 ?_
          refine cm_getR (pc := 122) flX6_161 dX6_mark_122 hX.mp.1 hX.mp.r9 ?_
          refine cm_iload1 (pc := 125) dX6_mark_125 ?_
          refine cm_ialN (pc := 126) dX6_mark_126 hX.mp.a6 (by omega) (by decide) ?_
          refine cm_iconst (pc := 127) (v := 1) dX6_mark_127 (by decide) ?_
          refine cm_aload0 (pc := 128) dX6_mark_128 ?_
          refine cm_getR (pc := 129) flX6_21 dX6_mark_129 hX.ox hX.r2 ?_
          refine cm_getR (pc := 132) flX6_170 dX6_mark_132 hX.mp.1 hX.mp.r10 ?_
          refine cm_iload1 (pc := 135) dX6_mark_135 ?_
          refine cm_ialN (pc := 136) dX6_mark_136 hX.mp.a7 (by omega) (by decide) ?_
          refine cm_ishl (pc := 137) dX6_mark_137 ?_
          refine cm_V2 (pc := 138) mX2_farToNearest_v mlX6_164 dX6_mark_138 hX.mp.1 (by omega) (Nat.le_of_ble_eq_true rfl) (Nat.le_refl _) (Nat.le_refl _) (cm_ct_us 5 (k_farToNearest (d := d + 1) hX.mp (show cm_sf hi 5 0 2 = nI ns from h.1.2.2.1) hns)) (fun r138 h138 hq138 => ?_)
          obtain ⟨rfl, rfl⟩ := hq138
          rw [cm_us_sf]
          exact cm_iret (pc := 141) dX6_mark_141 rfl ⟨by rw [hspec]; show some (Value.int _) = some (Value.int (cMarkV (cP hi) nb ns j kd)); unfold cMarkV; rw [if_neg s39_1, if_neg s39_2, if_neg s39_3, if_neg s39_4]; try rfl, by rw [hspec]⟩
        · have q0 : mOf (cP hi) j kd = false := c29
          refine cm_aload0 (pc := 32) dX6_mark_32 ?_
          refine cm_iconst (pc := 33) (v := 3) dX6_mark_33 (by decide) ?_
          refine cm_V1 (pc := 34) mX6_refuse_v mlX6_68 dX6_mark_34 hX.ox (by omega) (Nat.le_of_ble_eq_true rfl) (Nat.le_refl _) (Nat.le_refl _) (k_refuse (d := d + 4) hX (f := 3) (by decide)) (fun r34 h34 hq34 => ?_)
          obtain ⟨rfl, rfl⟩ := hq34
          exact cm_iret (pc := 37) dX6_mark_37 rfl ⟨by simp [cMark, *], by simp [cMark, *]⟩
      · refine cm_iconst (pc := 18) (v := -1) dX6_mark_18 (by decide) ?_
        exact cm_iret (pc := 19) dX6_mark_19 rfl ⟨by simp [cMark, *], by simp [cMark, *]⟩
set_option maxRecDepth 20000 in
theorem k_want (hX : cm_cls sh hr) {i gd : Int32} (h : mOk (cm_sf hi 5) nb ns) : cm_ct D mX6_want (d + 2) 0 0 [.ref 2, .int i, .int gd] (sh, hi, hl, hr) (fun r9 h9 => r9 = some (.int (cWant hi i gd).1) ∧ h9 = (sh, (cWant hi i gd).2, hl, hr)) := by
  have hnb := h.1.2.1
  have hns := h.1.2.2.2
  refine cm_ct_of (ls := [some (.ref 2), some (.int i), some (.int gd), none]) 1 (by decide +kernel) rfl rfl ?_
  refine cm_aload0 (pc := 0) dX6_want_0 ?_
  refine cm_iload1 (pc := 1) dX6_want_1 ?_
  refine cm_V1 (pc := 2) mX6_isBuyer_v mlX6_139 dX6_want_2 hX.ox (by omega) (Nat.le_of_ble_eq_true rfl) (Nat.le_refl _) (Nat.le_refl _) (k_isBuyer (d := d) hX) (fun r2 h2 hq2 => ?_)
  obtain ⟨rfl, rfl⟩ := hq2
  refine cm_ifeqB (pc := 5) (tgt := 16) dX6_want_5 (by decide) (fun c5 => ?_) (fun c5 => ?_)
  · refine cm_iconst (pc := 16) (v := -1) dX6_want_16 (by decide) ?_
    exact cm_iret (pc := 17) dX6_want_17 rfl ⟨by first | rfl | (simp [cWant, *]; done), by first | rfl | (simp [cWant, *]; done)⟩
  · obtain ⟨j, hj, rfl⟩ := isW_ex nb c5 (show hi 5 3 = nI nb from h.1.1) (by omega)
    have hjc : (nI j).toNatClampNeg = j := nI_clamp (by omega)
    refine cm_iload2 (pc := 8) dX6_want_8 ?_
    refine cm_iconst (pc := 9) (v := 5) dX6_want_9 (by decide) ?_
    refine cm_S2 (pc := 10) mX6_isWithin_s mlX6_64 dX6_want_10 (by omega) (Nat.le_of_ble_eq_true rfl) (Nat.le_refl _) (Nat.le_refl _) (k_isWithin (d := d + 1) ) (fun r10 h10 hq10 => ?_)
    obtain ⟨rfl, rfl⟩ := hq10
    refine cm_ifneB (pc := 13) (tgt := 18) dX6_want_13 (by decide) (fun c13 => ?_) (fun c13 => ?_)
    · refine cm_aload0 (pc := 18) dX6_want_18 ?_
      refine cm_getR (pc := 19) flX6_21 dX6_want_19 hX.ox hX.r2 ?_
      refine cm_getR (pc := 22) flX6_170 dX6_want_22 hX.mp.1 hX.mp.r10 ?_
      refine cm_iload1 (pc := 25) dX6_want_25 ?_
      refine cm_ialN (pc := 26) dX6_want_26 hX.mp.a7 (by omega) (by decide) ?_
      refine cm_istore3 (pc := 27) dX6_want_27 (by decide) rfl ?_
      refine cm_aload0 (pc := 28) dX6_want_28 ?_
      refine cm_getR (pc := 29) flX6_21 dX6_want_29 hX.ox hX.r2 ?_
      refine cm_getR (pc := 32) flX6_170 dX6_want_32 hX.mp.1 hX.mp.r10 ?_
      refine cm_iload1 (pc := 35) dX6_want_35 ?_
      refine cm_iload2 (pc := 36) dX6_want_36 ?_
      refine cm_iasN (pc := 37) dX6_want_37 hX.mp.a7 (by omega) (by decide) ?_
      refine cm_iload3 (pc := 38) dX6_want_38 ?_
      exact cm_iret (pc := 39) dX6_want_39 rfl ⟨by first | rfl | (simp [cWant, *]; done), by first | rfl | (simp [cWant, *]; done)⟩
    · refine cm_iconst (pc := 16) (v := -1) dX6_want_16 (by decide) ?_
      exact cm_iret (pc := 17) dX6_want_17 rfl ⟨by first | rfl | (simp [cWant, *]; done), by first | rfl | (simp [cWant, *]; done)⟩
set_option maxRecDepth 20000 in
theorem k_price (hX : cm_cls sh hr) {k v : Int32} (h : mOk (cm_sf hi 5) nb ns) : cm_ct D mX6_price (d + 2) 0 0 [.ref 2, .int k, .int v] (sh, hi, hl, hr) (fun r9 h9 => r9 = some (.int (cPrice hi k v).1) ∧ h9 = (sh, (cPrice hi k v).2, hl, hr)) := by
  have hnb := h.1.2.1
  have hns := h.1.2.2.2
  refine cm_ct_of (ls := [some (.ref 2), some (.int k), some (.int v), none]) 1 (by decide +kernel) rfl rfl ?_
  refine cm_aload0 (pc := 0) dX6_price_0 ?_
  refine cm_iload1 (pc := 1) dX6_price_1 ?_
  refine cm_V1 (pc := 2) mX6_isStall_v mlX6_146 dX6_price_2 hX.ox (by omega) (Nat.le_of_ble_eq_true rfl) (Nat.le_refl _) (Nat.le_refl _) (k_isStall (d := d) hX) (fun r2 h2 hq2 => ?_)
  obtain ⟨rfl, rfl⟩ := hq2
  refine cm_ifeqB (pc := 5) (tgt := 18) dX6_price_5 (by decide) (fun c5 => ?_) (fun c5 => ?_)
  · refine cm_iconst (pc := 18) (v := -1) dX6_price_18 (by decide) ?_
    exact cm_iret (pc := 19) dX6_price_19 rfl ⟨by first | rfl | (simp [cPrice, *]; done), by first | rfl | (simp [cPrice, *]; done)⟩
  · obtain ⟨j, hj, rfl⟩ := isW_ex ns c5 (show hi 5 2 = nI ns from h.1.2.2.1) (by omega)
    have hjc : (nI j).toNatClampNeg = j := nI_clamp (by omega)
    refine cm_iload2 (pc := 8) dX6_price_8 ?_
    refine cm_if_lt (pc := 9) (tgt := 18) dX6_price_9 (by decide) (fun c9 => ?_) (fun c9 => ?_)
    · refine cm_iconst (pc := 18) (v := -1) dX6_price_18 (by decide) ?_
      exact cm_iret (pc := 19) dX6_price_19 rfl ⟨by first | rfl | (simp [cPrice, *]; done), by first | rfl | (simp [cPrice, *]; done)⟩
    · refine cm_iload2 (pc := 12) dX6_price_12 ?_
      refine cm_bipush (pc := 13) (v := 99) dX6_price_13 (by decide) ?_
      refine cm_icmp_le (pc := 15) (tgt := 20) dX6_price_15 (by decide) (fun c15 => ?_) (fun c15 => ?_)
      · refine cm_aload0 (pc := 20) dX6_price_20 ?_
        refine cm_getR (pc := 21) flX6_21 dX6_price_21 hX.ox hX.r2 ?_
        refine cm_getR (pc := 24) flX6_173 dX6_price_24 hX.mp.1 hX.mp.r6 ?_
        refine cm_iload1 (pc := 27) dX6_price_27 ?_
        refine cm_ialN (pc := 28) dX6_price_28 hX.mp.a3 (by omega) (by decide) ?_
        refine cm_istore3 (pc := 29) dX6_price_29 (by decide) rfl ?_
        refine cm_aload0 (pc := 30) dX6_price_30 ?_
        refine cm_getR (pc := 31) flX6_21 dX6_price_31 hX.ox hX.r2 ?_
        refine cm_getR (pc := 34) flX6_173 dX6_price_34 hX.mp.1 hX.mp.r6 ?_
        refine cm_iload1 (pc := 37) dX6_price_37 ?_
        refine cm_iload2 (pc := 38) dX6_price_38 ?_
        refine cm_iasN (pc := 39) dX6_price_39 hX.mp.a3 (by omega) (by decide) ?_
        refine cm_iload3 (pc := 40) dX6_price_40 ?_
        exact cm_iret (pc := 41) dX6_price_41 rfl ⟨by first | rfl | (simp [cPrice, *]; done), by first | rfl | (simp [cPrice, *]; done)⟩
      · refine cm_iconst (pc := 18) (v := -1) dX6_price_18 (by decide) ?_
        exact cm_iret (pc := 19) dX6_price_19 rfl ⟨by first | rfl | (simp [cPrice, *]; done), by first | rfl | (simp [cPrice, *]; done)⟩
set_option maxRecDepth 20000 in
theorem k_wish (hX : cm_cls sh hr) {i : Int32} (h : mOk (cm_sf hi 5) nb ns) : cm_ct D mX6_wish (d + 2) 0 0 [.ref 2, .int i] (sh, hi, hl, hr) (fun r9 h9 => r9 = some (.int (cWish hi i).1) ∧ h9 = (sh, (cWish hi i).2, hl, hr)) := by
  have hnb := h.1.2.1
  have hns := h.1.2.2.2
  refine cm_ct_of (ls := [some (.ref 2), some (.int i)]) 0 (by decide +kernel) rfl rfl ?_
  refine cm_aload0 (pc := 0) dX6_wish_0 ?_
  refine cm_iload1 (pc := 1) dX6_wish_1 ?_
  refine cm_V1 (pc := 2) mX6_isBuyer_v mlX6_139 dX6_wish_2 hX.ox (by omega) (Nat.le_of_ble_eq_true rfl) (Nat.le_refl _) (Nat.le_refl _) (k_isBuyer (d := d) hX) (fun r2 h2 hq2 => ?_)
  obtain ⟨rfl, rfl⟩ := hq2
  refine cm_ifneB (pc := 5) (tgt := 10) dX6_wish_5 (by decide) (fun c5 => ?_) (fun c5 => ?_)
  · obtain ⟨j, hj, rfl⟩ := isW_ex nb c5 (show hi 5 3 = nI nb from h.1.1) (by omega)
    have hjc : (nI j).toNatClampNeg = j := nI_clamp (by omega)
    refine cm_aload0 (pc := 10) dX6_wish_10 ?_
    refine cm_aload0 (pc := 11) dX6_wish_11 ?_
    refine cm_getR (pc := 12) flX6_21 dX6_wish_12 hX.ox hX.r2 ?_
    refine cm_iload1 (pc := 15) dX6_wish_15 ?_
    refine cm_V1 (pc := 16) mX2_wayOf_v mlX6_176 dX6_wish_16 hX.mp.1 (by omega) (Nat.le_of_ble_eq_true rfl) (Nat.le_refl _) (Nat.le_refl _) (cm_ct_us 5 (k_wayOf2 (d := d + 1) hX.mp h hj)) (fun r16 h16 hq16 => ?_)
    obtain ⟨rfl, rfl⟩ := hq16
    rw [cm_us_sf]
    refine cm_V1 (pc := 19) mX6_tell_v mlX6_84 dX6_wish_19 hX.ox (by omega) (Nat.le_of_ble_eq_true rfl) (Nat.le_refl _) (Nat.le_refl _) (k_tell (d := d + 1) hX) (fun r19 h19 hq19 => ?_)
    obtain ⟨rfl, rfl⟩ := hq19
    exact cm_iret (pc := 22) dX6_wish_22 rfl ⟨by first | rfl | (simp [cWish, cP, *]; done), by first | rfl | (simp [cWish, cP, *]; done)⟩
  · refine cm_iconst (pc := 8) (v := -1) dX6_wish_8 (by decide) ?_
    exact cm_iret (pc := 9) dX6_wish_9 rfl ⟨by first | rfl | (simp [cWish, cP, *]; done), by first | rfl | (simp [cWish, cP, *]; done)⟩
set_option maxRecDepth 20000 in
theorem l_mins (hX : cm_cls sh hr) {n m0 : Nat} (h : mOk (cm_sf hi 5) nb ns) (h1 : hi 5 1 = nI m0) (hmn : m0 + n ≤ 60) : ∀ q k : Nat, k + q = n → cm_g D mX6_minutes (d + 4) 0 0 (fun r9 h9 => r9 = some (.int (nI (cMins hi nb ns m0 n).1)) ∧ h9 = (sh, (cMins hi nb ns m0 n).2, hl, hr)) 0 0 45 [some (.ref 2), some (.int (nI n)), some (.int (nI (cMins hi nb ns m0 k).1)), some (.int (nI k))] [] (sh, (cMins hi nb ns m0 k).2, hl, hr) := by
  intro q
  induction q with
  | zero =>
    intro k hk
    have h1 : k = n := by omega
    subst h1
    refine cm_iload3 (pc := 45) dX6_minutes_45 ?_
    refine cm_iload1 (pc := 46) dX6_minutes_46 ?_
    refine cm_geN (pc := 47) (tgt := 78) dX6_minutes_47 (by decide) (by omega) (by omega) (fun c47 => ?_) (fun c47 => ?_)
    · refine cm_iload2 (pc := 78) dX6_minutes_78 ?_
      exact cm_iret (pc := 79) dX6_minutes_79 rfl ⟨rfl, rfl⟩
    · exact absurd c47 (by omega)
  | succ q ih =>
    intro k hk
    have hst := ih (k + 1) (by omega)
    refine cm_iload3 (pc := 45) dX6_minutes_45 ?_
    refine cm_iload1 (pc := 46) dX6_minutes_46 ?_
    refine cm_geN (pc := 47) (tgt := 78) dX6_minutes_47 (by decide) (by omega) (by omega) (fun c47 => ?_) (fun c47 => ?_)
    · exact absurd c47 (by omega)
    · refine cm_aload0 (pc := 50) dX6_minutes_50 ?_
      refine cm_getR (pc := 51) flX6_32 dX6_minutes_51 hX.ox hX.r4 ?_
      refine cm_aload0 (pc := 54) dX6_minutes_54 ?_
      refine cm_getR (pc := 55) flX6_21 dX6_minutes_55 hX.ox hX.r2 ?_
      refine cm_V1 (pc := 58) mX1_save_v mlX6_182 dX6_minutes_58 hX.oh (by omega) (Nat.le_of_ble_eq_true rfl) (Nat.le_refl _) (Nat.le_refl _) (k_save (d := d + 2) hX hX.mp (by decide) (m := m0 + k) (by omega) (cMins_ok h h1 k).2) (fun r58 h58 hq58 => ?_)
      obtain ⟨rfl, H58, rfl, s58⟩ := hq58
      rw [s58.eq]
      have ok9 : mOk (cm_sf (cSv (cMins hi nb ns m0 k).2 (m0 + k)) 5) nb ns := (cMins_ok h h1 k).1.congr ⟨fun j _ => by rw [show cm_sf (cSv (cMins hi nb ns m0 k).2 (m0 + k)) 5 0 = _ from cSv_c (by decide)]; rfl, fun c _ h9 i _ => by rw [show cm_sf (cSv (cMins hi nb ns m0 k).2 (m0 + k)) 5 c = _ from cSv_c (by omega)]; rfl, fun i _ => by rw [show cm_sf (cSv (cMins hi nb ns m0 k).2 (m0 + k)) 5 10 = _ from cSv_c (by decide)]; rfl⟩
      refine cm_iload2 (pc := 61) dX6_minutes_61 ?_
      refine cm_aload0 (pc := 62) dX6_minutes_62 ?_
      refine cm_getR (pc := 63) flX6_21 dX6_minutes_63 hX.ox hX.r2 ?_
      refine cm_iconst (pc := 66) (v := 0) dX6_minutes_66 (by decide) ?_
      refine cm_V1 (pc := 67) mX2_passMinute_v mlX6_185 dX6_minutes_67 hX.mp.1 (by omega) (Nat.le_of_ble_eq_true rfl) (Nat.le_refl _) (Nat.le_refl _) (cm_ct_us 5 (k_passMinute (d := d) hX.mp ok9)) (fun r67 h67 hq67 => ?_)
      obtain ⟨rfl, rfl⟩ := hq67
      
      refine cm_iadd (pc := 70) dX6_minutes_70 ?_
      rw [nI_add]
      refine cm_istore2 (pc := 71) dX6_minutes_71 (by decide) rfl ?_
      refine cm_incN3 (pc := 72) dX6_minutes_72 (by decide) rfl ?_
      refine cm_goto (pc := 75) (tgt := 45) dX6_minutes_75 (by decide) ?_
      exact hst
set_option maxRecDepth 20000 in
theorem k_minutes (hX : cm_cls sh hr) {n : Int32} (h : mOk (cm_sf hi 5) nb ns) (hm0 : 0 ≤ (hi 5 1).toInt ∧ (hi 5 1).toInt ≤ 60) : cm_ct D mX6_minutes (d + 4) 0 0 [.ref 2, .int n] (sh, hi, hl, hr) (fun r9 h9 => r9 = some (.int (cMinutes hi nb ns n).1) ∧ h9 = (sh, (cMinutes hi nb ns n).2, hl, hr)) := by
  have hnb := h.1.2.1
  have hns := h.1.2.2.2
  refine cm_ct_of (ls := [some (.ref 2), some (.int n), none, none]) 2 (by decide +kernel) rfl rfl ?_
  refine cm_iload1 (pc := 0) dX6_minutes_0 ?_
  refine cm_bipush (pc := 1) (v := 20) dX6_minutes_1 (by decide) ?_
  refine cm_S2 (pc := 3) mX6_isUpTo_s mlX6_179 dX6_minutes_3 (by omega) (Nat.le_of_ble_eq_true rfl) (Nat.le_refl _) (Nat.le_refl _) (k_isUpTo (d := d + 3) ) (fun r3 h3 hq3 => ?_)
  obtain ⟨rfl, rfl⟩ := hq3
  refine cm_ifneB (pc := 6) (tgt := 11) dX6_minutes_6 (by decide) (fun c6 => ?_) (fun c6 => ?_)
  · refine cm_aload0 (pc := 11) dX6_minutes_11 ?_
    refine cm_getR (pc := 12) flX6_21 dX6_minutes_12 hX.ox hX.r2 ?_
    refine cm_getI (pc := 15) flX6_136 dX6_minutes_15 hX.mp.1 ?_
    refine cm_if_ne (pc := 18) (tgt := 24) dX6_minutes_18 (by decide) (fun c18 => ?_) (fun c18 => ?_)
    · refine cm_aload0 (pc := 24) dX6_minutes_24 ?_
      refine cm_getR (pc := 25) flX6_21 dX6_minutes_25 hX.ox hX.r2 ?_
      refine cm_getI (pc := 28) flX6_126 dX6_minutes_28 hX.mp.1 ?_
      refine cm_iload1 (pc := 31) dX6_minutes_31 ?_
      refine cm_iadd (pc := 32) dX6_minutes_32 ?_
      refine cm_bipush (pc := 33) (v := 60) dX6_minutes_33 (by decide) ?_
      refine cm_icmp_le (pc := 35) (tgt := 41) dX6_minutes_35 (by decide) (fun c35 => ?_) (fun c35 => ?_)
      · refine cm_iconst (pc := 41) (v := 0) dX6_minutes_41 (by decide) ?_
        refine cm_istore2 (pc := 42) dX6_minutes_42 (by decide) rfl ?_
        refine cm_iconst (pc := 43) (v := 0) dX6_minutes_43 (by decide) ?_
        refine cm_istore3 (pc := 44) dX6_minutes_44 (by decide) rfl ?_
        have zn := isU_z.mp c6
        have e20 : (20 : Int32).toInt = 20 := by decide
        rw [e20] at zn
        have c35z : (hi 5 1).toInt + n.toInt ≤ 60 := by
          have e60 : (60 : Int32).toInt = 60 := by decide
          have := Int32.le_iff_toInt_le.mp c35
          rw [zadd (by omega), e60] at this
          exact this
        have w1 : n.toNatClampNeg = n.toInt.toNat := rfl
        have w2 : (hi 5 1).toNatClampNeg = (hi 5 1).toInt.toNat := rfl
        have k9 := l_mins (D := D) (d := d) (hl := hl) (n := n.toNatClampNeg) (m0 := (hi 5 1).toNatClampNeg) hX h (z_of hm0.1) (by omega) n.toNatClampNeg 0 (Nat.zero_add _)
        have e9 : n = nI n.toNatClampNeg := z_of zn.1
        rw [← e9] at k9
        have hspec : cMinutes hi nb ns n = (nI (cMins hi nb ns (hi 5 1).toNatClampNeg n.toNatClampNeg).1, (cMins hi nb ns (hi 5 1).toNatClampNeg n.toNatClampNeg).2) := by
          unfold cMinutes
          rw [if_neg (by rw [c6]; decide), if_neg c18, if_pos c35]
        rw [hspec]
        exact k9
      · refine cm_bipush (pc := 38) (v := -2) dX6_minutes_38 (by decide) ?_
        exact cm_iret (pc := 40) dX6_minutes_40 rfl ⟨by first | rfl | (simp [cMinutes, *]; done), by first | rfl | (simp [cMinutes, *]; done)⟩
    · refine cm_bipush (pc := 21) (v := -4) dX6_minutes_21 (by decide) ?_
      exact cm_iret (pc := 23) dX6_minutes_23 rfl ⟨by first | rfl | (simp [cMinutes, *]; done), by first | rfl | (simp [cMinutes, *]; done)⟩
  · refine cm_iconst (pc := 9) (v := -1) dX6_minutes_9 (by decide) ?_
    exact cm_iret (pc := 10) dX6_minutes_10 rfl ⟨by first | rfl | (simp [cMinutes, *]; done), by first | rfl | (simp [cMinutes, *]; done)⟩
set_option maxRecDepth 20000 in
theorem k_undo (hX : cm_cls sh hr) {n : Int32} (hm0 : 0 ≤ (hi 5 1).toInt ∧ (hi 5 1).toInt ≤ 60) (hf : 0 ≤ (hi 17 1).toInt) : cm_ct D mX6_undo (d + 2) 0 0 [.ref 2, .int n] (sh, hi, hl, hr) (fun r9 h9 => ∃ H, h9 = (sh, H, hl, hr) ∧ (if n < hi 17 1 ∨ ¬ n ≤ hi 5 1 then r9 = some (.int (-1)) ∧ H = hi else r9 = some (.int (hi 5 1 - n)) ∧ (if hi 5 1 - n ≤ 0 then H = hi else gbOk hi H 5 n.toNatClampNeg))) := by
  refine cm_ct_of (ls := [some (.ref 2), some (.int n), none]) 1 (by decide +kernel) rfl rfl ?_
  refine cm_iload1 (pc := 0) dX6_undo_0 ?_
  refine cm_aload0 (pc := 1) dX6_undo_1 ?_
  refine cm_getR (pc := 2) flX6_32 dX6_undo_2 hX.ox hX.r4 ?_
  refine cm_V0 (pc := 5) mX1_first_v mlX6_188 dX6_undo_5 hX.oh (by omega) (Nat.le_of_ble_eq_true rfl) (Nat.le_refl _) (Nat.le_refl _) (k_first (d := d + 1) hX) (fun r5 h5 hq5 => ?_)
  obtain ⟨rfl, rfl⟩ := hq5
  refine cm_icmp_lt (pc := 8) (tgt := 22) dX6_undo_8 (by decide) (fun c8 => ?_) (fun c8 => ?_)
  · refine cm_iconst (pc := 22) (v := -1) dX6_undo_22 (by decide) ?_
    exact cm_iret (pc := 23) dX6_undo_23 rfl ⟨hi, rfl, by simp [*]⟩
  · refine cm_iload1 (pc := 11) dX6_undo_11 ?_
    refine cm_aload0 (pc := 12) dX6_undo_12 ?_
    refine cm_getR (pc := 13) flX6_21 dX6_undo_13 hX.ox hX.r2 ?_
    refine cm_getI (pc := 16) flX6_126 dX6_undo_16 hX.mp.1 ?_
    refine cm_icmp_le (pc := 19) (tgt := 24) dX6_undo_19 (by decide) (fun c19 => ?_) (fun c19 => ?_)
    · refine cm_aload0 (pc := 24) dX6_undo_24 ?_
      refine cm_getR (pc := 25) flX6_21 dX6_undo_25 hX.ox hX.r2 ?_
      refine cm_getI (pc := 28) flX6_126 dX6_undo_28 hX.mp.1 ?_
      refine cm_iload1 (pc := 31) dX6_undo_31 ?_
      refine cm_isub (pc := 32) dX6_undo_32 ?_
      refine cm_istore2 (pc := 33) dX6_undo_33 (by decide) rfl ?_
      refine cm_iload2 (pc := 34) dX6_undo_34 ?_
      refine cm_if_le (pc := 35) (tgt := 50) dX6_undo_35 (by decide) (fun c35 => ?_) (fun c35 => ?_)
      · refine cm_iload2 (pc := 50) dX6_undo_50 ?_
        exact cm_iret (pc := 51) dX6_undo_51 rfl ⟨hi, rfl, by rw [if_neg (by intro w; rcases w with w | w; exact c8 w; exact w c19)]; exact ⟨rfl, by rw [if_pos c35]⟩⟩
      · refine cm_aload0 (pc := 38) dX6_undo_38 ?_
        refine cm_getR (pc := 39) flX6_32 dX6_undo_39 hX.ox hX.r4 ?_
        refine cm_aload0 (pc := 42) dX6_undo_42 ?_
        refine cm_getR (pc := 43) flX6_21 dX6_undo_43 hX.ox hX.r2 ?_
        refine cm_iload1 (pc := 46) dX6_undo_46 ?_
        have c8z := Int32.not_lt.mp c8
        rw [Int32.le_iff_toInt_le] at c8z
        have c19z := Int32.le_iff_toInt_le.mp c19
        have e9 := z_of (x := n) (by omega)
        have c35z : 0 < (hi 5 1 - n).toInt := by
          have := Int32.not_le.mp c35
          rw [Int32.lt_iff_toInt_lt] at this
          exact this
        rw [zsub (by omega)] at c35z
        generalize hnn : n.toInt.toNat = q9 at *
        have hq60 : q9 < 60 := by omega
        subst e9
        have hqc : (nI q9).toNatClampNeg = q9 := nI_clamp (by omega)
        refine cm_V2 (pc := 47) mX1_goBack_v mlX6_191 dX6_undo_47 hX.oh (by omega) (Nat.le_of_ble_eq_true rfl) (Nat.le_refl _) (Nat.le_refl _) (k_goBack (d := d) hX hX.mp (by decide) hq60) (fun r47 h47 hq47 => ?_)
        obtain ⟨rfl, H47, rfl, t47⟩ := hq47
        refine cm_iload2 (pc := 50) dX6_undo_50 ?_
        exact cm_iret (pc := 51) dX6_undo_51 rfl ⟨H47, rfl, by rw [if_neg (by intro w; rcases w with w | w; exact c8 w; exact w c19)]; exact ⟨rfl, by rw [if_neg c35, hqc]; exact t47⟩⟩
    · refine cm_iconst (pc := 22) (v := -1) dX6_undo_22 (by decide) ?_
      exact cm_iret (pc := 23) dX6_undo_23 rfl ⟨hi, rfl, by simp [*]⟩
set_option maxRecDepth 20000 in
theorem k_turn (hX : cm_cls sh hr) {way : Int32} (h : mOk (cm_sf hi 5) nb ns) : cm_ct D mX6_turn (d + 2) 0 0 [.ref 2, .int way] (sh, hi, hl, hr) (fun r9 h9 => r9 = some (.int (cTurn hi nb way).1) ∧ h9 = (sh, (cTurn hi nb way).2, hl, hr)) := by
  have hnb := h.1.2.1
  have hns := h.1.2.2.2
  refine cm_ct_of (ls := [some (.ref 2), some (.int way)]) 0 (by decide +kernel) rfl rfl ?_
  refine cm_iload1 (pc := 0) dX6_turn_0 ?_
  refine cm_if_eq (pc := 1) (tgt := 11) dX6_turn_1 (by decide) (fun c1 => ?_) (fun c1 => ?_)
  · refine cm_aload0 (pc := 11) dX6_turn_11 ?_
    refine cm_getR (pc := 12) flX6_21 dX6_turn_12 hX.ox hX.r2 ?_
    refine cm_getI (pc := 15) flX6_136 dX6_turn_15 hX.mp.1 ?_
    refine cm_if_ne (pc := 18) (tgt := 24) dX6_turn_18 (by decide) (fun c18 => ?_) (fun c18 => ?_)
    · refine cm_aload0 (pc := 24) dX6_turn_24 ?_
      refine cm_getR (pc := 25) flX6_21 dX6_turn_25 hX.ox hX.r2 ?_
      refine cm_iload1 (pc := 28) dX6_turn_28 ?_
      refine cm_if_ne (pc := 29) (tgt := 36) dX6_turn_29 (by decide) (fun c29 => ?_) (fun c29 => ?_)
      · exact absurd c1 c29
      · refine cm_iconst (pc := 32) (v := -1) dX6_turn_32 (by decide) ?_
        refine cm_goto (pc := 33) (tgt := 37) dX6_turn_33 (by decide) ?_
        refine cm_V1 (pc := 37) mX2_shiftAll_v mlX6_195 dX6_turn_37 hX.mp.1 (by omega) (Nat.le_of_ble_eq_true rfl) (Nat.le_refl _) (Nat.le_refl _) (cm_ct_us 5 (k_shiftAll (d := d) hX.mp (show cm_sf hi 5 0 3 = nI nb from h.1.1) hnb)) (fun r37 h37 hq37 => ?_)
        obtain ⟨rfl, rfl⟩ := hq37
        
        refine cm_ifeqB (pc := 40) (tgt := 47) dX6_turn_40 (by decide) (fun c40 => ?_) (fun c40 => ?_)
        · refine cm_iconst (pc := 47) (v := 0) dX6_turn_47 (by decide) ?_
          exact cm_iret (pc := 48) dX6_turn_48 rfl ⟨by simp [cTurn, cm_bi, *], by simp [cTurn, cm_us_sf, *]⟩
        · refine cm_iconst (pc := 43) (v := 1) dX6_turn_43 (by decide) ?_
          refine cm_goto (pc := 44) (tgt := 48) dX6_turn_44 (by decide) ?_
          exact cm_iret (pc := 48) dX6_turn_48 rfl ⟨by simp [cTurn, cm_bi, *], by simp [cTurn, cm_us_sf, *]⟩
    · refine cm_bipush (pc := 21) (v := -4) dX6_turn_21 (by decide) ?_
      exact cm_iret (pc := 23) dX6_turn_23 rfl ⟨by simp [cTurn, *], by simp [cTurn, *]⟩
  · refine cm_iload1 (pc := 4) dX6_turn_4 ?_
    refine cm_iconst (pc := 5) (v := 1) dX6_turn_5 (by decide) ?_
    refine cm_icmp_eq (pc := 6) (tgt := 11) dX6_turn_6 (by decide) (fun c6 => ?_) (fun c6 => ?_)
    · refine cm_aload0 (pc := 11) dX6_turn_11 ?_
      refine cm_getR (pc := 12) flX6_21 dX6_turn_12 hX.ox hX.r2 ?_
      refine cm_getI (pc := 15) flX6_136 dX6_turn_15 hX.mp.1 ?_
      refine cm_if_ne (pc := 18) (tgt := 24) dX6_turn_18 (by decide) (fun c18 => ?_) (fun c18 => ?_)
      · refine cm_aload0 (pc := 24) dX6_turn_24 ?_
        refine cm_getR (pc := 25) flX6_21 dX6_turn_25 hX.ox hX.r2 ?_
        refine cm_iload1 (pc := 28) dX6_turn_28 ?_
        refine cm_if_ne (pc := 29) (tgt := 36) dX6_turn_29 (by decide) (fun c29 => ?_) (fun c29 => ?_)
        · refine cm_iconst (pc := 36) (v := 1) dX6_turn_36 (by decide) ?_
          refine cm_V1 (pc := 37) mX2_shiftAll_v mlX6_195 dX6_turn_37 hX.mp.1 (by omega) (Nat.le_of_ble_eq_true rfl) (Nat.le_refl _) (Nat.le_refl _) (cm_ct_us 5 (k_shiftAll (d := d) hX.mp (show cm_sf hi 5 0 3 = nI nb from h.1.1) hnb)) (fun r37 h37 hq37 => ?_)
          obtain ⟨rfl, rfl⟩ := hq37
          
          refine cm_ifeqB (pc := 40) (tgt := 47) dX6_turn_40 (by decide) (fun c40 => ?_) (fun c40 => ?_)
          · refine cm_iconst (pc := 47) (v := 0) dX6_turn_47 (by decide) ?_
            exact cm_iret (pc := 48) dX6_turn_48 rfl ⟨by simp [cTurn, cm_bi, *], by simp [cTurn, cm_us_sf, *]⟩
          · refine cm_iconst (pc := 43) (v := 1) dX6_turn_43 (by decide) ?_
            refine cm_goto (pc := 44) (tgt := 48) dX6_turn_44 (by decide) ?_
            exact cm_iret (pc := 48) dX6_turn_48 rfl ⟨by simp [cTurn, cm_bi, *], by simp [cTurn, cm_us_sf, *]⟩
        · exact absurd (c29.symm.trans c6) (by decide)
      · refine cm_bipush (pc := 21) (v := -4) dX6_turn_21 (by decide) ?_
        exact cm_iret (pc := 23) dX6_turn_23 rfl ⟨by simp [cTurn, *], by simp [cTurn, *]⟩
    · refine cm_iconst (pc := 9) (v := -1) dX6_turn_9 (by decide) ?_
      exact cm_iret (pc := 10) dX6_turn_10 rfl ⟨by simp [cTurn, *], by simp [cTurn, *]⟩
set_option maxRecDepth 20000 in
theorem k_shade (hX : cm_cls sh hr) (h : mOk (cm_sf hi 5) nb ns) : cm_ct D mX6_shade (d + 2) 0 0 [.ref 2] (sh, hi, hl, hr) (fun r9 h9 => r9 = some (.int (cShade hi nb).1) ∧ h9 = (sh, (cShade hi nb).2, hl, hr)) := by
  have hnb := h.1.2.1
  have hns := h.1.2.2.2
  refine cm_ct_of (ls := [some (.ref 2)]) 0 (by decide +kernel) rfl rfl ?_
  refine cm_aload0 (pc := 0) dX6_shade_0 ?_
  refine cm_getR (pc := 1) flX6_21 dX6_shade_1 hX.ox hX.r2 ?_
  refine cm_getI (pc := 4) flX6_136 dX6_shade_4 hX.mp.1 ?_
  refine cm_if_ne (pc := 7) (tgt := 13) dX6_shade_7 (by decide) (fun c7 => ?_) (fun c7 => ?_)
  · refine cm_aload0 (pc := 13) dX6_shade_13 ?_
    refine cm_aload0 (pc := 14) dX6_shade_14 ?_
    refine cm_getR (pc := 15) flX6_21 dX6_shade_15 hX.ox hX.r2 ?_
    refine cm_getR (pc := 18) flX6_161 dX6_shade_18 hX.mp.1 hX.mp.r9 ?_
    refine cm_iconst (pc := 21) (v := 0) dX6_shade_21 (by decide) ?_
    refine cm_ialE (pc := 22) (0) dX6_shade_22 hX.mp.a6 rfl (by omega) (by decide) ?_
    refine cm_aload0 (pc := 23) dX6_shade_23 ?_
    refine cm_getR (pc := 24) flX6_21 dX6_shade_24 hX.ox hX.r2 ?_
    refine cm_V0 (pc := 27) mX2_sun_v mlX6_198 dX6_shade_27 hX.mp.1 (by omega) (Nat.le_of_ble_eq_true rfl) (Nat.le_refl _) (Nat.le_refl _) (cm_ct_us 5 (k_sun (d := d + 1) hX.mp)) (fun r27 h27 hq27 => ?_)
    obtain ⟨rfl, rfl⟩ := hq27
    rw [cm_us_sf]
    refine cm_iadd (pc := 30) dX6_shade_30 ?_
    refine cm_putI (pc := 31) fpX6_201 dX6_shade_31 hX.ox ?_
    refine cm_memG (fun G31 e31 f31 => ?_)
    refine cm_aload0 (pc := 34) dX6_shade_34 ?_
    refine cm_getR (pc := 35) flX6_21 dX6_shade_35 hX.ox hX.r2 ?_
    refine cm_V0 (pc := 38) mX2_lastSpot_v mlX6_204 dX6_shade_38 hX.mp.1 (by omega) (Nat.le_of_ble_eq_true rfl) (Nat.le_refl _) (Nat.le_refl _) (cm_ct_us 5 (k_lastSpot (d := d + 1) hX.mp (show cm_sf G31 5 0 3 = nI nb by show G31 5 3 = nI nb; rw [e31 5 (by decide)]; exact h.1.1) hnb)) (fun r38 h38 hq38 => ?_)
    obtain ⟨rfl, rfl⟩ := hq38
    rw [cm_us_sf]
    refine cm_aload0 (pc := 41) dX6_shade_41 ?_
    refine cm_getR (pc := 42) flX6_21 dX6_shade_42 hX.ox hX.r2 ?_
    refine cm_getR (pc := 45) flX6_161 dX6_shade_45 hX.mp.1 hX.mp.r9 ?_
    refine cm_iconst (pc := 48) (v := 0) dX6_shade_48 (by decide) ?_
    refine cm_ialE (pc := 49) (0) dX6_shade_49 hX.mp.a6 rfl (by omega) (by decide) ?_
    refine cm_isub (pc := 50) dX6_shade_50 ?_
    refine cm_iconst (pc := 51) (v := 1) dX6_shade_51 (by decide) ?_
    refine cm_iadd (pc := 52) dX6_shade_52 ?_
    exact cm_iret (pc := 53) dX6_shade_53 rfl ⟨by
      unfold cShade
      rw [if_neg c7, e31 11 (by decide), show mLastSpot (cm_sf G31 5) nb = mLastSpot (cP hi) nb by unfold mLastSpot; rw [show cm_sf G31 5 6 = cP hi 6 from e31 11 (by decide)]], by
      unfold cShade
      rw [if_neg c7]
      rw [show G31 = kTell hi (hi 11 0 + mSun (cP hi)) from upG e31 f31]⟩
  · refine cm_bipush (pc := 10) (v := -4) dX6_shade_10 (by decide) ?_
    exact cm_iret (pc := 12) dX6_shade_12 rfl ⟨by simp [cShade, *], by simp [cShade, *]⟩
set_option maxRecDepth 20000 in
theorem k_shaded (hX : cm_cls sh hr) (h : mOk (cm_sf hi 5) nb ns) : cm_ct D mX6_shaded (d + 3) 0 0 [.ref 2] (sh, hi, hl, hr) (fun r9 h9 => r9 = some (.int (mShs (cP hi) nb (mSun (cP hi)) ns)) ∧ h9 = (sh, hi, hl, hr)) := by
  have hnb := h.1.2.1
  have hns := h.1.2.2.2
  refine cm_ct_of (ls := [some (.ref 2)]) 0 (by decide +kernel) rfl rfl ?_
  refine cm_aload0 (pc := 0) dX6_shaded_0 ?_
  refine cm_getR (pc := 1) flX6_21 dX6_shaded_1 hX.ox hX.r2 ?_
  refine cm_aload0 (pc := 4) dX6_shaded_4 ?_
  refine cm_getR (pc := 5) flX6_21 dX6_shaded_5 hX.ox hX.r2 ?_
  refine cm_V0 (pc := 8) mX2_sun_v mlX6_198 dX6_shaded_8 hX.mp.1 (by omega) (Nat.le_of_ble_eq_true rfl) (Nat.le_refl _) (Nat.le_refl _) (cm_ct_us 5 (k_sun (d := d + 2) hX.mp)) (fun r8 h8 hq8 => ?_)
  obtain ⟨rfl, rfl⟩ := hq8
  rw [cm_us_sf]
  refine cm_V1 (pc := 11) mX2_stallsShaded_v mlX6_207 dX6_shaded_11 hX.mp.1 (by omega) (Nat.le_of_ble_eq_true rfl) (Nat.le_refl _) (Nat.le_refl _) (cm_ct_us 5 (k_stallsShaded (d := d) hX.mp (show cm_sf hi 5 0 2 = nI ns from h.1.2.2.1) hns (show cm_sf hi 5 0 3 = nI nb from h.1.1) hnb)) (fun r11 h11 hq11 => ?_)
  obtain ⟨rfl, rfl⟩ := hq11
  rw [cm_us_sf]
  exact cm_iret (pc := 14) dX6_shaded_14 rfl ⟨rfl, rfl⟩
set_option maxRecDepth 20000 in
theorem k_keep (hX : cm_cls sh hr) {k : Int32} : cm_ct D mX6_keep (d + 2) 0 0 [.ref 2, .int k] (sh, hi, hl, hr) (fun r9 h9 => ∃ H, h9 = (sh, H, hl, hr) ∧ (if isW k 3 = false then r9 = some (.int (-1)) ∧ H = hi else if hi 5 3 = 0 then r9 = some (.int (-4)) ∧ H = hi else r9 = some (.int (hi 5 1)) ∧ tkOk hi (81 + 11 * k.toNatClampNeg) 5 H)) := by
  refine cm_ct_of (ls := [some (.ref 2), some (.int k)]) 0 (by decide +kernel) rfl rfl ?_
  refine cm_iload1 (pc := 0) dX6_keep_0 ?_
  refine cm_iconst (pc := 1) (v := 3) dX6_keep_1 (by decide) ?_
  refine cm_S2 (pc := 2) mX6_isWithin_s mlX6_64 dX6_keep_2 (by omega) (Nat.le_of_ble_eq_true rfl) (Nat.le_refl _) (Nat.le_refl _) (k_isWithin (d := d + 1) ) (fun r2 h2 hq2 => ?_)
  obtain ⟨rfl, rfl⟩ := hq2
  refine cm_ifneB (pc := 5) (tgt := 10) dX6_keep_5 (by decide) (fun c5 => ?_) (fun c5 => ?_)
  · obtain ⟨j, hj, rfl⟩ := isW_ex 3 c5
    have hjc : (nI j).toNatClampNeg = j := nI_clamp (by omega)
    have hK := (hX.kpt j hj).2
    refine cm_aload0 (pc := 10) dX6_keep_10 ?_
    refine cm_getR (pc := 11) flX6_21 dX6_keep_11 hX.ox hX.r2 ?_
    refine cm_getI (pc := 14) flX6_136 dX6_keep_14 hX.mp.1 ?_
    refine cm_if_ne (pc := 17) (tgt := 23) dX6_keep_17 (by decide) (fun c17 => ?_) (fun c17 => ?_)
    · refine cm_aload0 (pc := 23) dX6_keep_23 ?_
      refine cm_getR (pc := 24) flX6_25 dX6_keep_24 hX.ox hX.r3 ?_
      refine cm_iload1 (pc := 27) dX6_keep_27 ?_
      refine cm_aal3 (pc := 28) dX6_keep_28 hX.a16 (by omega) (by decide) (hX.kpt j hj).1 ?_
      refine cm_aload0 (pc := 29) dX6_keep_29 ?_
      refine cm_getR (pc := 30) flX6_21 dX6_keep_30 hX.ox hX.r2 ?_
      refine cm_V1 (pc := 33) mX2_take_v mlX6_119 dX6_keep_33 hK.1 (by omega) (Nat.le_of_ble_eq_true rfl) (Nat.le_refl _) (Nat.le_refl _) (k_take (d := d) hK hX.mp (by omega)) (fun r33 h33 hq33 => ?_)
      obtain ⟨rfl, H33, rfl, t33⟩ := hq33
      refine cm_aload0 (pc := 36) dX6_keep_36 ?_
      refine cm_getR (pc := 37) flX6_21 dX6_keep_37 hX.ox hX.r2 ?_
      refine cm_getI (pc := 40) flX6_126 dX6_keep_40 hX.mp.1 ?_
      exact cm_iret (pc := 43) dX6_keep_43 rfl ⟨H33, rfl, by rw [if_neg (by rw [c5]; decide), if_neg c17, hjc, t33.1 5 (by omega)]; exact ⟨rfl, t33⟩⟩
    · refine cm_bipush (pc := 20) (v := -4) dX6_keep_20 (by decide) ?_
      exact cm_iret (pc := 22) dX6_keep_22 rfl ⟨hi, rfl, by simp [*]⟩
  · refine cm_iconst (pc := 8) (v := -1) dX6_keep_8 (by decide) ?_
    exact cm_iret (pc := 9) dX6_keep_9 rfl ⟨hi, rfl, by simp [*]⟩
set_option maxRecDepth 20000 in
theorem k_isKept (hX : cm_cls sh hr) {j : Nat} (hj : j < 3) : cm_ct D mX6_isKept d 0 0 [.ref 2, .int (nI j)] (sh, hi, hl, hr) (fun r9 h9 => r9 = some (.int (cm_bi (decide (0 < hi (81 + 11 * j) 3)))) ∧ h9 = (sh, hi, hl, hr)) := by
  have hK := (hX.kpt j hj).2
  refine cm_ct_of (ls := [some (.ref 2), some (.int (nI j))]) 0 (by decide +kernel) rfl rfl ?_
  refine cm_aload0 (pc := 0) dX6_isKept_0 ?_
  refine cm_getR (pc := 1) flX6_25 dX6_isKept_1 hX.ox hX.r3 ?_
  refine cm_iload1 (pc := 4) dX6_isKept_4 ?_
  refine cm_aal3 (pc := 5) dX6_isKept_5 hX.a16 (by omega) (by decide) (hX.kpt j hj).1 ?_
  refine cm_getI (pc := 6) flX6_136 dX6_isKept_6 hK.1 ?_
  refine cm_if_le (pc := 9) (tgt := 16) dX6_isKept_9 (by decide) (fun c9 => ?_) (fun c9 => ?_)
  · have q9 : ¬ 0 < hi (81 + 11 * j) 3 := Int32.not_lt.mpr c9
    refine cm_iconst (pc := 16) (v := 0) dX6_isKept_16 (by decide) ?_
    exact cm_zret (pc := 17) dX6_isKept_17 rfl rfl ⟨by simp [cm_bi, q9], rfl⟩
  · have q9 : 0 < hi (81 + 11 * j) 3 := Int32.not_le.mp c9
    refine cm_iconst (pc := 12) (v := 1) dX6_isKept_12 (by decide) ?_
    refine cm_goto (pc := 13) (tgt := 17) dX6_isKept_13 (by decide) ?_
    exact cm_zret (pc := 17) dX6_isKept_17 rfl rfl ⟨by simp [cm_bi, q9], rfl⟩
set_option maxRecDepth 20000 in
theorem k_on (hX : cm_cls sh hr) {k : Int32} : cm_ct D mX6_on (d + 2) 0 0 [.ref 2, .int k] (sh, hi, hl, hr) (fun r9 h9 => ∃ H, h9 = (sh, H, hl, hr) ∧ (if isW k 3 = false then r9 = some (.int (-1)) ∧ H = hi else if 0 < hi (81 + 11 * k.toNatClampNeg) 3 then (∃ H0, tkOk hi 5 (81 + 11 * k.toNatClampNeg) H0 ∧ (∀ c, c ≠ 17 → H c = H0 c) ∧ H 17 = upd (H0 17) 1 (H0 5 1) ∧ r9 = some (.int (H0 5 1))) else r9 = some (.int (-3)) ∧ H = kRef hi 1)) := by
  refine cm_ct_of (ls := [some (.ref 2), some (.int k)]) 0 (by decide +kernel) rfl rfl ?_
  refine cm_iload1 (pc := 0) dX6_on_0 ?_
  refine cm_iconst (pc := 1) (v := 3) dX6_on_1 (by decide) ?_
  refine cm_S2 (pc := 2) mX6_isWithin_s mlX6_64 dX6_on_2 (by omega) (Nat.le_of_ble_eq_true rfl) (Nat.le_refl _) (Nat.le_refl _) (k_isWithin (d := d + 1) ) (fun r2 h2 hq2 => ?_)
  obtain ⟨rfl, rfl⟩ := hq2
  refine cm_ifneB (pc := 5) (tgt := 10) dX6_on_5 (by decide) (fun c5 => ?_) (fun c5 => ?_)
  · obtain ⟨j, hj, rfl⟩ := isW_ex 3 c5
    have hjc : (nI j).toNatClampNeg = j := nI_clamp (by omega)
    have hK := (hX.kpt j hj).2
    refine cm_aload0 (pc := 10) dX6_on_10 ?_
    refine cm_iload1 (pc := 11) dX6_on_11 ?_
    refine cm_V1 (pc := 12) mX6_isKept_v mlX6_210 dX6_on_12 hX.ox (by omega) (Nat.le_of_ble_eq_true rfl) (Nat.le_refl _) (Nat.le_refl _) (k_isKept (d := d + 1) hX hj) (fun r12 h12 hq12 => ?_)
    obtain ⟨rfl, rfl⟩ := hq12
    refine cm_ifneB (pc := 15) (tgt := 24) dX6_on_15 (by decide) (fun c15 => ?_) (fun c15 => ?_)
    · have q15 := of_decide_eq_true c15
      refine cm_aload0 (pc := 24) dX6_on_24 ?_
      refine cm_getR (pc := 25) flX6_21 dX6_on_25 hX.ox hX.r2 ?_
      refine cm_aload0 (pc := 28) dX6_on_28 ?_
      refine cm_getR (pc := 29) flX6_25 dX6_on_29 hX.ox hX.r3 ?_
      refine cm_iload1 (pc := 32) dX6_on_32 ?_
      refine cm_aal3 (pc := 33) dX6_on_33 hX.a16 (by omega) (by decide) (hX.kpt j hj).1 ?_
      refine cm_V1 (pc := 34) mX2_take_v mlX6_119 dX6_on_34 hX.mp.1 (by omega) (Nat.le_of_ble_eq_true rfl) (Nat.le_refl _) (Nat.le_refl _) (k_take (d := d) hX.mp hK (by omega)) (fun r34 h34 hq34 => ?_)
      obtain ⟨rfl, H34, rfl, t34⟩ := hq34
      refine cm_aload0 (pc := 37) dX6_on_37 ?_
      refine cm_getR (pc := 38) flX6_32 dX6_on_38 hX.ox hX.r4 ?_
      refine cm_aload0 (pc := 41) dX6_on_41 ?_
      refine cm_getR (pc := 42) flX6_21 dX6_on_42 hX.ox hX.r2 ?_
      refine cm_getI (pc := 45) flX6_126 dX6_on_45 hX.mp.1 ?_
      refine cm_V1 (pc := 48) mX1_beginAt_v mlX6_130 dX6_on_48 hX.oh (by omega) (Nat.le_of_ble_eq_true rfl) (Nat.le_refl _) (Nat.le_refl _) (k_beginAt (d := d + 1) hX) (fun r48 h48 hq48 => ?_)
      obtain ⟨rfl, H48, rfl, e48, f48⟩ := hq48
      refine cm_aload0 (pc := 51) dX6_on_51 ?_
      refine cm_getR (pc := 52) flX6_21 dX6_on_52 hX.ox hX.r2 ?_
      refine cm_getI (pc := 55) flX6_126 dX6_on_55 hX.mp.1 ?_
      exact cm_iret (pc := 58) dX6_on_58 rfl ⟨H48, rfl, by rw [if_neg (by rw [c5]; decide), hjc, if_pos q15]; exact ⟨H34, t34, e48, f48, by rw [e48 5 (by decide)]⟩⟩
    · have q15 := of_decide_eq_false c15
      refine cm_aload0 (pc := 18) dX6_on_18 ?_
      refine cm_iconst (pc := 19) (v := 1) dX6_on_19 (by decide) ?_
      refine cm_V1 (pc := 20) mX6_refuse_v mlX6_68 dX6_on_20 hX.ox (by omega) (Nat.le_of_ble_eq_true rfl) (Nat.le_refl _) (Nat.le_refl _) (k_refuse (d := d + 1) hX (f := 1) (by decide)) (fun r20 h20 hq20 => ?_)
      obtain ⟨rfl, rfl⟩ := hq20
      exact cm_iret (pc := 23) dX6_on_23 rfl ⟨_, rfl, by rw [if_neg (by rw [c5]; decide), hjc, if_neg q15]; exact ⟨rfl, rfl⟩⟩
  · refine cm_iconst (pc := 8) (v := -1) dX6_on_8 (by decide) ?_
    exact cm_iret (pc := 9) dX6_on_9 rfl ⟨hi, rfl, by simp [*]⟩
set_option maxRecDepth 20000 in
theorem k_fault (hX : cm_cls sh hr) {t : Int32} (hI : cInv hi) : cm_ct D mX6_fault (d + 8) 0 0 [.ref 2, .int t] (sh, hi, hl, hr) (fun r9 h9 => ∃ H hr9, h9 = (sh, H, hl, hr9) ∧ hrOk hr hr9 ∧ (if isW t 4 = false then r9 = some (.int (-1)) ∧ H = hi else if hi (sT t) 1 = -1 then r9 = some (.int (-3)) ∧ H = kRef hi 1 else (∀ c, c < 19 ∨ 30 < c → H c = hi c) ∧ rFin (hi (sT t) 1).toNatClampNeg H r9 (pRun (pC (hi (sT t + 1)) (hi (sT t) 1).toNatClampNeg) (hi (sT t) 1).toNatClampNeg (hi (sT t) 1).toNatClampNeg 0 pA0))) := by
  refine cm_ct_of (ls := [some (.ref 2), some (.int t)]) 0 (by decide +kernel) rfl rfl ?_
  refine cm_iload1 (pc := 0) dX6_fault_0 ?_
  refine cm_iconst (pc := 1) (v := 4) dX6_fault_1 (by decide) ?_
  refine cm_S2 (pc := 2) mX6_isWithin_s mlX6_64 dX6_fault_2 (by omega) (Nat.le_of_ble_eq_true rfl) (Nat.le_refl _) (Nat.le_refl _) (k_isWithin (d := d + 7) ) (fun r2 h2 hq2 => ?_)
  obtain ⟨rfl, rfl⟩ := hq2
  refine cm_ifneB (pc := 5) (tgt := 10) dX6_fault_5 (by decide) (fun c5 => ?_) (fun c5 => ?_)
  · obtain ⟨j, hj, rfl⟩ := isW_ex 4 c5
    have hjc : (nI j).toNatClampNeg = j := nI_clamp (by omega)
    have hS := (hX.txt j hj).2
    have zS := hI.2 j hj
    refine cm_aload0 (pc := 10) dX6_fault_10 ?_
    refine cm_getR (pc := 11) flX6_15 dX6_fault_11 hX.ox hX.r1 ?_
    refine cm_iload1 (pc := 14) dX6_fault_14 ?_
    refine cm_aal2 (pc := 15) dX6_fault_15 hX.a4 (by omega) (by decide) (hX.txt j hj).1 ?_
    refine cm_V0 (pc := 16) mX4_isThere_v mlX6_90 dX6_fault_16 hS.1 (by omega) (Nat.le_of_ble_eq_true rfl) (Nat.le_refl _) (Nat.le_refl _) (k_isThere (d := d + 7) hS) (fun r16 h16 hq16 => ?_)
    obtain ⟨rfl, rfl⟩ := hq16
    refine cm_ifneB (pc := 19) (tgt := 28) dX6_fault_19 (by decide) (fun c19 => ?_) (fun c19 => ?_)
    · have q1 : ¬ hi (73 + 2 * j) 1 = -1 := by simpa using c19
      obtain ⟨n, hn80, hz⟩ : ∃ n, n ≤ 80 ∧ hi (73 + 2 * j) 1 = nI n := by
        rcases zS with w | w
        · exact absurd w q1
        · exact w
      refine cm_aload0 (pc := 28) dX6_fault_28 ?_
      refine cm_getR (pc := 29) flX6_39 dX6_fault_29 hX.ox hX.r5 ?_
      refine cm_aload0 (pc := 32) dX6_fault_32 ?_
      refine cm_getR (pc := 33) flX6_15 dX6_fault_33 hX.ox hX.r1 ?_
      refine cm_iload1 (pc := 36) dX6_fault_36 ?_
      refine cm_aal2 (pc := 37) dX6_fault_37 hX.a4 (by omega) (by decide) (hX.txt j hj).1 ?_
      refine cm_V1 (pc := 38) mX3_read_v mlX6_112 dX6_fault_38 hX.od (by omega) (Nat.le_of_ble_eq_true rfl) (Nat.le_refl _) (Nat.le_refl _) (k_read (d := d) (n := n) (f := hi (73 + 2 * j + 1)) hX hS (by omega) ⟨hz, rfl⟩ hn80) (fun r38 h38 hq38 => ?_)
      obtain ⟨H38, hr38, rfl, k38, F38, R38⟩ := hq38
      have hnc : (hi (73 + 2 * j) 1).toNatClampNeg = n := by rw [hz]; exact nI_clamp (by omega)
      cases hpr : pRun (pC (hi (73 + 2 * j + 1)) n) n n 0 pA0 with
      | error q =>
        rw [hpr] at R38
        obtain ⟨R1, rfl⟩ := R38
        exact cm_iret (pc := 41) dX6_fault_41 rfl ⟨H38, hr38, rfl, k38, by rw [if_neg (by rw [c5]; decide)]; simp only [sT, hjc]; rw [if_neg q1, hnc, hpr]; exact ⟨F38, R1, rfl⟩⟩
      | ok A =>
        rw [hpr] at R38
        obtain ⟨rfl, R1⟩ := R38
        exact cm_iret (pc := 41) dX6_fault_41 rfl ⟨H38, hr38, rfl, k38, by rw [if_neg (by rw [c5]; decide)]; simp only [sT, hjc]; rw [if_neg q1, hnc, hpr]; exact ⟨F38, rfl, R1⟩⟩
    · have q1 : hi (73 + 2 * j) 1 = -1 := by simpa using c19
      refine cm_aload0 (pc := 22) dX6_fault_22 ?_
      refine cm_iconst (pc := 23) (v := 1) dX6_fault_23 (by decide) ?_
      refine cm_V1 (pc := 24) mX6_refuse_v mlX6_68 dX6_fault_24 hX.ox (by omega) (Nat.le_of_ble_eq_true rfl) (Nat.le_refl _) (Nat.le_refl _) (k_refuse (d := d + 7) hX (f := 1) (by decide)) (fun r24 h24 hq24 => ?_)
      obtain ⟨rfl, rfl⟩ := hq24
      exact cm_iret (pc := 27) dX6_fault_27 rfl ⟨_, hr, rfl, hrOk.rfl', by rw [if_neg (by rw [c5]; decide)]; simp only [sT, hjc]; rw [if_pos q1]; refine ⟨?_, ?_⟩ <;> first | rfl | trivial⟩
  · refine cm_iconst (pc := 8) (v := -1) dX6_fault_8 (by decide) ?_
    exact cm_iret (pc := 9) dX6_fault_9 rfl ⟨hi, hr, rfl, hrOk.rfl', by simp [*]⟩
def mkOk (hi H : cm_g2) (A : pA) : Prop := aRep A (cP H) ∧ tabOk (cP H) A.2.1.1 (cP H 10) 5 0 ∧ H 17 1 = 0 ∧ (∀ k, k < 3 → H (81 + 11 * k) 3 = 0) ∧ (∀ c, c < 5 ∨ c = 16 ∨ c = 18 ∨ (30 < c ∧ c < 81) ∨ 113 < c → H c = hi c)
theorem aRep.congr {A : pA} {g g' : cm_g2} (h : aRep A g') (e : mEq g g') : aRep A g := by
  refine ⟨⟨by rw [e.1 0 (by decide)]; exact h.1.1, by rw [e.1 1 (by decide)]; exact h.1.2.1, by rw [e.1 2 (by decide)]; exact h.1.2.2.1, by rw [e.1 3 (by decide)]; exact h.1.2.2.2.1, h.1.2.2.2.2⟩, fun k hk => ?_, fun i hi => ?_, fun i h0 hi => ?_⟩
  · have h6 : k < 6 := by have := h.1.2.2.2.2.1; omega
    rw [e.2.1 1 (by decide) (by decide) k h6, e.2.1 2 (by decide) (by decide) k h6, e.2.1 3 (by decide) (by decide) k h6, e.2.1 4 (by decide) (by decide) k h6]
    exact h.2.1 k hk
  · have h6 : i < 6 := by have := h.1.2.2.2.2.2; omega
    rw [e.2.1 5 (by decide) (by decide) i h6, e.2.1 6 (by decide) (by decide) i h6, e.2.1 7 (by decide) (by decide) i h6, e.2.1 8 (by decide) (by decide) i h6]
    exact h.2.2.1 i hi
  · have h6 : i < 6 := by have := h.1.2.2.2.2.2; omega
    rw [e.2.1 9 (by decide) (by decide) i h6]
    exact h.2.2.2 i h0 hi
theorem aRep.congr_c {A : pA} {g g' : cm_g2} (h : aRep A g) (e : ∀ c, c < 10 → g' c = g c) : aRep A g' := by
  unfold aRep
  rw [e 0 (by decide), e 1 (by decide), e 2 (by decide), e 3 (by decide), e 4 (by decide), e 5 (by decide), e 6 (by decide), e 7 (by decide), e 8 (by decide), e 9 (by decide)]
  exact h
theorem aRep.tab {A : pA} {g : cm_g2} {T : Nat → Int32} (h : aRep A g) : aRep A (va_up g 10 T) := h.congr_c (fun c hc => va_up_ne _ _ (by omega))

set_option maxRecDepth 20000 in
theorem l_clr {A : pA} {hr9 : Nat → Nat → Option Nat} {t0 : Int32} (hX9 : cm_cls sh hr9) (hk9 : hrOk hr hr9) : ∀ q k : Nat, k + q = 3 → ∀ W : cm_g2, (aRep A (cP W) ∧ tabOk (cP W) A.2.1.1 (cP W 10) 5 0 ∧ W 17 1 = 0 ∧ (∀ j, j < k → W (81 + 11 * j) 3 = 0) ∧ (∀ c, c < 5 ∨ c = 16 ∨ c = 18 ∨ (30 < c ∧ c < 81) ∨ 113 < c → W c = hi c)) → cm_g D mX6_market (d + 8) 0 0 (fun r9 h9 => ∃ H hr9, h9 = (sh, H, hl, hr9) ∧ hrOk hr hr9 ∧ r9 = some (.int (nI A.2.2.1)) ∧ mkOk hi H A) 0 0 86 [some (.ref 2), some (.int t0), some (.int (nI k))] [] (sh, W, hl, hr9) := by
  intro q
  induction q with
  | zero =>
    intro k hk W hW
    have h1 : k = 3 := by omega
    subst h1
    refine cm_iload2 (pc := 86) dX6_market_86 ?_
    refine cm_iconst (pc := 87) (v := 3) dX6_market_87 (by decide) ?_
    refine cm_icmp_ge (pc := 88) (tgt := 106) dX6_market_88 (by decide) (fun c88 => ?_) (fun q => absurd (by decide) q)
    refine cm_aload0 (pc := 106) dX6_market_106 ?_
    refine cm_getR (pc := 107) flX6_21 dX6_market_107 hX9.ox hX9.r2 ?_
    refine cm_getI (pc := 110) flX6_136 dX6_market_110 hX9.mp.1 ?_
    refine cm_top_eq hW.1.1.2.2.2.1 ?_
    exact cm_iret (pc := 113) dX6_market_113 rfl ⟨W, hr9, rfl, hk9, rfl, hW⟩
  | succ q ih =>
    intro k hk W hW
    have hst := ih (k + 1) (by omega)
    have hK := (hX9.kpt k (by omega)).2
    refine cm_iload2 (pc := 86) dX6_market_86 ?_
    refine cm_iconst (pc := 87) (v := 3) dX6_market_87 (by decide) ?_
    refine cm_icmp_ge (pc := 88) (tgt := 106) dX6_market_88 (by decide) (fun q => absurd q (nI_ge (a := k) (b := 3) (by omega) (by omega))) (fun c88 => ?_)
    refine cm_aload0 (pc := 91) dX6_market_91 ?_
    refine cm_getR (pc := 92) flX6_25 dX6_market_92 hX9.ox hX9.r3 ?_
    refine cm_iload2 (pc := 95) dX6_market_95 ?_
    refine cm_aal3 (pc := 96) dX6_market_96 hX9.a16 (by omega) (by decide) (hX9.kpt k (by omega)).1 ?_
    refine cm_V0 (pc := 97) mX2_clear_v mlX6_133 dX6_market_97 hK.1 (by omega) (Nat.le_of_ble_eq_true rfl) (Nat.le_refl _) (Nat.le_refl _) (cm_ct_us (81 + 11 * k) (k_clear (d := d + 7) hK)) (fun r97 h97 hq97 => ?_)
    obtain ⟨rfl, rfl⟩ := hq97
    refine cm_usG (fun G97 e97 f97 => ?_)
    refine cm_incN2 (pc := 100) dX6_market_100 (by decide) rfl ?_
    refine cm_goto (pc := 103) (tgt := 86) dX6_market_103 (by decide) ?_
    have k97 : ∀ c, c ≠ 81 + 11 * k → G97 c = W c := fun c hc => by
      rcases Nat.lt_or_ge c (81 + 11 * k) with q | q
      · exact e97 c q
      · have := f97 (c - (81 + 11 * k))
        rw [show 81 + 11 * k + (c - (81 + 11 * k)) = c by omega, va_up_ne _ _ (by omega)] at this
        rw [this]
        show W (81 + 11 * k + (c - (81 + 11 * k))) = _
        rw [show 81 + 11 * k + (c - (81 + 11 * k)) = c by omega]
    refine hst G97 ⟨hW.1.congr_c (fun c hc => k97 (5 + c) (by omega)), ?_, by rw [k97 17 (by omega)]; exact hW.2.2.1, fun j hj => ?_, fun c hc => by rw [k97 c (by omega)]; exact hW.2.2.2.2 c hc⟩
    · rw [show cP G97 10 = cP W 10 from k97 15 (by omega)]
      exact hW.2.1.g (k97 6 (by omega)) (k97 7 (by omega))
    · by_cases e : j = k
      · subst e
        rw [show G97 (81 + 11 * j) = G97 (81 + 11 * j + 0) from rfl, f97 0]
        simp [va_up, upd]
      · rw [k97 _ (by omega)]
        exact hW.2.2.2.1 j (by omega)
set_option maxRecDepth 20000 in
theorem k_market (hX : cm_cls sh hr) {t : Int32} (hI : cInv hi) : cm_ct D mX6_market (d + 8) 0 0 [.ref 2, .int t] (sh, hi, hl, hr) (fun r9 h9 => ∃ H hr9, h9 = (sh, H, hl, hr9) ∧ hrOk hr hr9 ∧ (if isW t 4 = false then r9 = some (.int (-1)) ∧ H = hi else if hi (sT t) 1 = -1 then r9 = some (.int (-3)) ∧ H = kRef hi 1 else match pRun (pC (hi (sT t + 1)) (hi (sT t) 1).toNatClampNeg) (hi (sT t) 1).toNatClampNeg (hi (sT t) 1).toNatClampNeg 0 pA0 with | .error _ => r9 = some (.int (-4)) ∧ ∀ c, c < 19 ∨ 30 < c → H c = hi c | .ok A => r9 = some (.int (nI A.2.2.1)) ∧ mkOk hi H A)) := by
  refine cm_ct_of (ls := [some (.ref 2), some (.int t), none]) 1 (by decide +kernel) rfl rfl ?_
  refine cm_iload1 (pc := 0) dX6_market_0 ?_
  refine cm_iconst (pc := 1) (v := 4) dX6_market_1 (by decide) ?_
  refine cm_S2 (pc := 2) mX6_isWithin_s mlX6_64 dX6_market_2 (by omega) (Nat.le_of_ble_eq_true rfl) (Nat.le_refl _) (Nat.le_refl _) (k_isWithin (d := d + 7) ) (fun r2 h2 hq2 => ?_)
  obtain ⟨rfl, rfl⟩ := hq2
  refine cm_ifneB (pc := 5) (tgt := 10) dX6_market_5 (by decide) (fun c5 => ?_) (fun c5 => ?_)
  · obtain ⟨j, hj, rfl⟩ := isW_ex 4 c5
    have hjc : (nI j).toNatClampNeg = j := nI_clamp (by omega)
    have hS := (hX.txt j hj).2
    have zS := hI.2 j hj
    refine cm_aload0 (pc := 10) dX6_market_10 ?_
    refine cm_getR (pc := 11) flX6_15 dX6_market_11 hX.ox hX.r1 ?_
    refine cm_iload1 (pc := 14) dX6_market_14 ?_
    refine cm_aal2 (pc := 15) dX6_market_15 hX.a4 (by omega) (by decide) (hX.txt j hj).1 ?_
    refine cm_V0 (pc := 16) mX4_isThere_v mlX6_90 dX6_market_16 hS.1 (by omega) (Nat.le_of_ble_eq_true rfl) (Nat.le_refl _) (Nat.le_refl _) (k_isThere (d := d + 7) hS) (fun r16 h16 hq16 => ?_)
    obtain ⟨rfl, rfl⟩ := hq16
    refine cm_ifneB (pc := 19) (tgt := 28) dX6_market_19 (by decide) (fun c19 => ?_) (fun c19 => ?_)
    · have q1 : ¬ hi (73 + 2 * j) 1 = -1 := by simpa using c19
      obtain ⟨n, hn80, hz⟩ : ∃ n, n ≤ 80 ∧ hi (73 + 2 * j) 1 = nI n := by
        rcases zS with w | w
        · exact absurd w q1
        · exact w
      refine cm_aload0 (pc := 28) dX6_market_28 ?_
      refine cm_getR (pc := 29) flX6_39 dX6_market_29 hX.ox hX.r5 ?_
      refine cm_aload0 (pc := 32) dX6_market_32 ?_
      refine cm_getR (pc := 33) flX6_15 dX6_market_33 hX.ox hX.r1 ?_
      refine cm_iload1 (pc := 36) dX6_market_36 ?_
      refine cm_aal2 (pc := 37) dX6_market_37 hX.a4 (by omega) (by decide) (hX.txt j hj).1 ?_
      refine cm_V1 (pc := 38) mX3_read_v mlX6_112 dX6_market_38 hX.od (by omega) (Nat.le_of_ble_eq_true rfl) (Nat.le_refl _) (Nat.le_refl _) (k_read (d := d) (n := n) (f := hi (73 + 2 * j + 1)) hX hS (by omega) ⟨hz, rfl⟩ hn80) (fun r38 h38 hq38 => ?_)
      obtain ⟨H38, hr38, rfl, k38, F38, R38⟩ := hq38
      have hnc : (hi (73 + 2 * j) 1).toNatClampNeg = n := by rw [hz]; exact nI_clamp (by omega)
      cases hpr : pRun (pC (hi (73 + 2 * j + 1)) n) n n 0 pA0 with
      | error q =>
        rw [hpr] at R38
        obtain ⟨R1, rfl⟩ := R38
        refine cm_bipush (pc := 41) (v := -9) dX6_market_41 (by decide) ?_
        refine cm_icmp_eq (pc := 43) (tgt := 49) dX6_market_43 (by decide) (fun c43 => ?_) (fun c43 => ?_)
        · exact absurd (show wI (some q) = -9 from c43) (wI_ne (by omega))
        · refine cm_bipush (pc := 46) (v := -4) dX6_market_46 (by decide) ?_
          exact cm_iret (pc := 48) dX6_market_48 rfl ⟨H38, hr38, rfl, k38, by rw [if_neg (by rw [c5]; decide)]; simp only [sT, hjc]; rw [if_neg q1, hnc, hpr]; refine ⟨?_, F38⟩; first | rfl | trivial⟩
      | ok A =>
        rw [hpr] at R38
        obtain ⟨rfl, R1⟩ := R38
        refine cm_bipush (pc := 41) (v := -9) dX6_market_41 (by decide) ?_
        refine cm_icmp_eq (pc := 43) (tgt := 49) dX6_market_43 (by decide) (fun _ => ?_) (fun q => absurd rfl q)
        have hX9 := hX.congr k38
        refine cm_aload0 (pc := 49) dX6_market_49 ?_
        refine cm_getR (pc := 50) flX6_21 dX6_market_50 hX9.ox hX9.r2 ?_
        refine cm_aload0 (pc := 53) dX6_market_53 ?_
        refine cm_getR (pc := 54) flX6_39 dX6_market_54 hX9.ox hX9.r5 ?_
        refine cm_getR (pc := 57) flX6_116 dX6_market_57 hX9.od hX9.rd ?_
        refine cm_V1 (pc := 60) mX2_take_v mlX6_119 dX6_market_60 hX9.mp.1 (by omega) (Nat.le_of_ble_eq_true rfl) (Nat.le_refl _) (Nat.le_refl _) (k_take (d := d + 6) hX9.mp hX9.mi (by omega)) (fun r60 h60 hq60 => ?_)
        obtain ⟨rfl, H60, rfl, t60⟩ := hq60
        have a60 : aRep A (cP H60) := R1.congr t60.eq
        refine cm_aload0 (pc := 63) dX6_market_63 ?_
        refine cm_getR (pc := 64) flX6_21 dX6_market_64 hX9.ox hX9.r2 ?_
        refine cm_V0 (pc := 67) mX2_findWays_v mlX6_123 dX6_market_67 hX9.mp.1 (by omega) (Nat.le_of_ble_eq_true rfl) (Nat.le_refl _) (Nat.le_refl _) (cm_ct_us 5 (k_findWays (d := d + 3) hX9.mp (ns := A.2.1.1) a60.1.2.2.1 a60.1.2.2.2.2.1)) (fun r67 h67 hq67 => ?_)
        obtain ⟨rfl, T67, rfl, q67⟩ := hq67
        refine cm_usG (fun G67 e67 f67 => ?_)
        refine cm_aload0 (pc := 70) dX6_market_70 ?_
        refine cm_getR (pc := 71) flX6_32 dX6_market_71 hX9.ox hX9.r4 ?_
        refine cm_aload0 (pc := 74) dX6_market_74 ?_
        refine cm_getR (pc := 75) flX6_21 dX6_market_75 hX9.ox hX9.r2 ?_
        refine cm_getI (pc := 78) flX6_126 dX6_market_78 hX9.mp.1 ?_
        refine cm_V1 (pc := 81) mX1_beginAt_v mlX6_130 dX6_market_81 hX9.oh (by omega) (Nat.le_of_ble_eq_true rfl) (Nat.le_refl _) (Nat.le_refl _) (k_beginAt (d := d + 7) hX9) (fun r81 h81 hq81 => ?_)
        obtain ⟨rfl, H81, rfl, e81, f81⟩ := hq81
        refine cm_iconst (pc := 84) (v := 0) dX6_market_84 (by decide) ?_
        refine cm_istore2 (pc := 85) dX6_market_85 (by decide) rfl ?_
        have p67 : ∀ c, c < 26 → cP H81 c = if c = 12 then H81 17 else va_up (cP H60) 10 T67 c := fun c hc => by
          by_cases e : c = 12
          · subst e; rfl
          · rw [if_neg e]
            show H81 (5 + c) = _
            rw [e81 (5 + c) (by omega), f67 c]
        have p67b : ∀ c, c ≤ 10 → cP H81 c = va_up (cP H60) 10 T67 c := fun c hc => by rw [p67 c (by omega), if_neg (by omega)]
        refine cm_g_imp (fun r9 h9 q => ?_) (l_clr (hi := hi) (A := A) hX9 k38 3 0 (by omega) H81 ⟨a60.tab.congr_c (fun c hc => p67b c (by omega)), ?_, ?_, fun j hj => absurd hj (Nat.not_lt_zero _), fun c hc => ?_⟩)
        · obtain ⟨H, hr9, q1', q2', q3', q4'⟩ := q
          refine ⟨H, hr9, q1', q2', ?_⟩
          rw [if_neg (by rw [c5]; decide)]
          simp only [sT, hjc]
          rw [if_neg q1, hnc, hpr]
          exact ⟨q3', q4'⟩
        · rw [p67b 10 (by decide), va_up_self]
          exact q67.g ((p67b 1 (by decide)).trans (va_up_ne _ _ (by decide))) ((p67b 2 (by decide)).trans (va_up_ne _ _ (by decide)))
        · rw [f81]
          simp only [upd, if_true]
          rw [show G67 5 = G67 (5 + 0) from rfl, f67 0, va_up_ne _ _ (by decide)]
          exact a60.1.2.1
        · rw [e81 c (by omega)]
          rcases Nat.lt_or_ge c 5 with q | q
          · rw [e67 c q, t60.1 c (Or.inl q), F38 c (by omega)]
          · have := f67 (c - 5)
            rw [show 5 + (c - 5) = c by omega, va_up_ne _ _ (by omega)] at this
            rw [this]
            show H60 (5 + (c - 5)) = _
            rw [show 5 + (c - 5) = c by omega, t60.1 c (Or.inr (by omega)), F38 c (by omega)]
    · have q1 : hi (73 + 2 * j) 1 = -1 := by simpa using c19
      refine cm_aload0 (pc := 22) dX6_market_22 ?_
      refine cm_iconst (pc := 23) (v := 1) dX6_market_23 (by decide) ?_
      refine cm_V1 (pc := 24) mX6_refuse_v mlX6_68 dX6_market_24 hX.ox (by omega) (Nat.le_of_ble_eq_true rfl) (Nat.le_refl _) (Nat.le_refl _) (k_refuse (d := d + 7) hX (f := 1) (by decide)) (fun r24 h24 hq24 => ?_)
      obtain ⟨rfl, rfl⟩ := hq24
      exact cm_iret (pc := 27) dX6_market_27 rfl ⟨_, hr, rfl, hrOk.rfl', by rw [if_neg (by rw [c5]; decide)]; simp only [sT, hjc]; rw [if_pos q1]; refine ⟨?_, ?_⟩ <;> first | rfl | trivial⟩
  · refine cm_iconst (pc := 8) (v := -1) dX6_market_8 (by decide) ?_
    exact cm_iret (pc := 9) dX6_market_9 rfl ⟨hi, hr, rfl, hrOk.rfl', by simp [*]⟩
end C2
