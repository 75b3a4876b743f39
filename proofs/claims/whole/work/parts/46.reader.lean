/-! PART reader: the class's reader -/
def rS (hi : cm_g2) (pos : Nat) (w : Option Nat) : Prop := hi 19 2 = nI pos ∧ hi 19 3 = wI w
theorem pC_get {g : cm_g2} {n pos : Nat} (hz : g 0 1 = nI n) (hn : n ≤ 80) (hp : pos ≤ 1000) : stGet g (nI pos) = pC (g 1) n pos := by
  unfold stGet pC
  have e1 : (nI pos).toInt = (pos : Int) := nI_toInt (by omega)
  have e2 : (nI n).toInt = (n : Int) := nI_toInt (by omega)
  by_cases q : pos < n
  · rw [if_pos (isW_z.mpr (by rw [hz, e1, e2]; omega)), if_pos q, nI_clamp (by omega)]
  · rw [if_neg (fun w => by have := isW_z.mp w; rw [hz, e1, e2] at this; omega), if_neg q]
def pKs (x : Int32) : Nat → Nat → Int32
  | 0, _ => -9
  | n + 1, k => if cm_letters k = x then nI k else pKs x n (k + 1)
theorem pKs_6 (x : Int32) : pKs x 6 0 = pKind x := by
  unfold pKind
  simp only [pKs, cm_letters]
  by_cases h0 : x = 98
  · subst h0; rfl
  · rw [if_neg (fun q => h0 q.symm), if_neg h0]
    by_cases h1 : x = 114
    · subst h1; rfl
    · rw [if_neg (fun q => h1 q.symm), if_neg h1]
      by_cases h2 : x = 100
      · subst h2; rfl
      · rw [if_neg (fun q => h2 q.symm), if_neg h2]
        by_cases h3 : x = 99
        · subst h3; rfl
        · rw [if_neg (fun q => h3 q.symm), if_neg h3]
          by_cases h4 : x = 116
          · subst h4; rfl
          · rw [if_neg (fun q => h4 q.symm), if_neg h4]
            by_cases h5 : x = 112
            · subst h5; rfl
            · rw [if_neg (fun q => h5 q.symm), if_neg h5]
theorem z80 {x : Int32} {n : Nat} (h : x = nI n) (hn : n ≤ 80) : x.toInt ≤ (80 : Nat) := by
  rw [h, nI_toInt (by omega)]
  omega
section RD
variable {D : cm_D} {d : Nat} {sh : List cm_Sh} {hi : cm_g2} {hl : Nat → Nat → Int64} {hr : Nat → Nat → Option Nat} {nb ns s n pos : Nat} {w : Option Nat}
set_option maxRecDepth 20000 in
theorem l_kind {x : Int32} {h : cm_H} : ∀ q k : Nat, k + q = 6 → cm_g D mX3_kindOf d 0 0 (fun r9 h9 => r9 = some (.int (pKs x q k)) ∧ h9 = h) 0 0 2 [some (.int x), some (.int (nI k))] [] h := by
  intro q
  induction q with
  | zero =>
    intro k hk
    have h1 : k = 6 := by omega
    subst h1
    refine cm_iload1 (pc := 2) dX3_kindOf_2 ?_
    refine cm_gets (pc := 3) fsX3_73 dX3_kindOf_3 ?_
    refine cm_tlen (pc := 6) dX3_kindOf_6 ?_
    refine cm_icmp_ge (pc := 7) (tgt := 27) dX3_kindOf_7 (by decide) (fun c7 => ?_) (fun q => absurd (by decide) q)
    refine cm_bipush (pc := 27) (v := -9) dX3_kindOf_27 (by decide) ?_
    exact cm_iret (pc := 29) dX3_kindOf_29 rfl ⟨rfl, rfl⟩
  | succ q ih =>
    intro k hk
    have hst := ih (k + 1) (by omega)
    refine cm_iload1 (pc := 2) dX3_kindOf_2 ?_
    refine cm_gets (pc := 3) fsX3_73 dX3_kindOf_3 ?_
    refine cm_tlen (pc := 6) dX3_kindOf_6 ?_
    refine cm_icmp_ge (pc := 7) (tgt := 27) dX3_kindOf_7 (by decide) (fun q => absurd q (nI_ge (a := k) (b := 6) (by omega) (by omega))) (fun c7 => ?_)
    refine cm_gets (pc := 10) fsX3_73 dX3_kindOf_10 ?_
    refine cm_iload1 (pc := 13) dX3_kindOf_13 ?_
    refine cm_tald (pc := 14) dX3_kindOf_14 (vp_in_nI (by omega) (by decide)) ?_
    rw [nI_clamp (by omega)]
    refine cm_iload0 (pc := 15) dX3_kindOf_15 ?_
    refine cm_icmp_ne (pc := 16) (tgt := 21) dX3_kindOf_16 (by decide) (fun c16 => ?_) (fun c16 => ?_)
    · refine cm_incN1 (pc := 21) dX3_kindOf_21 (by decide) rfl ?_
      refine cm_goto (pc := 24) (tgt := 2) dX3_kindOf_24 (by decide) ?_
      rw [show pKs x (q + 1) k = pKs x q (k + 1) from if_neg c16]
      exact hst
    · refine cm_iload1 (pc := 19) dX3_kindOf_19 ?_
      exact cm_iret (pc := 20) dX3_kindOf_20 rfl ⟨by rw [show pKs x (q + 1) k = nI k from if_pos c16], rfl⟩
set_option maxRecDepth 20000 in
theorem k_kindOf {x : Int32} {h : cm_H} : cm_ct D mX3_kindOf d 0 0 [.int x] h (fun r9 h9 => r9 = some (.int (pKind x)) ∧ h9 = h) := by
  refine cm_ct_of (ls := [some (.int x), none]) 1 (by decide +kernel) rfl rfl ?_
  refine cm_iconst (pc := 0) (v := 0) dX3_kindOf_0 (by decide) ?_
  refine cm_istore1 (pc := 1) dX3_kindOf_1 (by decide) rfl ?_
  rw [← pKs_6]
  exact l_kind 6 0 (by omega)
set_option maxRecDepth 20000 in
theorem l_skip (hX : cm_cls sh hr) (hSrc : hr 19 1 = some s) (hS : cm_str sh hr s 80) (h73 : 73 ≤ s) (hz : hi s 1 = nI n) (hn : n ≤ 80) (Z : Nat) : ∀ q k : Nat, k + q = 80 → ∀ (pos : Nat) (H : cm_g2), pos ≤ n → (∀ c, c ≠ 19 → H c = hi c) → rS H pos w → Z = pSkip (pC (hi (s + 1)) n) q pos → cm_g D mX3_skipBlanks (d + 3) 0 0 (fun r9 h9 => r9 = none ∧ ∃ H, h9 = (sh, H, hl, hr) ∧ (∀ c, c ≠ 19 → H c = hi c) ∧ rS H Z w) 0 0 2 [some (.ref 19), some (.int (nI k))] [] (sh, H, hl, hr) := by
  intro q
  induction q with
  | zero =>
    intro k hk pos H hp hF hR hZ
    have h1 : k = 80 := by omega
    subst h1
    refine cm_iload1 (pc := 2) dX3_skipBlanks_2 ?_
    refine cm_bipush (pc := 3) (v := 80) dX3_skipBlanks_3 (by decide) ?_
    refine cm_icmp_ge (pc := 5) (tgt := 40) dX3_skipBlanks_5 (by decide) (fun c5 => ?_) (fun q => absurd (by decide) q)
    exact cm_vret (pc := 40) dX3_skipBlanks_40 rfl ⟨rfl, H, rfl, hF, by rw [hZ]; exact hR⟩
  | succ q ih =>
    intro k hk pos H hp hF hR hZ
    have hst := ih (k + 1) (by omega)
    have hsz : cm_sf H s 0 1 = nI n := by show H s 1 = nI n; rw [hF s (by omega)]; exact hz
    have hsb : H (s + 1) = hi (s + 1) := hF _ (by omega)
    refine cm_iload1 (pc := 2) dX3_skipBlanks_2 ?_
    refine cm_bipush (pc := 3) (v := 80) dX3_skipBlanks_3 (by decide) ?_
    refine cm_icmp_ge (pc := 5) (tgt := 40) dX3_skipBlanks_5 (by decide) (fun q => absurd q (nI_ge (a := k) (b := 80) (by omega) (by omega))) (fun c5 => ?_)
    refine cm_aload0 (pc := 8) dX3_skipBlanks_8 ?_
    refine cm_getR (pc := 9) flX3_23 dX3_skipBlanks_9 hX.od hSrc ?_
    refine cm_aload0 (pc := 12) dX3_skipBlanks_12 ?_
    refine cm_getI (pc := 13) flX3_27 dX3_skipBlanks_13 hX.od ?_
    rw [hR.1]
    refine cm_V1 (pc := 16) mX4_get_v mlX3_54 dX3_skipBlanks_16 hS.1 (by omega) (Nat.le_of_ble_eq_true rfl) (Nat.le_refl _) (Nat.le_refl _) (cm_ct_us _ (k_get (d := d) hS (by decide) (z80 hsz hn))) (fun r16 h16 hq16 => ?_)
    obtain ⟨rfl, rfl⟩ := hq16
    rw [cm_us_sf]
    rw [show stGet (cm_sf H s) (nI pos) = pC (hi (s + 1)) n pos by rw [← hsb]; exact pC_get (g := cm_sf H s) hsz hn (by omega)]
    refine cm_bipush (pc := 19) (v := 32) dX3_skipBlanks_19 (by decide) ?_
    refine cm_icmp_ne (pc := 21) (tgt := 40) dX3_skipBlanks_21 (by decide) (fun c21 => ?_) (fun c21 => ?_)
    · exact cm_vret (pc := 40) dX3_skipBlanks_40 rfl ⟨rfl, H, rfl, hF, by rw [hZ, show pSkip (pC (hi (s + 1)) n) (q + 1) pos = pos from if_neg c21]; exact hR⟩
    · have hlt := pC_eq c21 (by decide)
      refine cm_aload0 (pc := 24) dX3_skipBlanks_24 ?_
      refine cm_dup (pc := 25) dX3_skipBlanks_25 rfl ?_
      refine cm_getI (pc := 26) flX3_27 dX3_skipBlanks_26 hX.od ?_
      rw [hR.1]
      refine cm_iconst (pc := 29) (v := 1) dX3_skipBlanks_29 (by decide) ?_
      refine cm_iadd (pc := 30) dX3_skipBlanks_30 ?_
      rw [nI_1]
      refine cm_putI (pc := 31) fpX3_27 dX3_skipBlanks_31 hX.od ?_
      refine cm_memG (fun G31 e31 f31 => ?_)
      refine cm_incN1 (pc := 34) dX3_skipBlanks_34 (by decide) rfl ?_
      refine cm_goto (pc := 37) (tgt := 2) dX3_skipBlanks_37 (by decide) ?_
      refine hst (pos + 1) G31 (by omega) (fun c hc => by rw [e31 c hc, hF c hc]) ⟨by rw [f31]; simp [upd], by rw [f31]; simp [upd]; exact hR.2⟩ (by rw [hZ]; exact if_pos c21)
set_option maxRecDepth 20000 in
theorem k_skipBlanks (hX : cm_cls sh hr) (hSrc : hr 19 1 = some s) (hS : cm_str sh hr s 80) (h73 : 73 ≤ s) (hz : hi s 1 = nI n) (hn : n ≤ 80) (hr0 : rS hi pos w) (hp : pos ≤ n) (hw : ∀ p, w = some p → p ≤ n) : cm_ct D mX3_skipBlanks (d + 3) 0 0 [.ref 19] (sh, hi, hl, hr) (fun r9 h9 => r9 = none ∧ ∃ H, h9 = (sh, H, hl, hr) ∧ (∀ c, c ≠ 19 → H c = hi c) ∧ rS H (pSkip (pC (hi (s + 1)) n) 80 pos) w) := by
  refine cm_ct_of (ls := [some (.ref 19), none]) 1 (by decide +kernel) rfl rfl ?_
  refine cm_iconst (pc := 0) (v := 0) dX3_skipBlanks_0 (by decide) ?_
  refine cm_istore1 (pc := 1) dX3_skipBlanks_1 (by decide) rfl ?_
  exact l_skip hX hSrc hS h73 hz hn _ 80 0 (by omega) pos hi hp (fun _ _ => rfl) hr0 rfl
set_option maxRecDepth 20000 in
theorem k_rtake (hX : cm_cls sh hr) {A B : Int32} (hSrc : hr 19 1 = some s) (hS : cm_str sh hr s 80) (h73 : 73 ≤ s) (hz : hi s 1 = nI n) (hn : n ≤ 80) (hr0 : rS hi pos w) (hp : pos ≤ n) (hw : ∀ p, w = some p → p ≤ n) : cm_ct D mX3_take (d + 3) 0 0 [.ref 19, .int A, .int B] (sh, hi, hl, hr) (fun r9 h9 => r9 = some (.int (pTk (pC (hi (s + 1)) n) A B pos w).1) ∧ ∃ H, h9 = (sh, H, hl, hr) ∧ (∀ c, c ≠ 19 → H c = hi c) ∧ rS H (pTk (pC (hi (s + 1)) n) A B pos w).2.1 (pTk (pC (hi (s + 1)) n) A B pos w).2.2) := by
  refine cm_ct_of (ls := [some (.ref 19), some (.int A), some (.int B), none]) 1 (by decide +kernel) rfl rfl ?_
  refine cm_aload0 (pc := 0) dX3_take_0 ?_
  refine cm_getR (pc := 1) flX3_23 dX3_take_1 hX.od hSrc ?_
  refine cm_aload0 (pc := 4) dX3_take_4 ?_
  refine cm_getI (pc := 5) flX3_27 dX3_take_5 hX.od ?_
  rw [hr0.1]
  refine cm_V1 (pc := 8) mX4_get_v mlX3_54 dX3_take_8 hS.1 (by omega) (Nat.le_of_ble_eq_true rfl) (Nat.le_refl _) (Nat.le_refl _) (cm_ct_us _ (k_get (d := d) hS (by decide) (z80 hz hn))) (fun r8 h8 hq8 => ?_)
  obtain ⟨rfl, rfl⟩ := hq8
  rw [cm_us_sf]
  rw [show stGet (cm_sf hi s) (nI pos) = pC (hi (s + 1)) n pos from pC_get (g := cm_sf hi s) hz hn (by omega)]
  refine cm_istore3 (pc := 11) dX3_take_11 (by decide) rfl ?_
  refine cm_aload0 (pc := 12) dX3_take_12 ?_
  refine cm_getI (pc := 13) flX3_31 dX3_take_13 hX.od ?_
  refine cm_bipush (pc := 16) (v := -9) dX3_take_16 (by decide) ?_
  refine cm_icmp_ne (pc := 18) (tgt := 39) dX3_take_18 (by decide) (fun c18 => ?_) (fun c18 => ?_)
  · obtain ⟨p, rfl⟩ : ∃ p, w = some p := by
      cases w with
      | none => exact absurd hr0.2 c18
      | some p => exact ⟨p, rfl⟩
    have hp9 := hw p rfl
    refine cm_aload0 (pc := 39) dX3_take_39 ?_
    refine cm_getI (pc := 40) flX3_31 dX3_take_40 hX.od ?_
    refine cm_bipush (pc := 43) (v := -9) dX3_take_43 (by decide) ?_
    refine cm_icmp_eq (pc := 45) (tgt := 50) dX3_take_45 (by decide) (fun c45 => ?_) (fun c45 => ?_)
    · exact absurd (hr0.2.symm.trans c45) (wI_ne (by omega))
    · refine cm_iconst (pc := 48) (v := 0) dX3_take_48 (by decide) ?_
      exact cm_iret (pc := 49) dX3_take_49 rfl ⟨rfl, hi, rfl, fun _ _ => rfl, hr0⟩
  · have hw0 : w = none := wI_none (by rw [← hr0.2]; exact c18) (fun p hp => by have := hw p hp; omega)
    subst hw0
    refine cm_iload3 (pc := 21) dX3_take_21 ?_
    refine cm_iload1 (pc := 22) dX3_take_22 ?_
    refine cm_icmp_lt (pc := 23) (tgt := 31) dX3_take_23 (by decide) (fun c23 => ?_) (fun c23 => ?_)
    · have hb : pBt (pC (hi (s + 1)) n) pos A B = false := by simp [pBt, c23]
      refine cm_aload0 (pc := 31) dX3_take_31 ?_
      refine cm_aload0 (pc := 32) dX3_take_32 ?_
      refine cm_getI (pc := 33) flX3_27 dX3_take_33 hX.od ?_
      rw [hr0.1]
      refine cm_putI (pc := 36) fpX3_31 dX3_take_36 hX.od ?_
      refine cm_memG (fun G36 e36 f36 => ?_)
      refine cm_aload0 (pc := 39) dX3_take_39 ?_
      refine cm_getI (pc := 40) flX3_31 dX3_take_40 hX.od ?_
      refine cm_bipush (pc := 43) (v := -9) dX3_take_43 (by decide) ?_
      refine cm_icmp_eq (tgt := 50) (pc := 45) dX3_take_45 (by decide) (fun c45 => ?_) (fun c45 => ?_)
      · rw [f36] at c45
        exact absurd (show wI (some pos) = -9 by simpa [upd, wI] using c45) (wI_ne (by omega))
      · refine cm_iconst (pc := 48) (v := 0) dX3_take_48 (by decide) ?_
        exact cm_iret (pc := 49) dX3_take_49 rfl ⟨by simp [pTk, hb], G36, rfl, e36, by simp only [pTk, hb]; exact ⟨by rw [f36]; simp [upd, hr0.1], by rw [f36]; simp [upd, wI]⟩⟩
    · refine cm_iload3 (pc := 26) dX3_take_26 ?_
      refine cm_iload2 (pc := 27) dX3_take_27 ?_
      refine cm_icmp_le (pc := 28) (tgt := 39) dX3_take_28 (by decide) (fun c28 => ?_) (fun c28 => ?_)
      · have hb : pBt (pC (hi (s + 1)) n) pos A B = true := by simp [pBt, c23, c28]
        have c28 := c28
        refine cm_aload0 (pc := 39) dX3_take_39 ?_
        refine cm_getI (pc := 40) flX3_31 dX3_take_40 hX.od ?_
        refine cm_bipush (pc := 43) (v := -9) dX3_take_43 (by decide) ?_
        refine cm_icmp_eq (pc := 45) (tgt := 50) dX3_take_45 (by decide) (fun c45 => ?_) (fun c45 => ?_)
        · refine cm_aload0 (pc := 50) dX3_take_50 ?_
          refine cm_dup (pc := 51) dX3_take_51 rfl ?_
          refine cm_getI (pc := 52) flX3_27 dX3_take_52 hX.od ?_
          rw [hr0.1]
          refine cm_iconst (pc := 55) (v := 1) dX3_take_55 (by decide) ?_
          refine cm_iadd (pc := 56) dX3_take_56 ?_
          rw [nI_1]
          refine cm_putI (pc := 57) fpX3_27 dX3_take_57 hX.od ?_
          refine cm_memG (fun G57 e57 f57 => ?_)
          refine cm_iload3 (pc := 60) dX3_take_60 ?_
          refine cm_iload1 (pc := 61) dX3_take_61 ?_
          refine cm_isub (pc := 62) dX3_take_62 ?_
          exact cm_iret (pc := 63) dX3_take_63 rfl ⟨by simp [pTk, hb], G57, rfl, e57, by simp only [pTk, hb]; exact ⟨by rw [f57]; simp [upd], by rw [f57]; simp [upd]; exact hr0.2⟩⟩
        · exact absurd hr0.2 c45
      · have c28b := Int32.not_le.mp c28
        have hb : pBt (pC (hi (s + 1)) n) pos A B = false := by simp [pBt, c28b]
        refine cm_aload0 (pc := 31) dX3_take_31 ?_
        refine cm_aload0 (pc := 32) dX3_take_32 ?_
        refine cm_getI (pc := 33) flX3_27 dX3_take_33 hX.od ?_
        rw [hr0.1]
        refine cm_putI (pc := 36) fpX3_31 dX3_take_36 hX.od ?_
        refine cm_memG (fun G36 e36 f36 => ?_)
        refine cm_aload0 (pc := 39) dX3_take_39 ?_
        refine cm_getI (pc := 40) flX3_31 dX3_take_40 hX.od ?_
        refine cm_bipush (pc := 43) (v := -9) dX3_take_43 (by decide) ?_
        refine cm_icmp_eq (tgt := 50) (pc := 45) dX3_take_45 (by decide) (fun c45 => ?_) (fun c45 => ?_)
        · rw [f36] at c45
          exact absurd (show wI (some pos) = -9 by simpa [upd, wI] using c45) (wI_ne (by omega))
        · refine cm_iconst (pc := 48) (v := 0) dX3_take_48 (by decide) ?_
          exact cm_iret (pc := 49) dX3_take_49 rfl ⟨by simp [pTk, hb], G36, rfl, e36, by simp only [pTk, hb]; exact ⟨by rw [f36]; simp [upd, hr0.1], by rw [f36]; simp [upd, wI]⟩⟩
end RD
