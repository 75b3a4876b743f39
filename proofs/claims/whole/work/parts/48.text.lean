/-! PART text: the class reads a whole text; it reads as the reference does (pure) -/
def pCls (c : Nat → Int32) (n : Nat) : Nat → Nat → pA → Except Nat pA
  | 0, _, A => .ok A
  | q + 1, pos, A => if pos < n then match pItem c pos A with
      | .error p => .error p
      | .ok x => pCls c n q (pSkip c 80 x.1) x.2 else .ok A
def pClass (c : Nat → Int32) (n : Nat) : Except Nat pA := match pHead c (pSkip c 80 0) pA0 with
  | .error p => .error p
  | .ok x => pCls c n 80 (pSkip c 80 x.1) x.2
def rFin (n : Nat) (H : cm_g2) (r9 : Option Value) : Except Nat pA → Prop
  | .error p => p ≤ n ∧ r9 = some (.int (nI p))
  | .ok A => r9 = some (.int (-9)) ∧ aRep A (cm_sf H 20)
theorem le6 {m : Nat} (h : m < 2 ^ 31) : (6 : Int32) ≤ nI m ↔ 6 ≤ m := nI_leI (a := 6) (by decide) h
theorem pHead_tk {c : Nat → Int32} {pos : Nat} {A : pA} : pHead c pos A = match (pTk c 49 52 (pTk c 103 103 pos none).2.1 (pTk c 103 103 pos none).2.2).2.2 with
  | some p => .error p
  | none => .ok ((pTk c 49 52 (pTk c 103 103 pos none).2.1 (pTk c 103 103 pos none).2.2).2.1, (1 + (pTk c 49 52 (pTk c 103 103 pos none).2.1 (pTk c 103 103 pos none).2.2).1, A.2)) := by
  unfold pHead
  cases h1 : pBt c pos 103 103 with
  | false => rw [pTk_bad h1]; simp [pTk_some]
  | true =>
    rw [pTk_none h1]
    cases h2 : pBt c (pos + 1) 49 52 with
    | false => rw [pTk_bad h2]; simp
    | true => rw [pTk_none h2]; simp
theorem pStall_adv {c : Nat → Int32} {pos : Nat} {A : pA} {x : Nat × pA} (h : pStall c pos A = .ok x) : pos < x.1 ∧ x.2.1 = A.1 := by
  unfold pStall at h
  repeat' split at h
  all_goals (cases h)
  all_goals exact ⟨by show pos < pos + _; omega, rfl⟩
theorem pBuyer_adv {c : Nat → Int32} {pos : Nat} {A : pA} {x : Nat × pA} (h : pBuyer c pos A = .ok x) : pos < x.1 ∧ x.2.1 = A.1 := by
  unfold pBuyer at h
  repeat' split at h
  all_goals (cases h)
  all_goals exact ⟨by show pos < pos + _; omega, rfl⟩
theorem pItem_adv {c : Nat → Int32} {pos : Nat} {A : pA} {x : Nat × pA} (h : pItem c pos A = .ok x) : pos < x.1 ∧ x.2.1 = A.1 := by
  unfold pItem at h
  split at h
  · exact pStall_adv h
  · exact pBuyer_adv h
theorem pHead_adv {c : Nat → Int32} {pos : Nat} {A : pA} {x : Nat × pA} (h : pHead c pos A = .ok x) : pos < x.1 ∧ 1 ≤ x.2.1.toInt ∧ x.2.1.toInt ≤ 4 ∧ x.2.2 = A.2 ∧ pBt c (x.1 - 1) 49 52 = true ∧ x.1 = pos + 2 := by
  unfold pHead at h
  split at h
  · cases h
  · split at h
    · cases h
    · next q =>
      cases h
      have q2 : pBt c (pos + 1) 49 52 = true := by simpa using q
      refine ⟨by show pos < pos + 2; omega, ?_, ?_, rfl, q2, rfl⟩
      all_goals
        unfold pBt at q2
        simp only [Bool.and_eq_true, Bool.not_eq_true', decide_eq_false_iff_not, Int32.lt_iff_toInt_lt] at q2
        have e1 : (49 : Int32).toInt = 49 := by decide
        have e2 : (52 : Int32).toInt = 52 := by decide
        have e3 : (1 : Int32).toInt = 1 := by decide
        rw [e1, e2] at q2
        show _ ≤ _
        rw [zadd (by rw [zsub (by omega)]; omega), zsub (by omega)]
        omega
theorem pRun_fuel {c : Nat → Int32} {n : Nat} : ∀ (f1 f2 pos : Nat) (A : pA), n - pos ≤ f1 → n - pos ≤ f2 → pRun c n f1 pos A = pRun c n f2 pos A
  | 0, 0, _, _, _, _ => rfl
  | 0, f2 + 1, pos, A, h1, _ => by
    have hp : ¬ pos < n := by omega
    simp [pRun, hp]
  | f1 + 1, 0, pos, A, _, h2 => by
    have hp : ¬ pos < n := by omega
    simp [pRun, hp]
  | f1 + 1, f2 + 1, pos, A, h1, h2 => by
    unfold pRun
    by_cases hp : pos < n
    · rw [if_pos hp, if_pos hp]
      by_cases hc : c pos = 32
      · rw [if_pos hc, if_pos hc]
        exact pRun_fuel f1 f2 (pos + 1) A (by omega) (by omega)
      · rw [if_neg hc, if_neg hc]
        cases hq : (if A.1 = 0 then pHead c pos A else pItem c pos A) with
        | error p => rfl
        | ok x =>
          have hx : pos < x.1 := by
            split at hq
            · exact (pHead_adv hq).1
            · exact (pItem_adv hq).1
          exact pRun_fuel f1 f2 x.1 x.2 (by omega) (by omega)
    · rw [if_neg hp, if_neg hp]
theorem pRun_skip {f : Nat → Int32} {n : Nat} {A : pA} : ∀ (q pos : Nat), pRun (pC f n) n (n - pos) pos A = pRun (pC f n) n (n - pSkip (pC f n) q pos) (pSkip (pC f n) q pos) A
  | 0, pos => rfl
  | q + 1, pos => by
    unfold pSkip
    by_cases hc : pC f n pos = 32
    · have hp := pC_eq hc (by decide)
      rw [if_pos hc, ← pRun_skip q (pos + 1), show n - pos = (n - (pos + 1)) + 1 by omega]
      conv => lhs; unfold pRun
      rw [if_pos hp, if_pos hc]
    · rw [if_neg hc]
theorem pSkip_end {f : Nat → Int32} {n : Nat} : ∀ (q pos : Nat), n - pos ≤ q → ¬ pC f n (pSkip (pC f n) q pos) = 32
  | 0, pos, h => fun hc => by
    have := pC_eq hc (by decide)
    unfold pSkip at this
    omega
  | q + 1, pos, h => by
    unfold pSkip
    by_cases hc : pC f n pos = 32
    · rw [if_pos hc]
      exact pSkip_end q (pos + 1) (by omega)
    · rw [if_neg hc]; exact hc
theorem pSkip_ge {c : Nat → Int32} : ∀ (q pos : Nat), pos ≤ pSkip c q pos
  | 0, pos => Nat.le_refl _
  | q + 1, pos => by
    unfold pSkip
    split
    · have := pSkip_ge (c := c) q (pos + 1); omega
    · exact Nat.le_refl _
theorem pCls_run {f : Nat → Int32} {n : Nat} (hn : n ≤ 80) : ∀ (q pos : Nat) (A : pA), n - pos ≤ q → ¬ pC f n pos = 32 → ¬ A.1 = 0 → pCls (pC f n) n q pos A = pRun (pC f n) n (n - pos) pos A
  | 0, pos, A, h, _, hA => by
    unfold pCls
    rw [show n - pos = 0 by omega]
    unfold pRun
    rw [if_neg hA]
  | q + 1, pos, A, h, hc, hA => by
    unfold pCls
    by_cases hp : pos < n
    · rw [if_pos hp, show n - pos = (n - (pos + 1)) + 1 by omega]
      conv => rhs; unfold pRun
      rw [if_pos hp, if_neg hc, if_neg hA]
      cases hq : pItem (pC f n) pos A with
      | error p => rfl
      | ok x =>
        have hx := pItem_adv hq
        show pCls (pC f n) n q (pSkip (pC f n) 80 x.1) x.2 = pRun (pC f n) n (n - (pos + 1)) x.1 x.2
        have hge := pSkip_ge (c := pC f n) 80 x.1
        rw [pCls_run hn q _ x.2 (by omega) (pSkip_end 80 x.1 (by omega)) (by rw [hx.2]; exact hA), ← pRun_skip 80 x.1]
        exact pRun_fuel _ _ _ _ (by omega) (by omega)
    · rw [if_neg hp, show n - pos = 0 by omega]
      unfold pRun
      rw [if_neg hA]
/-- both ways of reading are one -/
theorem pClass_run {f : Nat → Int32} {n : Nat} (hn : n ≤ 80) : pClass (pC f n) n = pRun (pC f n) n n 0 pA0 := by
  unfold pClass
  have h0 := pRun_skip (f := f) (n := n) (A := pA0) 80 0
  rw [Nat.sub_zero] at h0
  rw [h0]
  have hend := pSkip_end (f := f) (n := n) 80 0 (by omega)
  have hle := (pSkip_le (f := f) (n := n) 80 0 (by omega)).2
  generalize pSkip (pC f n) 80 0 = p0 at *
  by_cases hp : p0 < n
  · rw [show n - p0 = (n - (p0 + 1)) + 1 by omega]
    conv => rhs; unfold pRun
    rw [if_pos hp, if_neg hend, if_pos (show pA0.1 = 0 from rfl)]
    cases hq : pHead (pC f n) p0 pA0 with
    | error p => rfl
    | ok x =>
      have hx := pHead_adv hq
      show pCls (pC f n) n 80 (pSkip (pC f n) 80 x.1) x.2 = pRun (pC f n) n (n - (p0 + 1)) x.1 x.2
      have hge := pSkip_ge (c := pC f n) 80 x.1
      rw [pCls_run hn 80 _ x.2 (by omega) (pSkip_end 80 x.1 (by omega)) (fun q => by rw [q] at hx; have : (0 : Int32).toInt = 0 := by decide
                                                                                     omega), ← pRun_skip 80 x.1]
      exact pRun_fuel _ _ _ _ (by omega) (by omega)
  · rw [show n - p0 = 0 by omega]
    conv => rhs; unfold pRun
    rw [if_pos (show pA0.1 = 0 from rfl)]
    unfold pHead
    have h1 : pBt (pC f n) p0 103 103 = false := by
      cases hb : pBt (pC f n) p0 103 103 with
      | false => rfl
      | true => exact absurd (pC_in hb (by decide)) hp
    rw [if_pos h1]
    show Except.error p0 = Except.error n
    rw [show p0 = n by omega]
section RD3
variable {D : cm_D} {d : Nat} {sh : List cm_Sh} {hi : cm_g2} {hl : Nat → Nat → Int64} {hr : Nat → Nat → Option Nat} {nb ns s n pos : Nat} {w : Option Nat} {f : Nat → Int32} {A : pA}
set_option maxRecDepth 20000 in
theorem t_ri (hX : cm_cls sh hr) (hSrc : hr 19 1 = some s) (hS : cm_str sh hr s 80) (h73 : 73 ≤ s) (hx : rT hi s n f) (hn : n ≤ 80) (hr0 : rS hi pos none) (hlt : pos < n) (hA : aRep A (cm_sf hi 20)) : cm_g D mX3_readItem (d + 6) 0 0 (fun r9 h9 => r9 = none ∧ ∃ H, h9 = (sh, H, hl, hr) ∧ (∀ c, c < 19 ∨ 30 < c → H c = hi c) ∧ rOut n H (pBuyer (pC f n) pos A)) 0 0 52 [some (.ref 19), some (.int (pC f n pos)), some (.int (pKind (pC f n pos)))] [] (sh, hi, hl, hr) := by
  refine cm_iload2 (pc := 52) dX3_readItem_52 ?_
  refine cm_bipush (pc := 53) (v := -9) dX3_readItem_53 (by decide) ?_
  refine cm_icmp_eq (pc := 55) (tgt := 78) dX3_readItem_55 (by decide) (fun c55 => ?_) (fun c55 => ?_)
  · have hpb : pBuyer (pC f n) pos A = .error pos := by unfold pBuyer; rw [if_pos (Or.inl c55)]
    refine cm_aload0 (pc := 78) dX3_readItem_78 ?_
    refine cm_aload0 (pc := 79) dX3_readItem_79 ?_
    refine cm_getI (pc := 80) flX3_27 dX3_readItem_80 hX.od ?_
    rw [hr0.1]
    refine cm_putI (pc := 83) fpX3_31 dX3_readItem_83 hX.od ?_
    refine cm_memG (fun G83 e83 f83 => ?_)
    exact cm_vret (pc := 86) dX3_readItem_86 rfl ⟨rfl, _, rfl, by first | exact F72 | exact fr19 e83, by first | exact R72 | (rw [hpb]; exact ⟨by omega, pos, by omega, by rw [f83]; simpa [upd] using hr0.1, by rw [f83]; simp [upd, wI]⟩)⟩
  · refine cm_aload0 (pc := 58) dX3_readItem_58 ?_
    refine cm_getR (pc := 59) flX3_12 dX3_readItem_59 hX.od hX.rd ?_
    refine cm_getI (pc := 62) flX3_61 dX3_readItem_62 hX.mi.1 ?_
    refine cm_top_eq hA.1.2.2.2.1 ?_
    refine cm_bipush (pc := 65) (v := 6) dX3_readItem_65 (by decide) ?_
    refine cm_icmp_ge (pc := 67) (tgt := 78) dX3_readItem_67 (by decide) (fun c67 => ?_) (fun c67 => ?_)
    · have c67 := (le6 (by have := hA.1.2.2.2.2.2; omega)).mp c67
      have hpb : pBuyer (pC f n) pos A = .error pos := by unfold pBuyer; rw [if_pos (Or.inr c67)]
      refine cm_aload0 (pc := 78) dX3_readItem_78 ?_
      refine cm_aload0 (pc := 79) dX3_readItem_79 ?_
      refine cm_getI (pc := 80) flX3_27 dX3_readItem_80 hX.od ?_
      rw [hr0.1]
      refine cm_putI (pc := 83) fpX3_31 dX3_readItem_83 hX.od ?_
      refine cm_memG (fun G83 e83 f83 => ?_)
      exact cm_vret (pc := 86) dX3_readItem_86 rfl ⟨rfl, _, rfl, by first | exact F72 | exact fr19 e83, by first | exact R72 | (rw [hpb]; exact ⟨by omega, pos, by omega, by rw [f83]; simpa [upd] using hr0.1, by rw [f83]; simp [upd, wI]⟩)⟩
    · have c67 : A.2.2.1 < 6 := by
        have := hA.1.2.2.2.2.2
        have h9 : ¬ 6 ≤ A.2.2.1 := fun z => c67 ((le6 (by omega)).mpr z)
        omega
      refine cm_aload0 (pc := 70) dX3_readItem_70 ?_
      refine cm_iload2 (pc := 71) dX3_readItem_71 ?_
      refine cm_V1 (pc := 72) mX3_readBuyer_v mlX3_70 dX3_readItem_72 hX.od (by omega) (Nat.le_of_ble_eq_true rfl) (Nat.le_refl _) (Nat.le_refl _) (k_readBuyer hX (d := d) hSrc hS h73 hx hn hr0 hlt hA c67 rfl c55) (fun r72 h72 hq72 => ?_)
      obtain ⟨rfl, H72, rfl, F72, R72⟩ := hq72
      refine cm_goto (pc := 75) (tgt := 86) dX3_readItem_75 (by decide) ?_
      exact cm_vret (pc := 86) dX3_readItem_86 rfl ⟨rfl, _, rfl, by first | exact F72 | exact fr19 e83, by first | exact R72 | (rw [hpb]; exact ⟨by omega, pos, by omega, by rw [f83]; simpa [upd] using hr0.1, by rw [f83]; simp [upd, wI]⟩)⟩
set_option maxRecDepth 20000 in
theorem k_readItem (hX : cm_cls sh hr) (hSrc : hr 19 1 = some s) (hS : cm_str sh hr s 80) (h73 : 73 ≤ s) (hx : rT hi s n f) (hn : n ≤ 80) (hr0 : rS hi pos none) (hlt : pos < n) (hA : aRep A (cm_sf hi 20)) : cm_ct D mX3_readItem (d + 6) 0 0 [.ref 19] (sh, hi, hl, hr) (fun r9 h9 => r9 = none ∧ ∃ H, h9 = (sh, H, hl, hr) ∧ (∀ c, c < 19 ∨ 30 < c → H c = hi c) ∧ rOut n H (pItem (pC f n) pos A)) := by
  refine cm_ct_of (ls := [some (.ref 19), none, none]) 2 (by decide +kernel) rfl rfl ?_
  refine cm_aload0 (pc := 0) dX3_readItem_0 ?_
  refine cm_getR (pc := 1) flX3_23 dX3_readItem_1 hX.od hSrc ?_
  refine cm_aload0 (pc := 4) dX3_readItem_4 ?_
  refine cm_getI (pc := 5) flX3_27 dX3_readItem_5 hX.od ?_
  rw [hr0.1]
  refine cm_V1 (pc := 8) mX4_get_v mlX3_54 dX3_readItem_8 hS.1 (by omega) (Nat.le_of_ble_eq_true rfl) (Nat.le_refl _) (Nat.le_refl _) (k_sget hX (d := d + 3) hSrc hS h73 hx hn (by omega)) (fun r8 h8 hq8 => ?_)
  obtain ⟨rfl, rfl⟩ := hq8
  refine cm_istore1 (pc := 11) dX3_readItem_11 (by decide) rfl ?_
  refine cm_iload1 (pc := 12) dX3_readItem_12 ?_
  refine cm_S1 (pc := 13) mX3_kindOf_s mlX3_58 dX3_readItem_13 (by omega) (Nat.le_of_ble_eq_true rfl) (Nat.le_refl _) (Nat.le_refl _) (k_kindOf (d := d + 5) ) (fun r13 h13 hq13 => ?_)
  obtain ⟨rfl, rfl⟩ := hq13
  refine cm_istore2 (pc := 16) dX3_readItem_16 (by decide) rfl ?_
  refine cm_iload1 (pc := 17) dX3_readItem_17 ?_
  refine cm_bipush (pc := 18) (v := 111) dX3_readItem_18 (by decide) ?_
  refine cm_icmp_ne (pc := 20) (tgt := 52) dX3_readItem_20 (by decide) (fun c20 => ?_) (fun c20 => ?_)
  · rw [show pItem (pC f n) pos A = pBuyer (pC f n) pos A from if_neg c20]
    exact t_ri hX hSrc hS h73 hx hn hr0 hlt hA
  · refine cm_aload0 (pc := 23) dX3_readItem_23 ?_
    refine cm_getR (pc := 24) flX3_12 dX3_readItem_24 hX.od hX.rd ?_
    refine cm_getI (pc := 27) flX3_61 dX3_readItem_27 hX.mi.1 ?_
    refine cm_top_eq hA.1.2.2.2.1 ?_
    refine cm_if_ne (pc := 30) (tgt := 52) dX3_readItem_30 (by decide) (fun c30 => ?_) (fun c30 => ?_)
    · have hpos : 0 < A.2.2.1 := by
        rcases Nat.eq_zero_or_pos A.2.2.1 with q | q
        · rw [q] at c30; exact absurd rfl c30
        · exact q
      rw [show pItem (pC f n) pos A = pBuyer (pC f n) pos A by
        unfold pItem pStall pBuyer
        rw [if_pos c20, if_pos (Or.inl hpos), if_pos (Or.inl (by rw [c20]; rfl))]]
      exact t_ri hX hSrc hS h73 hx hn hr0 hlt hA
    · have h0 : A.2.2.1 = 0 := by
        rcases Nat.eq_zero_or_pos A.2.2.1 with q | q
        · exact q
        · exact absurd c30 (nI_ne0 q (by have := hA.1.2.2.2.2.2; omega))
      refine cm_aload0 (pc := 33) dX3_readItem_33 ?_
      refine cm_getR (pc := 34) flX3_12 dX3_readItem_34 hX.od hX.rd ?_
      refine cm_getI (pc := 37) flX3_64 dX3_readItem_37 hX.mi.1 ?_
      refine cm_top_eq hA.1.2.2.1 ?_
      refine cm_bipush (pc := 40) (v := 6) dX3_readItem_40 (by decide) ?_
      refine cm_icmp_ge (pc := 42) (tgt := 52) dX3_readItem_42 (by decide) (fun c42 => ?_) (fun c42 => ?_)
      · have c42 := (le6 (by have := hA.1.2.2.2.2.1; omega)).mp c42
        rw [show pItem (pC f n) pos A = pBuyer (pC f n) pos A by
          unfold pItem pStall pBuyer
          rw [if_pos c20, if_pos (Or.inr c42), if_pos (Or.inl (by rw [c20]; rfl))]]
        exact t_ri hX hSrc hS h73 hx hn hr0 hlt hA
      · have c42 : A.2.1.1 < 6 := by
          have := hA.1.2.2.2.2.1
          have h9 : ¬ 6 ≤ A.2.1.1 := fun z => c42 ((le6 (by omega)).mpr z)
          omega
        refine cm_aload0 (pc := 45) dX3_readItem_45 ?_
        refine cm_V0 (pc := 46) mX3_readStall_v mlX3_67 dX3_readItem_46 hX.od (by omega) (Nat.le_of_ble_eq_true rfl) (Nat.le_refl _) (Nat.le_refl _) (k_readStall hX (d := d) hSrc hS h73 hx hn hr0 hlt hA h0 c42) (fun r46 h46 hq46 => ?_)
        obtain ⟨rfl, H46, rfl, F46, R46⟩ := hq46
        refine cm_goto (pc := 49) (tgt := 86) dX3_readItem_49 (by decide) ?_
        exact cm_vret (pc := 86) dX3_readItem_86 rfl ⟨rfl, H46, rfl, F46, by rw [show pItem (pC f n) pos A = pStall (pC f n) pos A from if_pos c20]; exact R46⟩
set_option maxRecDepth 20000 in
theorem l_bad (hX : cm_cls sh hr) {p9 k : Nat} {Z : Except Nat pA} {G : cm_g2} (hSrc : hr 19 1 = some s) (hS : cm_str sh hr s 80) (h73 : 73 ≤ s) (hn : n ≤ 80) (hG : ∀ c, c < 19 ∨ 30 < c → G c = hi c) (hrG : rS G pos (some p9)) (hpn : p9 ≤ n) (hZ : Z = .error p9) : cm_g D mX3_read (d + 7) 0 0 (fun r9 h9 => ∃ H, h9 = (sh, H, hl, hr) ∧ (∀ c, c < 19 ∨ 30 < c → H c = hi c) ∧ rFin n H r9 Z) 0 0 59 [some (.ref 19), some (.ref s), some (.int (nI k))] [] (sh, G, hl, hr) := by
  refine cm_iload2 (pc := 59) dX3_read_59 ?_
  refine cm_bipush (pc := 60) (v := 80) dX3_read_60 (by decide) ?_
  refine cm_icmp_ge (pc := 62) (tgt := 102) dX3_read_62 (by decide) (fun c62 => ?_) (fun c62 => ?_)
  · refine cm_aload0 (pc := 102) dX3_read_102 ?_
    refine cm_getI (pc := 103) flX3_31 dX3_read_103 hX.od ?_
    rw [hrG.2]
    exact cm_iret (pc := 106) dX3_read_106 rfl ⟨G, rfl, hG, by rw [hZ]; exact ⟨hpn, rfl⟩⟩
  · refine cm_aload0 (pc := 65) dX3_read_65 ?_
    refine cm_getI (pc := 66) flX3_31 dX3_read_66 hX.od ?_
    rw [hrG.2]
    refine cm_bipush (pc := 69) (v := -9) dX3_read_69 (by decide) ?_
    refine cm_icmp_ne (pc := 71) (tgt := 102) dX3_read_71 (by decide) (fun c71 => ?_) (fun q => absurd q (wI_ne (by omega)))
    refine cm_aload0 (pc := 102) dX3_read_102 ?_
    refine cm_getI (pc := 103) flX3_31 dX3_read_103 hX.od ?_
    rw [hrG.2]
    exact cm_iret (pc := 106) dX3_read_106 rfl ⟨G, rfl, hG, by rw [hZ]; exact ⟨hpn, rfl⟩⟩
set_option maxRecDepth 20000 in
theorem l_rmain (hX : cm_cls sh hr) {Z : Except Nat pA} (hSrc : hr 19 1 = some s) (hS : cm_str sh hr s 80) (h73 : 73 ≤ s) (hn : n ≤ 80) : ∀ q k : Nat, k + q = 80 → ∀ (pos : Nat) (A : pA) (G : cm_g2), (∀ c, c < 19 ∨ 30 < c → G c = hi c) → rT G s n f → rS G pos none → pos ≤ n → aRep A (cm_sf G 20) → Z = pCls (pC f n) n q pos A → cm_g D mX3_read (d + 7) 0 0 (fun r9 h9 => ∃ H, h9 = (sh, H, hl, hr) ∧ (∀ c, c < 19 ∨ 30 < c → H c = hi c) ∧ rFin n H r9 Z) 0 0 59 [some (.ref 19), some (.ref s), some (.int (nI k))] [] (sh, G, hl, hr) := by
  intro q
  induction q with
  | zero =>
    intro k hk pos A G hG hxG hrG hp hAG hZ
    have h1 : k = 80 := by omega
    subst h1
    have hZE : Z = .ok A := hZ
    refine cm_iload2 (pc := 59) dX3_read_59 ?_
    refine cm_bipush (pc := 60) (v := 80) dX3_read_60 (by decide) ?_
    refine cm_icmp_ge (pc := 62) (tgt := 102) dX3_read_62 (by decide) (fun c62 => ?_) (fun q => absurd (by decide) q)
    refine cm_aload0 (pc := 102) dX3_read_102 ?_
    refine cm_getI (pc := 103) flX3_31 dX3_read_103 hX.od ?_
    rw [hrG.2]
    exact cm_iret (pc := 106) dX3_read_106 rfl ⟨G, rfl, hG, by rw [hZE]; exact ⟨rfl, hAG⟩⟩
  | succ q ih =>
    intro k hk pos A G hG hxG hrG hp hAG hZ
    have hst := ih (k + 1) (by omega)
    refine cm_iload2 (pc := 59) dX3_read_59 ?_
    refine cm_bipush (pc := 60) (v := 80) dX3_read_60 (by decide) ?_
    refine cm_icmp_ge (pc := 62) (tgt := 102) dX3_read_62 (by decide) (fun q => absurd q (nI_ge (a := k) (b := 80) (by omega) (by omega))) (fun c62 => ?_)
    refine cm_aload0 (pc := 65) dX3_read_65 ?_
    refine cm_getI (pc := 66) flX3_31 dX3_read_66 hX.od ?_
    rw [hrG.2]
    refine cm_bipush (pc := 69) (v := -9) dX3_read_69 (by decide) ?_
    refine cm_icmp_ne (pc := 71) (tgt := 102) dX3_read_71 (by decide) (fun q => absurd rfl q) (fun c71 => ?_)
    refine cm_aload0 (pc := 74) dX3_read_74 ?_
    refine cm_getR (pc := 75) flX3_23 dX3_read_75 hX.od hSrc ?_
    refine cm_aload0 (pc := 78) dX3_read_78 ?_
    refine cm_getI (pc := 79) flX3_27 dX3_read_79 hX.od ?_
    rw [hrG.1]
    refine cm_V1 (pc := 82) mX4_has_v mlX3_47 dX3_read_82 hS.1 (by omega) (Nat.le_of_ble_eq_true rfl) (Nat.le_refl _) (Nat.le_refl _) (k_has hS (d := d + 5) (i := nI pos)) (fun r82 h82 hq82 => ?_)
    obtain ⟨rfl, rfl⟩ := hq82
    rw [hxG.1]
    refine cm_ifeqB (pc := 85) (tgt := 102) dX3_read_85 (by decide) (fun c85 => ?_) (fun c85 => ?_)
    · have hlt : ¬ pos < n := fun w => by
        have := (isW_z (v := nI pos) (b := nI n)).mpr (by rw [nI_toInt (show pos < 2 ^ 31 by omega), nI_toInt (show n < 2 ^ 31 by omega)]; omega)
        rw [c85] at this; cases this
      have hZE : Z = .ok A := by rw [hZ]; unfold pCls; rw [if_neg hlt]
      refine cm_aload0 (pc := 102) dX3_read_102 ?_
      refine cm_getI (pc := 103) flX3_31 dX3_read_103 hX.od ?_
      rw [hrG.2]
      exact cm_iret (pc := 106) dX3_read_106 rfl ⟨G, rfl, hG, by rw [hZE]; exact ⟨rfl, hAG⟩⟩
    · have hlt : pos < n := by
        have := isW_z.mp c85
        rw [nI_toInt (show pos < 2 ^ 31 by omega), nI_toInt (show n < 2 ^ 31 by omega)] at this; omega
      refine cm_aload0 (pc := 88) dX3_read_88 ?_
      refine cm_V0 (pc := 89) mX3_readItem_v mlX3_51 dX3_read_89 hX.od (by omega) (Nat.le_of_ble_eq_true rfl) (Nat.le_refl _) (Nat.le_refl _) (k_readItem hX (d := d) hSrc hS h73 hxG hn hrG hlt hAG) (fun r89 h89 hq89 => ?_)
      obtain ⟨rfl, H89, rfl, F89, R89⟩ := hq89
      have xI := hxG.keep h73 F89
      cases hpi : pItem (pC f n) pos A with
      | error p =>
        rw [hpi] at R89
        obtain ⟨hpo, p2, pI, rI⟩ := R89
        have wI9 : ∀ p', some p = some p' → p' ≤ n := fun p' h => by cases h; exact hpo
        rw [show pCls (pC f n) n (q + 1) pos A = .error p by unfold pCls; rw [if_pos hlt, hpi]] at hZ
        refine cm_aload0 (pc := 92) dX3_read_92 ?_
        refine cm_V0 (pc := 93) mX3_skipBlanks_v mlX3_37 dX3_read_93 hX.od (by omega) (Nat.le_of_ble_eq_true rfl) (Nat.le_refl _) (Nat.le_refl _) (k_sk hX (d := d + 3) (w := some p) hSrc hS h73 xI hn rI pI wI9) (fun r93 h93 hq93 => ?_)
        obtain ⟨rfl, H93, rfl, F93, R93⟩ := hq93
        refine cm_incN2 (pc := 96) dX3_read_96 (by decide) rfl ?_
        refine cm_goto (pc := 99) (tgt := 59) dX3_read_99 (by decide) ?_
        exact l_bad hX hSrc hS h73 hn (fun c hc => by rw [F93 c (by omega), F89 c hc, hG c hc]) R93 hpo hZ
      | ok x =>
        rw [hpi] at R89
        have hpo := R89
        have pI := hpo.1
        have rI := hpo.2.1
        have wI9 : ∀ p', none = some p' → p' ≤ n := fun p' h => by cases h
        rw [show pCls (pC f n) n (q + 1) pos A = pCls (pC f n) n q (pSkip (pC f n) 80 x.1) x.2 by conv => lhs; unfold pCls
                                                                                                  rw [if_pos hlt, hpi]] at hZ
        refine cm_aload0 (pc := 92) dX3_read_92 ?_
        refine cm_V0 (pc := 93) mX3_skipBlanks_v mlX3_37 dX3_read_93 hX.od (by omega) (Nat.le_of_ble_eq_true rfl) (Nat.le_refl _) (Nat.le_refl _) (k_sk hX (d := d + 3) (w := none) hSrc hS h73 xI hn rI pI wI9) (fun r93 h93 hq93 => ?_)
        obtain ⟨rfl, H93, rfl, F93, R93⟩ := hq93
        refine cm_incN2 (pc := 96) dX3_read_96 (by decide) rfl ?_
        refine cm_goto (pc := 99) (tgt := 59) dX3_read_99 (by decide) ?_
        have hle := pSkip_le (f := f) (n := n) 80 x.1 hpo.1
        exact hst (pSkip (pC f n) 80 x.1) x.2 H93 (fun c hc => by rw [F93 c (by omega), F89 c hc, hG c hc]) (xI.keep h73 (fr19 F93)) R93 hle.2 (by rw [show cm_sf H93 20 = cm_sf H89 20 from funext (fun c => F93 (20 + c) (by omega))]; exact hpo.2.2) hZ
end RD3
