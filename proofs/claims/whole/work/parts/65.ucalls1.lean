/-! PART ucalls1: the reference's calls: fault, market, buyers, stalls -/
def uFB (u : cm_g2) (i : Nat) (w : Int32) : Int32 := if w = 0 then u 7 i else if w = 1 then u 8 i else if w = 2 then (if u 9 i = 4 then -9 else u 9 i) else u 10 i
def uFS (u : cm_g2) (i : Nat) (w : Int32) : Int32 := if w = 0 then u 11 i else if w = 1 then u 12 i else if w = 2 then u 13 i else u 14 i
def uFar (u : cm_g2) (ns i : Nat) (gd : Int32) : Int32 := match uNear u i gd gd ns with
  | none => -9
  | some k => uAbs (u 11 k - u 8 i)
def uBuyer (u : cm_g2) (i w : Int32) : Int32 × cm_g2 := if uIn i 0 (u 0 9 - 1) = false ∨ uIn w 0 3 = false then (-1, u) else (1, uAsk u (uFB u i.toNatClampNeg w))
def uStall (u : cm_g2) (i w : Int32) : Int32 × cm_g2 := if uIn i 0 (u 0 10 - 1) = false ∨ uIn w 0 3 = false then (-1, u) else (1, uAsk u (uFS u i.toNatClampNeg w))
def uMarkV (u : cm_g2) (nb ns i : Nat) (kd : Int32) : Int32 := if kd = 1 then uSz (uGo u nb i 1) 10 - (if uGo u nb i 1 = 0 then 0 else 1) else if kd = 2 then (if i = 0 ∨ i + 1 = nb then 0 else u 8 (i + 1) - u 8 (i - 1)) else if kd = 3 then uFar u ns i 3 else if kd = 4 then sumP (fun k => cm_bi (!decide (u 0 8 < uAbs (u 11 k - u 8 i)))) ns else uFar u ns i (u 9 i)
def uMark (u : cm_g2) (nb ns : Nat) (i kd : Int32) : Int32 × cm_g2 := if uIn i 0 (u 0 9 - 1) = false ∨ uIn kd 1 5 = false then (-1, u) else if uA u i.toNatClampNeg kd then (uMarkV u nb ns i.toNatClampNeg kd, u) else (-3, uMeet u 3)
def uWantC (u : cm_g2) (i gd : Int32) : Int32 × cm_g2 := if uIn i 0 (u 0 9 - 1) = false ∨ uIn gd 0 4 = false then (-1, u) else (u 9 i.toNatClampNeg, va_up u 9 (upd (u 9) i.toNatClampNeg gd))
def uPrice (u : cm_g2) (k v : Int32) : Int32 × cm_g2 := if uIn k 0 (u 0 10 - 1) = false ∨ uIn v 0 99 = false then (-1, u) else (u 13 k.toNatClampNeg, va_up u 13 (upd (u 13) k.toNatClampNeg v))
def uWishC (u : cm_g2) (ns : Nat) (i : Int32) : Int32 × cm_g2 := if uIn i 0 (u 0 9 - 1) = false then (-1, u) else (1, uAsk u (uWish u ns i.toNatClampNeg))
section U1
variable {D : cm_D} {d : Nat} {sh : List cm_Sh} {hi u : cm_g2} {hl : Nat → Nat → Int64} {hr : Nat → Nat → Option Nat} {e nb ns t n pos : Nat} {f : Nat → Int32} {A : pA}
set_option maxRecDepth 20000 in
theorem r_fault (hE : cm_mdl sh hr e) {t : Int32} (hI : uInv u) : cm_ct D mX7_fault (d + 6) 0 0 [.ref e, .int t] (sh, cm_us hi e u, hl, hr) (fun r9 h9 => ∃ v, h9 = (sh, cm_us hi e v, hl, hr) ∧ (if 0 ≤ (uAT u t).1 then uFr u v ∧ (match pRun (pC (fun i => u 6 (80 * t.toNatClampNeg + i)) (u 5 t.toNatClampNeg).toNatClampNeg) (u 5 t.toNatClampNeg).toNatClampNeg (u 5 t.toNatClampNeg).toNatClampNeg 0 pA0 with | .error q => r9 = some (.int (nI q)) ∧ q ≤ (u 5 t.toNatClampNeg).toNatClampNeg | .ok B => r9 = some (.int (-9)) ∧ uRep B v) else r9 = some (.int (uAT u t).1) ∧ v = (uAT u t).2)) := by
  refine cm_ct_of (ls := [some (.ref e), some (.int t), none]) 1 (by decide +kernel) rfl rfl ?_
  refine cm_aload0 (pc := 0) dX7_fault_0 ?_
  refine cm_iload1 (pc := 1) dX7_fault_1 ?_
  refine cm_V1 (pc := 2) mX7_askedText_v mlX7_115 dX7_fault_2 hE.1 (by omega) (Nat.le_of_ble_eq_true rfl) (Nat.le_refl _) (Nat.le_refl _) (r_askedText (d := d + 3) hE) (fun r2 h2 hq2 => ?_)
  obtain ⟨rfl, rfl⟩ := hq2
  refine cm_istore2 (pc := 5) dX7_fault_5 (by decide) rfl ?_
  refine cm_iload2 (pc := 6) dX7_fault_6 ?_
  refine cm_if_ge (pc := 7) (tgt := 14) dX7_fault_7 (by decide) (fun c7 => ?_) (fun c7 => ?_)
  · have hAR : uIn t 0 3 = true ∧ 0 ≤ u 5 t.toNatClampNeg ∧ (uAT u t).2 = u := by
      by_cases w1 : uIn t 0 3 = false
      · exact absurd c7 (by rw [show (uAT u t).1 = -1 by simp [uAT, w1]]; decide)
      · by_cases w2 : 0 ≤ u 5 t.toNatClampNeg
        · exact ⟨by simpa using w1, w2, by simp [uAT, w1, w2]⟩
        · exact absurd c7 (by rw [show (uAT u t).1 = -3 by simp [uAT, w1, w2]]; decide)
    rw [hAR.2.2]
    obtain ⟨j, hj, rfl⟩ := uIn_ex 3 hAR.1
    have hjc : (nI j).toNatClampNeg = j := nI_clamp (by omega)
    obtain ⟨n, hn80, hsz⟩ := (hI.2 j (by omega)).ge (by have := hAR.2.1; rw [hjc] at this; exact this)
    have hnc : (u 5 j).toNatClampNeg = n := by rw [hsz]; exact nI_clamp (by omega)
    have hx : uTx u j n (fun i => u 6 (80 * j + i)) := ⟨hsz, fun i _ => rfl⟩
    refine cm_aload0 (pc := 14) dX7_fault_14 ?_
    refine cm_iload1 (pc := 15) dX7_fault_15 ?_
    refine cm_V1 (pc := 16) mX7_goesOn_v mlX7_148 dX7_fault_16 hE.1 (by omega) (Nat.le_of_ble_eq_true rfl) (Nat.le_refl _) (Nat.le_refl _) (r_goesOn (d := d) hE (by omega) hx hn80) (fun r16 h16 hq16 => ?_)
    obtain ⟨v16, rfl, V16, U16⟩ := hq16
    cases hpr : pRun (pC (fun i => u 6 (80 * j + i)) n) n n 0 pA0 with
    | error q =>
      rw [hpr] at U16
      obtain ⟨rfl, U1⟩ := U16
      refine cm_iret (pc := 19) dX7_fault_19 rfl ⟨v16, rfl, ?_⟩
      rw [if_pos c7]
      simp only [hjc]
      rw [hnc, hpr]
      exact ⟨V16, by trivial, U1⟩
    | ok B =>
      rw [hpr] at U16
      obtain ⟨rfl, U1⟩ := U16
      refine cm_iret (pc := 19) dX7_fault_19 rfl ⟨v16, rfl, ?_⟩
      rw [if_pos c7]
      simp only [hjc]
      rw [hnc, hpr]
      exact ⟨V16, by trivial, U1⟩
  · refine cm_iload2 (pc := 10) dX7_fault_10 ?_
    refine cm_goto (pc := 11) (tgt := 19) dX7_fault_11 (by decide) ?_
    exact cm_iret (pc := 19) dX7_fault_19 rfl ⟨(uAT u t).2, rfl, by rw [if_neg c7]; exact ⟨rfl, rfl⟩⟩
def uMk (u v : cm_g2) (A : pA) : Prop := (v 0 9 = nI A.2.2.1 ∧ v 0 10 = nI A.2.1.1 ∧ v 0 8 = A.1 ∧ v 0 19 = 0 ∧ v 0 20 = 0 ∧ v 0 0 = u 0 0 ∧ v 0 2 = u 0 2) ∧ (∀ k, k < A.2.1.1 → v 11 k = (A.2.1.2 k).1 ∧ v 12 k = (A.2.1.2 k).2.1 ∧ v 13 k = (A.2.1.2 k).2.2 ∧ v 14 k = 0) ∧ (∀ i, i < A.2.2.1 → v 7 i = (A.2.2.2 i).1 ∧ v 8 i = (A.2.2.2 i).2.1 ∧ v 9 i = (A.2.2.2 i).2.2 ∧ v 10 i = 0) ∧ (∀ k, k < 3 → v 16 (32 * k) = -9) ∧ v 1 = u 1 ∧ v 2 = u 2 ∧ v 3 = u 3 ∧ v 5 = u 5 ∧ v 6 = u 6
def mvOk (u v : cm_g2) (k : Nat) : Prop := (∀ c, c ≠ 7 → c ≠ 8 → c ≠ 9 → c ≠ 10 → c ≠ 11 → c ≠ 12 → c ≠ 13 → c ≠ 14 → v c = u c) ∧ (∀ c, c = 7 ∨ c = 8 ∨ c = 9 ∨ c = 11 ∨ c = 12 ∨ c = 13 → (∀ i, i < k → v c i = u c (6 + i)) ∧ ∀ i, 6 ≤ i → v c i = u c i) ∧ (∀ i, i < k → v 10 i = 0 ∧ v 14 i = 0)
set_option maxRecDepth 20000 in
set_option maxHeartbeats 1000000 in
theorem l_mkt (hE : cm_mdl sh hr e) {y2 : Int32} {V0 : cm_g2} {Q : Option Value → cm_H → Prop} (kk : ∀ V, mvOk V0 V 6 → ∀ z : Int32, cm_g D mX7_market (d + 6) 0 0 (Q) 0 0 167 [some (.ref e), some (.int (nI t)), some (.int y2), some (.int z)] [] (sh, cm_us hi e (V), hl, hr)) : ∀ q k : Nat, k + q = 6 → ∀ W, mvOk V0 W k → cm_g D mX7_market (d + 6) 0 0 (Q) 0 0 51 [some (.ref e), some (.int (nI t)), some (.int y2), some (.int (nI k))] [] (sh, cm_us hi e (W), hl, hr) := by
  intro q
  induction q with
  | zero =>
    intro k hk W hV
    have h1 : k = 6 := by omega
    subst h1
    refine cm_iload3 (pc := 51) dX7_market_51 ?_
    refine cm_bipush (pc := 52) (v := 6) dX7_market_52 (by decide) ?_
    refine cm_icmp_ge (pc := 54) (tgt := 167) dX7_market_54 (by decide) (fun c54 => ?_) (fun q => absurd (by decide) q)
    exact kk W hV _
  | succ q ih =>
    intro k hk W hV
    have hst := ih (k + 1) (by omega)
    refine cm_iload3 (pc := 51) dX7_market_51 ?_
    refine cm_bipush (pc := 52) (v := 6) dX7_market_52 (by decide) ?_
    refine cm_icmp_ge (pc := 54) (tgt := 167) dX7_market_54 (by decide) (fun q => absurd q (nI_ge (a := k) (b := 6) (by omega) (by omega))) (fun c54 => ?_)
    refine cm_aload0 (pc := 57) dX7_market_57 ?_
    refine cm_getR (pc := 58) flX7_28 dX7_market_58 hE.1 hE.r11 ?_
    refine cm_iload3 (pc := 61) dX7_market_61 ?_
    refine cm_aload0 (pc := 62) dX7_market_62 ?_
    refine cm_getR (pc := 63) flX7_28 dX7_market_63 hE.1 hE.r11 ?_
    refine cm_bipush (pc := 66) (v := 6) dX7_market_66 (by decide) ?_
    refine cm_iload3 (pc := 68) dX7_market_68 ?_
    refine cm_iadd (pc := 69) dX7_market_69 ?_
    rw [show (6 : Int32) + nI k = nI (6 + k) by rw [show (6 : Int32) = nI 6 from rfl, nI_add]]
    refine mk_getE (pc := 70) (6 + k) dX7_market_70 hE.a7 rfl (by omega) (by decide) ?_
    rw [(hV.2.1 7 (by decide)).2 (6 + k) (by omega)]
    refine mk_put (pc := 71) dX7_market_71 hE.a7 (by omega) (by decide) ?_
    refine cm_mkG (fun G71 e71 f71 => ?_)
    refine cm_aload0 (pc := 72) dX7_market_72 ?_
    refine cm_getR (pc := 73) flX7_31 dX7_market_73 hE.1 hE.r12 ?_
    refine cm_iload3 (pc := 76) dX7_market_76 ?_
    refine cm_aload0 (pc := 77) dX7_market_77 ?_
    refine cm_getR (pc := 78) flX7_31 dX7_market_78 hE.1 hE.r12 ?_
    refine cm_bipush (pc := 81) (v := 6) dX7_market_81 (by decide) ?_
    refine cm_iload3 (pc := 83) dX7_market_83 ?_
    refine cm_iadd (pc := 84) dX7_market_84 ?_
    rw [show (6 : Int32) + nI k = nI (6 + k) by rw [show (6 : Int32) = nI 6 from rfl, nI_add]]
    refine mk_getE (pc := 85) (6 + k) dX7_market_85 hE.a8 rfl (by omega) (by decide) ?_
    rw [e71 _ (by decide), (hV.2.1 8 (by decide)).2 (6 + k) (by omega)]
    refine mk_put (pc := 86) dX7_market_86 hE.a8 (by omega) (by decide) ?_
    refine cm_mkG (fun G86 e86 f86 => ?_)
    refine cm_aload0 (pc := 87) dX7_market_87 ?_
    refine cm_getR (pc := 88) flX7_34 dX7_market_88 hE.1 hE.r13 ?_
    refine cm_iload3 (pc := 91) dX7_market_91 ?_
    refine cm_aload0 (pc := 92) dX7_market_92 ?_
    refine cm_getR (pc := 93) flX7_34 dX7_market_93 hE.1 hE.r13 ?_
    refine cm_bipush (pc := 96) (v := 6) dX7_market_96 (by decide) ?_
    refine cm_iload3 (pc := 98) dX7_market_98 ?_
    refine cm_iadd (pc := 99) dX7_market_99 ?_
    rw [show (6 : Int32) + nI k = nI (6 + k) by rw [show (6 : Int32) = nI 6 from rfl, nI_add]]
    refine mk_getE (pc := 100) (6 + k) dX7_market_100 hE.a9 rfl (by omega) (by decide) ?_
    rw [e86 _ (by decide), e71 _ (by decide), (hV.2.1 9 (by decide)).2 (6 + k) (by omega)]
    refine mk_put (pc := 101) dX7_market_101 hE.a9 (by omega) (by decide) ?_
    refine cm_mkG (fun G101 e101 f101 => ?_)
    refine cm_aload0 (pc := 102) dX7_market_102 ?_
    refine cm_getR (pc := 103) flX7_40 dX7_market_103 hE.1 hE.r15 ?_
    refine cm_iload3 (pc := 106) dX7_market_106 ?_
    refine cm_aload0 (pc := 107) dX7_market_107 ?_
    refine cm_getR (pc := 108) flX7_40 dX7_market_108 hE.1 hE.r15 ?_
    refine cm_bipush (pc := 111) (v := 6) dX7_market_111 (by decide) ?_
    refine cm_iload3 (pc := 113) dX7_market_113 ?_
    refine cm_iadd (pc := 114) dX7_market_114 ?_
    rw [show (6 : Int32) + nI k = nI (6 + k) by rw [show (6 : Int32) = nI 6 from rfl, nI_add]]
    refine mk_getE (pc := 115) (6 + k) dX7_market_115 hE.a11 rfl (by omega) (by decide) ?_
    rw [e101 _ (by decide), e86 _ (by decide), e71 _ (by decide), (hV.2.1 11 (by decide)).2 (6 + k) (by omega)]
    refine mk_put (pc := 116) dX7_market_116 hE.a11 (by omega) (by decide) ?_
    refine cm_mkG (fun G116 e116 f116 => ?_)
    refine cm_aload0 (pc := 117) dX7_market_117 ?_
    refine cm_getR (pc := 118) flX7_43 dX7_market_118 hE.1 hE.r16 ?_
    refine cm_iload3 (pc := 121) dX7_market_121 ?_
    refine cm_aload0 (pc := 122) dX7_market_122 ?_
    refine cm_getR (pc := 123) flX7_43 dX7_market_123 hE.1 hE.r16 ?_
    refine cm_bipush (pc := 126) (v := 6) dX7_market_126 (by decide) ?_
    refine cm_iload3 (pc := 128) dX7_market_128 ?_
    refine cm_iadd (pc := 129) dX7_market_129 ?_
    rw [show (6 : Int32) + nI k = nI (6 + k) by rw [show (6 : Int32) = nI 6 from rfl, nI_add]]
    refine mk_getE (pc := 130) (6 + k) dX7_market_130 hE.a12 rfl (by omega) (by decide) ?_
    rw [e116 _ (by decide), e101 _ (by decide), e86 _ (by decide), e71 _ (by decide), (hV.2.1 12 (by decide)).2 (6 + k) (by omega)]
    refine mk_put (pc := 131) dX7_market_131 hE.a12 (by omega) (by decide) ?_
    refine cm_mkG (fun G131 e131 f131 => ?_)
    refine cm_aload0 (pc := 132) dX7_market_132 ?_
    refine cm_getR (pc := 133) flX7_46 dX7_market_133 hE.1 hE.r17 ?_
    refine cm_iload3 (pc := 136) dX7_market_136 ?_
    refine cm_aload0 (pc := 137) dX7_market_137 ?_
    refine cm_getR (pc := 138) flX7_46 dX7_market_138 hE.1 hE.r17 ?_
    refine cm_bipush (pc := 141) (v := 6) dX7_market_141 (by decide) ?_
    refine cm_iload3 (pc := 143) dX7_market_143 ?_
    refine cm_iadd (pc := 144) dX7_market_144 ?_
    rw [show (6 : Int32) + nI k = nI (6 + k) by rw [show (6 : Int32) = nI 6 from rfl, nI_add]]
    refine mk_getE (pc := 145) (6 + k) dX7_market_145 hE.a13 rfl (by omega) (by decide) ?_
    rw [e131 _ (by decide), e116 _ (by decide), e101 _ (by decide), e86 _ (by decide), e71 _ (by decide), (hV.2.1 13 (by decide)).2 (6 + k) (by omega)]
    refine mk_put (pc := 146) dX7_market_146 hE.a13 (by omega) (by decide) ?_
    refine cm_mkG (fun G146 e146 f146 => ?_)
    refine cm_aload0 (pc := 147) dX7_market_147 ?_
    refine cm_getR (pc := 148) flX7_37 dX7_market_148 hE.1 hE.r14 ?_
    refine cm_iload3 (pc := 151) dX7_market_151 ?_
    refine cm_iconst (pc := 152) (v := 0) dX7_market_152 (by decide) ?_
    refine mk_put (pc := 153) dX7_market_153 hE.a10 (by omega) (by decide) ?_
    refine cm_mkG (fun G153 e153 f153 => ?_)
    refine cm_aload0 (pc := 154) dX7_market_154 ?_
    refine cm_getR (pc := 155) flX7_49 dX7_market_155 hE.1 hE.r18 ?_
    refine cm_iload3 (pc := 158) dX7_market_158 ?_
    refine cm_iconst (pc := 159) (v := 0) dX7_market_159 (by decide) ?_
    refine mk_put (pc := 160) dX7_market_160 hE.a14 (by omega) (by decide) ?_
    refine cm_mkG (fun G160 e160 f160 => ?_)
    refine cm_incN3 (pc := 161) dX7_market_161 (by decide) rfl ?_
    refine cm_goto (pc := 164) (tgt := 51) dX7_market_164 (by decide) ?_
    refine hst G160 ⟨fun c h7 h8 h9 h10 h11 h12 h13 h14 => by rw [e160 c h14, e153 c h10, e146 c h13, e131 c h12, e116 c h11, e101 c h9, e86 c h8, e71 c h7]; exact hV.1 c h7 h8 h9 h10 h11 h12 h13 h14, fun c hc => ?_, fun i hi => ?_⟩
    · rcases hc with rfl | rfl | rfl | rfl | rfl | rfl
      · refine ⟨fun i hi => ?_, fun i hi => ?_⟩
        · rw [e160 _ (by decide), e153 _ (by decide), e146 _ (by decide), e131 _ (by decide), e116 _ (by decide), e101 _ (by decide), e86 _ (by decide), f71]
          unfold upd
          by_cases q9 : i = k
          · subst q9; rw [if_pos rfl]
          · rw [if_neg q9]; exact (hV.2.1 7 (by decide)).1 i (by omega)
        · rw [e160 _ (by decide), e153 _ (by decide), e146 _ (by decide), e131 _ (by decide), e116 _ (by decide), e101 _ (by decide), e86 _ (by decide), f71, pk_un (by omega)]; exact (hV.2.1 7 (by decide)).2 i hi
      · refine ⟨fun i hi => ?_, fun i hi => ?_⟩
        · rw [e160 _ (by decide), e153 _ (by decide), e146 _ (by decide), e131 _ (by decide), e116 _ (by decide), e101 _ (by decide), f86]
          unfold upd
          by_cases q9 : i = k
          · subst q9; rw [if_pos rfl]
          · rw [if_neg q9, e71 _ (by decide)]; exact (hV.2.1 8 (by decide)).1 i (by omega)
        · rw [e160 _ (by decide), e153 _ (by decide), e146 _ (by decide), e131 _ (by decide), e116 _ (by decide), e101 _ (by decide), f86, pk_un (by omega), e71 _ (by decide)]; exact (hV.2.1 8 (by decide)).2 i hi
      · refine ⟨fun i hi => ?_, fun i hi => ?_⟩
        · rw [e160 _ (by decide), e153 _ (by decide), e146 _ (by decide), e131 _ (by decide), e116 _ (by decide), f101]
          unfold upd
          by_cases q9 : i = k
          · subst q9; rw [if_pos rfl]
          · rw [if_neg q9, e86 _ (by decide), e71 _ (by decide)]; exact (hV.2.1 9 (by decide)).1 i (by omega)
        · rw [e160 _ (by decide), e153 _ (by decide), e146 _ (by decide), e131 _ (by decide), e116 _ (by decide), f101, pk_un (by omega), e86 _ (by decide), e71 _ (by decide)]; exact (hV.2.1 9 (by decide)).2 i hi
      · refine ⟨fun i hi => ?_, fun i hi => ?_⟩
        · rw [e160 _ (by decide), e153 _ (by decide), e146 _ (by decide), e131 _ (by decide), f116]
          unfold upd
          by_cases q9 : i = k
          · subst q9; rw [if_pos rfl]
          · rw [if_neg q9, e101 _ (by decide), e86 _ (by decide), e71 _ (by decide)]; exact (hV.2.1 11 (by decide)).1 i (by omega)
        · rw [e160 _ (by decide), e153 _ (by decide), e146 _ (by decide), e131 _ (by decide), f116, pk_un (by omega), e101 _ (by decide), e86 _ (by decide), e71 _ (by decide)]; exact (hV.2.1 11 (by decide)).2 i hi
      · refine ⟨fun i hi => ?_, fun i hi => ?_⟩
        · rw [e160 _ (by decide), e153 _ (by decide), e146 _ (by decide), f131]
          unfold upd
          by_cases q9 : i = k
          · subst q9; rw [if_pos rfl]
          · rw [if_neg q9, e116 _ (by decide), e101 _ (by decide), e86 _ (by decide), e71 _ (by decide)]; exact (hV.2.1 12 (by decide)).1 i (by omega)
        · rw [e160 _ (by decide), e153 _ (by decide), e146 _ (by decide), f131, pk_un (by omega), e116 _ (by decide), e101 _ (by decide), e86 _ (by decide), e71 _ (by decide)]; exact (hV.2.1 12 (by decide)).2 i hi
      · refine ⟨fun i hi => ?_, fun i hi => ?_⟩
        · rw [e160 _ (by decide), e153 _ (by decide), f146]
          unfold upd
          by_cases q9 : i = k
          · subst q9; rw [if_pos rfl]
          · rw [if_neg q9, e131 _ (by decide), e116 _ (by decide), e101 _ (by decide), e86 _ (by decide), e71 _ (by decide)]; exact (hV.2.1 13 (by decide)).1 i (by omega)
        · rw [e160 _ (by decide), e153 _ (by decide), f146, pk_un (by omega), e131 _ (by decide), e116 _ (by decide), e101 _ (by decide), e86 _ (by decide), e71 _ (by decide)]; exact (hV.2.1 13 (by decide)).2 i hi
    · rw [e160 _ (by decide), f153, f160]
      unfold upd
      by_cases q9 : i = k
      · subst q9; rw [if_pos rfl, if_pos rfl]; exact ⟨rfl, rfl⟩
      · rw [if_neg q9, if_neg q9, e146 _ (by decide), e131 _ (by decide), e116 _ (by decide), e101 _ (by decide), e86 _ (by decide), e71 _ (by decide), e153 _ (by decide), e146 _ (by decide), e131 _ (by decide), e116 _ (by decide), e101 _ (by decide), e86 _ (by decide), e71 _ (by decide)]; exact hV.2.2 i (by omega)
def uMk3 (u v : cm_g2) (A : pA) (m : Nat) : Prop := (v 0 9 = nI A.2.2.1 ∧ v 0 10 = nI A.2.1.1 ∧ v 0 8 = A.1 ∧ v 0 19 = 0 ∧ v 0 20 = 0 ∧ v 0 0 = u 0 0 ∧ v 0 2 = u 0 2) ∧ (∀ k, k < A.2.1.1 → v 11 k = (A.2.1.2 k).1 ∧ v 12 k = (A.2.1.2 k).2.1 ∧ v 13 k = (A.2.1.2 k).2.2 ∧ v 14 k = 0) ∧ (∀ i, i < A.2.2.1 → v 7 i = (A.2.2.2 i).1 ∧ v 8 i = (A.2.2.2 i).2.1 ∧ v 9 i = (A.2.2.2 i).2.2 ∧ v 10 i = 0) ∧ (∀ k, k < m → v 16 (32 * k) = -9) ∧ v 1 = u 1 ∧ v 2 = u 2 ∧ v 3 = u 3 ∧ v 5 = u 5 ∧ v 6 = u 6
set_option maxRecDepth 20000 in
theorem l_mk3 (hE : cm_mdl sh hr e) {y2 : Int32} : ∀ q k : Nat, k + q = 3 → ∀ W, uMk3 u W A k → cm_g D mX7_market (d + 6) 0 0 (fun r9 h9 => ∃ v, r9 = some (.int (nI A.2.2.1)) ∧ h9 = (sh, cm_us hi e v, hl, hr) ∧ uMk u v A) 0 0 179 [some (.ref e), some (.int (nI t)), some (.int y2), some (.int (nI k))] [] (sh, cm_us hi e (W), hl, hr) := by
  intro q
  induction q with
  | zero =>
    intro k hk W hW
    have h1 : k = 3 := by omega
    subst h1
    refine cm_iload3 (pc := 179) dX7_market_179 ?_
    refine cm_iconst (pc := 180) (v := 3) dX7_market_180 (by decide) ?_
    refine cm_icmp_ge (pc := 181) (tgt := 201) dX7_market_181 (by decide) (fun c181 => ?_) (fun q => absurd (by decide) q)
    refine cm_aload0 (pc := 201) dX7_market_201 ?_
    refine mk_fld (pc := 202) flX7_151 dX7_market_202 hE.1 ?_
    rw [hW.1.1]
    exact cm_iret (pc := 205) dX7_market_205 rfl ⟨W, rfl, rfl, hW⟩
  | succ q ih =>
    intro k hk W hW
    have hst := ih (k + 1) (by omega)
    refine cm_iload3 (pc := 179) dX7_market_179 ?_
    refine cm_iconst (pc := 180) (v := 3) dX7_market_180 (by decide) ?_
    refine cm_icmp_ge (pc := 181) (tgt := 201) dX7_market_181 (by decide) (fun q => absurd q (nI_ge (a := k) (b := 3) (by omega) (by omega))) (fun c181 => ?_)
    refine cm_aload0 (pc := 184) dX7_market_184 ?_
    refine cm_getR (pc := 185) flX7_55 dX7_market_185 hE.1 hE.r29 ?_
    refine cm_bipush (pc := 188) (v := 32) dX7_market_188 (by decide) ?_
    refine cm_iload3 (pc := 190) dX7_market_190 ?_
    refine cm_imul (pc := 191) dX7_market_191 ?_
    rw [show (32 : Int32) * nI k = nI (32 * k) by rw [show (32 : Int32) = nI 32 from rfl, pk_mul]]
    refine cm_bipush (pc := 192) (v := -9) dX7_market_192 (by decide) ?_
    refine mk_putE (pc := 194) (32 * k) dX7_market_194 hE.a16 rfl (by omega) (by decide) ?_
    refine cm_mkG (fun G194 e194 f194 => ?_)
    refine cm_incN3 (pc := 195) dX7_market_195 (by decide) rfl ?_
    refine cm_goto (pc := 198) (tgt := 179) dX7_market_198 (by decide) ?_
    refine hst G194 ⟨by rw [e194 0 (by decide)]; exact hW.1, fun k hk => by rw [e194 _ (by decide), e194 _ (by decide), e194 _ (by decide), e194 _ (by decide)]; exact hW.2.1 k hk, fun i hi => by rw [e194 _ (by decide), e194 _ (by decide), e194 _ (by decide), e194 _ (by decide)]; exact hW.2.2.1 i hi, fun j hj => ?_, by rw [e194 _ (by decide)]; exact hW.2.2.2.2.1, by rw [e194 _ (by decide)]; exact hW.2.2.2.2.2.1, by rw [e194 _ (by decide)]; exact hW.2.2.2.2.2.2.1, by rw [e194 _ (by decide)]; exact hW.2.2.2.2.2.2.2.1, by rw [e194 _ (by decide)]; exact hW.2.2.2.2.2.2.2.2⟩
    rw [f194]
    unfold upd
    by_cases q9 : j = k
    · subst q9; rw [if_pos rfl]
    · rw [if_neg (by omega)]; exact hW.2.2.2.1 j (by omega)
set_option maxHeartbeats 1000000 in
set_option maxRecDepth 20000 in
theorem r_market (hE : cm_mdl sh hr e) {t : Int32} (hI : uInv u) : cm_ct D mX7_market (d + 6) 0 0 [.ref e, .int t] (sh, cm_us hi e u, hl, hr) (fun r9 h9 => ∃ v, h9 = (sh, cm_us hi e v, hl, hr) ∧ (if 0 ≤ (uAT u t).1 then (match pRun (pC (fun i => u 6 (80 * t.toNatClampNeg + i)) (u 5 t.toNatClampNeg).toNatClampNeg) (u 5 t.toNatClampNeg).toNatClampNeg (u 5 t.toNatClampNeg).toNatClampNeg 0 pA0 with | .error _ => r9 = some (.int (-4)) ∧ uFr u v | .ok B => r9 = some (.int (nI B.2.2.1)) ∧ uMk u v B) else r9 = some (.int (uAT u t).1) ∧ v = (uAT u t).2)) := by
  refine cm_ct_of (ls := [some (.ref e), some (.int t), none, none]) 2 (by decide +kernel) rfl rfl ?_
  refine cm_aload0 (pc := 0) dX7_market_0 ?_
  refine cm_iload1 (pc := 1) dX7_market_1 ?_
  refine cm_V1 (pc := 2) mX7_askedText_v mlX7_115 dX7_market_2 hE.1 (by omega) (Nat.le_of_ble_eq_true rfl) (Nat.le_refl _) (Nat.le_refl _) (r_askedText (d := d + 3) hE) (fun r2 h2 hq2 => ?_)
  obtain ⟨rfl, rfl⟩ := hq2
  refine cm_istore2 (pc := 5) dX7_market_5 (by decide) rfl ?_
  refine cm_iload2 (pc := 6) dX7_market_6 ?_
  refine cm_if_ge (pc := 7) (tgt := 12) dX7_market_7 (by decide) (fun c6 => ?_) (fun c6 => ?_)
  · have hAR : uIn t 0 3 = true ∧ 0 ≤ u 5 t.toNatClampNeg ∧ (uAT u t).2 = u := by
      by_cases w1 : uIn t 0 3 = false
      · exact absurd c6 (by rw [show (uAT u t).1 = -1 by simp [uAT, w1]]; decide)
      · by_cases w2 : 0 ≤ u 5 t.toNatClampNeg
        · exact ⟨by simpa using w1, w2, by simp [uAT, w1, w2]⟩
        · exact absurd c6 (by rw [show (uAT u t).1 = -3 by simp [uAT, w1, w2]]; decide)
    rw [hAR.2.2]
    obtain ⟨j, hj, rfl⟩ := uIn_ex 3 hAR.1
    have hjc : (nI j).toNatClampNeg = j := nI_clamp (by omega)
    obtain ⟨n, hn80, hsz⟩ := (hI.2 j (by omega)).ge (by have := hAR.2.1; rw [hjc] at this; exact this)
    have hnc : (u 5 j).toNatClampNeg = n := by rw [hsz]; exact nI_clamp (by omega)
    have hx : uTx u j n (fun i => u 6 (80 * j + i)) := ⟨hsz, fun i _ => rfl⟩
    refine cm_aload0 (pc := 12) dX7_market_12 ?_
    refine cm_iload1 (pc := 13) dX7_market_13 ?_
    refine cm_V1 (pc := 14) mX7_goesOn_v mlX7_148 dX7_market_14 hE.1 (by omega) (Nat.le_of_ble_eq_true rfl) (Nat.le_refl _) (Nat.le_refl _) (r_goesOn (d := d) hE (by omega) hx hn80) (fun r14 h14 hq14 => ?_)
    obtain ⟨v14, rfl, V14, U14⟩ := hq14
    cases hpr : pRun (pC (fun i => u 6 (80 * j + i)) n) n n 0 pA0 with
    | error q =>
      rw [hpr] at U14
      obtain ⟨rfl, U1⟩ := U14
      refine cm_bipush (pc := 17) (v := -9) dX7_market_17 (by decide) ?_
      refine cm_icmp_eq (pc := 19) (tgt := 25) dX7_market_19 (by decide) (fun c19 => ?_) (fun c19 => ?_)
      · exact absurd (show wI (some q) = -9 from c19) (wI_ne (by omega))
      · refine cm_bipush (pc := 22) (v := -4) dX7_market_22 (by decide) ?_
        refine cm_iret (pc := 24) dX7_market_24 rfl ⟨v14, rfl, ?_⟩
        rw [if_pos c6]
        simp only [hjc]
        rw [hnc, hpr]
        exact ⟨by trivial, V14⟩
    | ok B =>
      rw [hpr] at U14
      obtain ⟨rfl, U1⟩ := U14
      refine cm_bipush (pc := 17) (v := -9) dX7_market_17 (by decide) ?_
      refine cm_icmp_eq (pc := 19) (tgt := 25) dX7_market_19 (by decide) (fun _ => ?_) (fun q => absurd rfl q)
      refine cm_aload0 (pc := 25) dX7_market_25 ?_
      refine cm_aload0 (pc := 26) dX7_market_26 ?_
      refine mk_fld (pc := 27) flX7_130 dX7_market_27 hE.1 ?_
      rw [U1.1.2.1]
      refine mk_set (pc := 30) fpX7_151 dX7_market_30 hE.1 ?_
      refine cm_mkG (fun G30 e30 f30 => ?_)
      refine cm_aload0 (pc := 33) dX7_market_33 ?_
      refine cm_aload0 (pc := 34) dX7_market_34 ?_
      refine mk_fld (pc := 35) flX7_133 dX7_market_35 hE.1 ?_
      rw [show G30 0 24 = nI B.2.1.1 by rw [f30, pk_un (by decide)]; exact U1.1.2.2.1]
      refine mk_set (pc := 38) fpX7_154 dX7_market_38 hE.1 ?_
      refine cm_mkG (fun G38 e38 f38 => ?_)
      refine cm_aload0 (pc := 41) dX7_market_41 ?_
      refine cm_aload0 (pc := 42) dX7_market_42 ?_
      refine mk_fld (pc := 43) flX7_127 dX7_market_43 hE.1 ?_
      rw [show G38 0 22 = B.1 by rw [f38, pk_un (by decide), f30, pk_un (by decide)]; exact U1.1.1]
      refine mk_set (pc := 46) fpX7_157 dX7_market_46 hE.1 ?_
      refine cm_mkG (fun G46 e46 f46 => ?_)
      refine cm_iconst (pc := 49) (v := 0) dX7_market_49 (by decide) ?_
      refine cm_istore3 (pc := 50) dX7_market_50 (by decide) rfl ?_
      refine l_mkt hE (V0 := G46) (t := j) (fun V hV z => ?_) 6 0 (by omega) G46 ⟨fun _ _ _ _ _ _ _ _ _ => rfl, fun c hc => ⟨fun i hi => absurd hi (Nat.not_lt_zero _), fun _ _ => rfl⟩, fun i hi => absurd hi (Nat.not_lt_zero _)⟩
      refine cm_aload0 (pc := 167) dX7_market_167 ?_
      refine cm_iconst (pc := 168) (v := 0) dX7_market_168 (by decide) ?_
      refine mk_set (pc := 169) fpX7_160 dX7_market_169 hE.1 ?_
      refine cm_mkG (fun G169 e169 f169 => ?_)
      refine cm_aload0 (pc := 172) dX7_market_172 ?_
      refine cm_iconst (pc := 173) (v := 0) dX7_market_173 (by decide) ?_
      refine mk_set (pc := 174) fpX7_163 dX7_market_174 hE.1 ?_
      refine cm_mkG (fun G174 e174 f174 => ?_)
      refine cm_iconst (pc := 177) (v := 0) dX7_market_177 (by decide) ?_
      refine cm_istore3 (pc := 178) dX7_market_178 (by decide) rfl ?_
      refine cm_g_imp (fun r9 h9 q => ?_) (l_mk3 hE (u := u) (A := B) (t := j) 3 0 (by omega) G174 ⟨⟨?_, ?_, ?_, ?_, ?_, ?_, ?_⟩, fun k hk => ?_, fun i hi => ?_, fun k hk => absurd hk (Nat.not_lt_zero _), ?_, ?_, ?_, ?_, ?_⟩)
      · obtain ⟨v, rfl, rfl, q3⟩ := q
        refine ⟨v, rfl, ?_⟩
        rw [if_pos c6]
        simp only [hjc]
        rw [hnc, hpr]
        exact ⟨by trivial, q3⟩
      · rw [f174, pk_un (by decide), f169, pk_un (by decide), hV.1 0 (by decide) (by decide) (by decide) (by decide) (by decide) (by decide) (by decide) (by decide), f46, pk_un (by decide), f38, pk_un (by decide), f30, pk_us]
      · rw [f174, pk_un (by decide), f169, pk_un (by decide), hV.1 0 (by decide) (by decide) (by decide) (by decide) (by decide) (by decide) (by decide) (by decide), f46, pk_un (by decide), f38, pk_us]
      · rw [f174, pk_un (by decide), f169, pk_un (by decide), hV.1 0 (by decide) (by decide) (by decide) (by decide) (by decide) (by decide) (by decide) (by decide), f46, pk_us]
      · rw [f174, pk_un (by decide), f169, pk_us]
      · rw [f174, pk_us]
      · rw [f174, pk_un (by decide), f169, pk_un (by decide), hV.1 0 (by decide) (by decide) (by decide) (by decide) (by decide) (by decide) (by decide) (by decide), f46, pk_un (by decide), f38, pk_un (by decide), f30, pk_un (by decide)]; exact V14.2.1 0 (by decide) (by decide) (by decide) (by decide)
      · rw [f174, pk_un (by decide), f169, pk_un (by decide), hV.1 0 (by decide) (by decide) (by decide) (by decide) (by decide) (by decide) (by decide) (by decide), f46, pk_un (by decide), f38, pk_un (by decide), f30, pk_un (by decide)]; exact V14.2.1 2 (by decide) (by decide) (by decide) (by decide)
      · have h6 : k < 6 := by have := U1.1.2.2.2.1; omega
        rw [e174 11 (by decide), e174 12 (by decide), e174 13 (by decide), e174 14 (by decide), e169 11 (by decide), e169 12 (by decide), e169 13 (by decide), e169 14 (by decide), (hV.2.1 11 (by decide)).1 k h6, (hV.2.1 12 (by decide)).1 k h6, (hV.2.1 13 (by decide)).1 k h6, (hV.2.2 k h6).2, e46 11 (by decide), e46 12 (by decide), e46 13 (by decide), e38 11 (by decide), e38 12 (by decide), e38 13 (by decide), e30 11 (by decide), e30 12 (by decide), e30 13 (by decide)]
        exact ⟨(U1.2.1 k hk).1, (U1.2.1 k hk).2.1, (U1.2.1 k hk).2.2, rfl⟩
      · have h6 : i < 6 := by have := U1.1.2.2.2.2; omega
        rw [e174 7 (by decide), e174 8 (by decide), e174 9 (by decide), e174 10 (by decide), e169 7 (by decide), e169 8 (by decide), e169 9 (by decide), e169 10 (by decide), (hV.2.1 7 (by decide)).1 i h6, (hV.2.1 8 (by decide)).1 i h6, (hV.2.1 9 (by decide)).1 i h6, (hV.2.2 i h6).1, e46 7 (by decide), e46 8 (by decide), e46 9 (by decide), e38 7 (by decide), e38 8 (by decide), e38 9 (by decide), e30 7 (by decide), e30 8 (by decide), e30 9 (by decide)]
        exact ⟨(U1.2.2 i hi).1, (U1.2.2 i hi).2.1, (U1.2.2 i hi).2.2, rfl⟩
      · rw [e174 1 (by decide), e169 1 (by decide), hV.1 1 (by decide) (by decide) (by decide) (by decide) (by decide) (by decide) (by decide) (by decide), e46 1 (by decide), e38 1 (by decide), e30 1 (by decide)]; exact V14.1 1 (by decide) (by decide) (by decide) (by decide) (by decide) (by decide) (by decide)
      · rw [e174 2 (by decide), e169 2 (by decide), hV.1 2 (by decide) (by decide) (by decide) (by decide) (by decide) (by decide) (by decide) (by decide), e46 2 (by decide), e38 2 (by decide), e30 2 (by decide)]; exact V14.1 2 (by decide) (by decide) (by decide) (by decide) (by decide) (by decide) (by decide)
      · rw [e174 3 (by decide), e169 3 (by decide), hV.1 3 (by decide) (by decide) (by decide) (by decide) (by decide) (by decide) (by decide) (by decide), e46 3 (by decide), e38 3 (by decide), e30 3 (by decide)]; exact V14.1 3 (by decide) (by decide) (by decide) (by decide) (by decide) (by decide) (by decide)
      · rw [e174 5 (by decide), e169 5 (by decide), hV.1 5 (by decide) (by decide) (by decide) (by decide) (by decide) (by decide) (by decide) (by decide), e46 5 (by decide), e38 5 (by decide), e30 5 (by decide)]; exact V14.1 5 (by decide) (by decide) (by decide) (by decide) (by decide) (by decide) (by decide)
      · rw [e174 6 (by decide), e169 6 (by decide), hV.1 6 (by decide) (by decide) (by decide) (by decide) (by decide) (by decide) (by decide) (by decide), e46 6 (by decide), e38 6 (by decide), e30 6 (by decide)]; exact V14.1 6 (by decide) (by decide) (by decide) (by decide) (by decide) (by decide) (by decide)
  · refine cm_iload2 (pc := 10) dX7_market_10 ?_
    exact cm_iret (pc := 11) dX7_market_11 rfl ⟨(uAT u t).2, rfl, by rw [if_neg c6]; exact ⟨rfl, rfl⟩⟩
end U1
