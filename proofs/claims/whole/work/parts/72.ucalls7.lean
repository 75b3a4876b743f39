/-! PART ucalls7: the reference's calls: spot, missed -/
theorem uOk.cg {u v : cm_g2} {nb ns : Nat} (h : uOk u nb ns) (e : uEq u v) : uOk v nb ns := by
  have hnb := h.1.2.1
  have hns := h.1.2.2.2
  refine ⟨by rw [e.1 9 (by decide), e.1 10 (by decide)]; exact h.1, fun i hi => by rw [e.2.2 8 (by decide) (by decide) i (by omega)]; exact h.2.1 i hi, fun k hk => by rw [e.2.2 11 (by decide) (by decide) k (by omega)]; exact h.2.2 k hk⟩
theorem uEq.symm {u v : cm_g2} (e : uEq u v) : uEq v u := ⟨fun j hj => (e.1 j hj).symm, fun c hc => (e.2.1 c hc).symm, fun c h1 h2 i hi => (e.2.2 c h1 h2 i hi).symm⟩
theorem uEq.up {u v : cm_g2} {c i : Nat} {x : Int32} (e : uEq u v) (h1 : 7 ≤ c) (h2 : c ≤ 14) : uEq (va_up u c (upd (u c) i x)) (va_up v c (upd (v c) i x)) := by
  refine ⟨fun j hj => ?_, fun c9 hc => ?_, fun c9 k1 k2 i9 hi9 => ?_⟩
  · rw [va_up_ne _ _ (by omega), va_up_ne _ _ (by omega)]; exact e.1 j hj
  · rw [va_up_ne _ _ (by omega), va_up_ne _ _ (by omega)]; exact e.2.1 c9 hc
  · by_cases q : c9 = c
    · subst q
      rw [va_up_self, va_up_self]
      unfold upd
      by_cases q2 : i9 = i
      · rw [if_pos q2, if_pos q2]
      · rw [if_neg q2, if_neg q2]; exact e.2.2 c9 k1 k2 i9 hi9
    · rw [va_up_ne _ _ q, va_up_ne _ _ q]; exact e.2.2 c9 k1 k2 i9 hi9
theorem up_back {v : cm_g2} {c i : Nat} {x : Int32} : va_up (va_up v c (upd (v c) i x)) c (upd (va_up v c (upd (v c) i x) c) i (v c i)) = v := by
  rw [va_up_self, bx_uu]
  funext c9
  by_cases q : c9 = c
  · subst q
    rw [va_up_self]
    funext i9
    unfold upd
    by_cases q2 : i9 = i
    · rw [if_pos q2, q2]
    · rw [if_neg q2, if_neg q2]
  · rw [va_up_ne _ _ q]
theorem upd2 {f : Nat → Int32} {k : Nat} {a b : Int32} : upd (upd f k a) k b = upd f k b := by
  funext j
  unfold upd
  by_cases q : j = k
  · rw [if_pos q, if_pos q]
  · rw [if_neg q, if_neg q, if_neg q]
theorem uEq.put {u V X : cm_g2} {c i : Nat} {x : Int32} (h : uEq u V) (k : uEq (va_up V c (upd (V c) i x)) X) (h1 : 7 ≤ c) (h2 : c ≤ 14) : uEq u (va_up X c (upd (X c) i (V c i))) := by
  have := k.up (i := i) (x := V c i) h1 h2
  rw [up_back] at this
  exact h.trans this
theorem uOk.w9 {u : cm_g2} {nb ns i : Nat} {x : Int32} (h : uOk u nb ns) : uOk (va_up u 9 (upd (u 9) i x)) nb ns := ⟨by rw [va_up_ne _ _ (by decide)]; exact h.1, fun i hi => by rw [va_up_ne _ _ (by decide)]; exact h.2.1 i hi, fun k hk => by rw [va_up_ne _ _ (by decide)]; exact h.2.2 k hk⟩
theorem uOk.w11 {u : cm_g2} {nb ns i s : Nat} (h : uOk u nb ns) (hs : s < 20) : uOk (va_up u 11 (upd (u 11) i (nI s))) nb ns := by
  refine ⟨by rw [va_up_ne _ _ (by decide)]; exact h.1, fun i hi => by rw [va_up_ne _ _ (by decide)]; exact h.2.1 i hi, fun k hk => ?_⟩
  rw [va_up_self]
  unfold upd
  split
  · rw [nI_toInt (by omega)]; omega
  · exact h.2.2 k hk
/-- spot: the market behind the trials of the first s SPOTS -/
def uSq (u : cm_g2) (nb ns n k : Nat) : Nat → cm_g2
  | 0 => u
  | s + 1 => uCB (uItW (uPA (va_up (uSq u nb ns n k s) 11 (upd (uSq u nb ns n k s 11) k (nI s)))) nb ns (fun _ => 0) (-9) n)
def uSqI (u : cm_g2) (nb ns n k s : Nat) : cm_g2 := uItW (uPA (va_up (uSq u nb ns n k s) 11 (upd (uSq u nb ns n k s 11) k (nI s)))) nb ns (fun _ => 0) (-9) n
def uSF (u : cm_g2) (nb ns n k s : Nat) : Int32 := uSqI u nb ns n k s 14 k - uSq u nb ns n k (s + 1) 14 k
def uSpot (u : cm_g2) (nb ns : Nat) (k n : Int32) : Int32 × cm_g2 := if uIn k 0 (u 0 10 - 1) = false ∨ uIn n 0 20 = false then (-1, u) else if u 0 9 = 0 then (-4, u) else (nI (cMax (uSF u nb ns n.toNatClampNeg k.toNatClampNeg) 20).2, uAsk (va_up (uSq u nb ns n.toNatClampNeg k.toNatClampNeg 20) 11 (upd (uSq u nb ns n.toNatClampNeg k.toNatClampNeg 20 11) k.toNatClampNeg (u 11 k.toNatClampNeg))) (cMax (uSF u nb ns n.toNatClampNeg k.toNatClampNeg) 20).1)
theorem uSq_eq {u : cm_g2} {nb ns n k : Nat} : ∀ s, uEq (va_up u 11 (upd (u 11) k (u 11 k))) (va_up (uSq u nb ns n k s) 11 (upd (uSq u nb ns n k s 11) k (u 11 k)))
  | 0 => uEq.refl
  | s + 1 => by
    refine (uSq_eq (nb := nb) (ns := ns) (n := n) s).trans ?_
    have h1 := uIt_back (u := va_up (uSq u nb ns n k s) 11 (upd (uSq u nb ns n k s 11) k (nI s))) (nb := nb) (ns := ns) (w := fun _ => 0) (lk := -9) n
    have h2 := h1.up (c := 11) (i := k) (x := u 11 k) (by decide) (by decide)
    rw [va_up_self, bx_uu] at h2
    rw [upd2] at h2
    exact h2
theorem uOk.sq {u : cm_g2} {nb ns n k : Nat} (h : uOk u nb ns) : ∀ s, s ≤ 20 → uOk (uSq u nb ns n k s) nb ns
  | 0, _ => h
  | s + 1, hs => ((uOk.sq h s (by omega)).w11 (i := k) (s := s) (by omega)).cg (uIt_back n)
/-- missed: the market behind the trials of the first BUYERS -/
def uMq (u : cm_g2) (nb ns n : Nat) : Nat → cm_g2
  | 0 => uCB (uLA u nb ns n)
  | i + 1 => va_up (uCB (uLA (va_up (uMq u nb ns n i) 9 (upd (uMq u nb ns n i 9) i 4)) nb ns n)) 9 (upd (uCB (uLA (va_up (uMq u nb ns n i) 9 (upd (uMq u nb ns n i 9) i 4)) nb ns n) 9) i (uMq u nb ns n i 9 i))
def uMF (u : cm_g2) (nb ns n i : Nat) : Int32 := uSz (uCB (uLA u nb ns n) 0 32 &&& ((1 <<< (nI i &&& 31)) ^^^ -1)) 10 - uSz (uCB (uLA (va_up (uMq u nb ns n i) 9 (upd (uMq u nb ns n i 9) i 4)) nb ns n) 0 32) 10
def uMb (F : Nat → Int32) (k : Nat) : Int32 := if k = 0 then -9 else nI (cMin F k).2
def uMissed (u : cm_g2) (nb ns : Nat) (n : Int32) : Int32 × cm_g2 := if uIn n 0 20 = false then (-1, u) else if u 0 9 = 0 then (-4, u) else (uMb (uMF u nb ns n.toNatClampNeg) nb, uAsk (uMq u nb ns n.toNatClampNeg nb) (cMin (uMF u nb ns n.toNatClampNeg) nb).1)
theorem uMq_eq {u : cm_g2} {nb ns n : Nat} : ∀ i, uEq u (uMq u nb ns n i)
  | 0 => uLA_back n
  | i + 1 => (uMq_eq i).put (uLA_back n) (by decide) (by decide)
theorem cMin_lt {F : Nat → Int32} : ∀ k, 0 < k → (cMin F k).2 < k
  | k + 1, _ => by
    unfold cMin
    split
    · exact Nat.lt_succ_self k
    · next hn =>
      rcases Nat.eq_zero_or_pos k with q | q
      · exact absurd (Or.inl q) hn
      · exact Nat.lt_succ_of_lt (cMin_lt k q)
theorem uMb_ne {F : Nat → Int32} {k : Nat} (hk : k ≤ 6) : uMb F k = -9 ↔ k = 0 := by
  unfold uMb
  by_cases q : k = 0
  · rw [if_pos q]; exact ⟨fun _ => q, fun _ => rfl⟩
  · rw [if_neg q]
    refine ⟨fun w => ?_, fun w => absurd w q⟩
    have h1 := cMin_lt (F := F) k (by omega)
    have h2 : (nI (cMin F k).2).toInt = (-9 : Int32).toInt := by rw [w]
    rw [nI_toInt (by omega)] at h2
    have : (-9 : Int32).toInt = -9 := by decide
    omega
section U7
variable {D : cm_D} {d : Nat} {sh : List cm_Sh} {hi u : cm_g2} {hl : Nat → Nat → Int64} {hr : Nat → Nat → Option Nat} {e nb ns : Nat}
set_option maxRecDepth 20000 in
theorem l_rspi (hE : cm_mdl sh hr e) {n : Nat} {V : cm_g2} {y1 y3 y4 y5 : Option Value} {y6 : Int32} {Q : Option Value → cm_H → Prop} (hV : uOk V nb ns) (hn20 : n ≤ 20) : ∀ q k : Nat, k + q = n → (kk : cm_g D mX7_spot (d + 5) 0 0 (Q) 0 0 84 [some (.ref e), y1, some (.int (nI n)), y3, y4, y5, some (.int y6), some (.int (nI n))] [] (sh, cm_us hi e (uItW V nb ns (fun _ => 0) (-9) n), hl, hr)) → cm_g D mX7_spot (d + 5) 0 0 (Q) 0 0 65 [some (.ref e), y1, some (.int (nI n)), y3, y4, y5, some (.int y6), some (.int (nI k))] [] (sh, cm_us hi e (uItW V nb ns (fun _ => 0) (-9) k), hl, hr) := by
  intro q
  induction q with
  | zero =>
    intro k hk kk
    have h1 : k = n := by omega
    subst h1
    refine cm_iload7 (pc := 65) dX7_spot_65 ?_
    refine cm_iload2 (pc := 67) dX7_spot_67 ?_
    refine cm_geN (pc := 68) (tgt := 84) dX7_spot_68 (by decide) (by omega) (by omega) (fun c68 => ?_) (fun c68 => ?_)
    · exact kk
    · exact absurd c68 (by omega)
  | succ q ih =>
    intro k hk kk
    have hst := ih (k + 1) (by omega)
    refine cm_iload7 (pc := 65) dX7_spot_65 ?_
    refine cm_iload2 (pc := 67) dX7_spot_67 ?_
    refine cm_geN (pc := 68) (tgt := 84) dX7_spot_68 (by decide) (by omega) (by omega) (fun c68 => ?_) (fun c68 => ?_)
    · exact absurd c68 (by omega)
    · refine cm_aload0 (pc := 71) dX7_spot_71 ?_
      refine cm_iconst (pc := 72) (v := 0) dX7_spot_72 (by decide) ?_
      refine cm_bipush (pc := 73) (v := -9) dX7_spot_73 (by decide) ?_
      refine cm_V2 (pc := 75) mX7_passMinute_v mlX7_241 dX7_spot_75 hE.1 (by omega) (Nat.le_of_ble_eq_true rfl) (Nat.le_refl _) (Nat.le_refl _) (r_passMinute (d := d) hE (hV.itw k)) (fun r75 h75 hq75 => ?_)
      obtain ⟨rfl, rfl⟩ := hq75
      refine cm_incN7 (pc := 78) dX7_spot_78 (by decide) rfl ?_
      refine cm_goto (pc := 81) (tgt := 65) dX7_spot_81 (by decide) ?_
      exact hst kk
set_option maxRecDepth 20000 in
set_option maxHeartbeats 1000000 in
theorem l_rspot (hE : cm_mdl sh hr e) {n k : Nat} (h : uOk u nb ns) (hk6 : k < ns) (hn20 : n ≤ 20) : ∀ q s : Nat, s + q = 20 → ∀ x7 : Option Value, cm_g D mX7_spot (d + 5) 0 0 (fun r9 h9 => r9 = some (.int (nI (cMax (uSF u nb ns n k) 20).2)) ∧ h9 = (sh, cm_us hi e (uAsk (va_up (uSq u nb ns n k 20) 11 (upd (uSq u nb ns n k 20 11) k (u 11 k))) (cMax (uSF u nb ns n k) 20).1), hl, hr)) 0 0 43 [some (.ref e), some (.int (nI k)), some (.int (nI n)), some (.int (u 11 k)), some (.int (nI (cMax (uSF u nb ns n k) s).2)), some (.int (cMax (uSF u nb ns n k) s).1), some (.int (nI s)), x7] [] (sh, cm_us hi e (uSq u nb ns n k s), hl, hr) := by
  have hnb := h.1.2.1
  have hns := h.1.2.2.2
  intro q
  induction q with
  | zero =>
    intro s hs x7
    have h1 : s = 20 := by omega
    subst h1
    refine cm_iload6 (pc := 43) dX7_spot_43 ?_
    refine cm_bipush (pc := 45) (v := 20) dX7_spot_45 (by decide) ?_
    refine cm_icmp_ge (pc := 47) (tgt := 145) dX7_spot_47 (by decide) (fun c47 => ?_) (fun q => absurd (by decide) q)
    refine cm_aload0 (pc := 145) dX7_spot_145 ?_
    refine cm_getR (pc := 146) flX7_40 dX7_spot_146 hE.1 hE.r15 ?_
    refine cm_iload1 (pc := 149) dX7_spot_149 ?_
    refine cm_iload3 (pc := 150) dX7_spot_150 ?_
    refine mk_put (pc := 151) dX7_spot_151 hE.a11 (by omega) (by decide) ?_
    refine cm_aload0 (pc := 152) dX7_spot_152 ?_
    refine cm_iload5 (pc := 153) dX7_spot_153 ?_
    refine cm_iload4 (pc := 155) dX7_spot_155 ?_
    refine cm_V2 (pc := 157) mX7_ask_v mlX7_109 dX7_spot_157 hE.1 (by omega) (Nat.le_of_ble_eq_true rfl) (Nat.le_refl _) (Nat.le_refl _) (r_ask (d := d + 4) hE) (fun r157 h157 hq157 => ?_)
    obtain ⟨rfl, rfl⟩ := hq157
    exact cm_iret (pc := 160) dX7_spot_160 rfl ⟨rfl, rfl⟩
  | succ q ih =>
    intro s hs x7
    have hst := ih (s + 1) (by omega)
    have k107 : cm_g D mX7_spot (d + 5) 0 0 (fun r9 h9 => r9 = some (.int (nI (cMax (uSF u nb ns n k) 20).2)) ∧ h9 = (sh, cm_us hi e (uAsk (va_up (uSq u nb ns n k 20) 11 (upd (uSq u nb ns n k 20 11) k (u 11 k))) (cMax (uSF u nb ns n k) 20).1), hl, hr)) 0 0 107 [some (.ref e), some (.int (nI k)), some (.int (nI n)), some (.int (u 11 k)), some (.int (nI (cMax (uSF u nb ns n k) s).2)), some (.int (cMax (uSF u nb ns n k) s).1), some (.int (nI s)), some (.int (uSF u nb ns n k s))] [] (sh, cm_us hi e (uSq u nb ns n k (s + 1)), hl, hr) := by
      refine cm_iload7 (pc := 107) dX7_spot_107 ?_
      refine cm_iload5 (pc := 109) dX7_spot_109 ?_
      refine cm_icmp_le (pc := 111) (tgt := 119) dX7_spot_111 (by decide) (fun c111 => ?_) (fun c111 => ?_)
      · have c111b : ¬ (cMax (uSF u nb ns n k) s).1 < uSF u nb ns n k s := Int32.not_lt.mpr c111
        refine cm_iload4 (pc := 119) dX7_spot_119 ?_
        refine cm_istore4 (pc := 121) dX7_spot_121 (by decide) rfl ?_
        refine cm_iload7 (pc := 123) dX7_spot_123 ?_
        refine cm_iload5 (pc := 125) dX7_spot_125 ?_
        refine cm_icmp_le (pc := 127) (tgt := 135) dX7_spot_127 (by decide) (fun c127 => ?_) (fun c127 => ?_)
        · refine cm_iload5 (pc := 135) dX7_spot_135 ?_
          refine cm_istore5 (pc := 137) dX7_spot_137 (by decide) rfl ?_
          refine cm_incN6 (pc := 139) dX7_spot_139 (by decide) rfl ?_
          refine cm_goto (pc := 142) (tgt := 43) dX7_spot_142 (by decide) ?_
          have e9 : cMax (uSF u nb ns n k) (s + 1) = cMax (uSF u nb ns n k) s := by
            show (if (cMax (uSF u nb ns n k) s).1 < uSF u nb ns n k s then _ else _) = _
            rw [if_neg c111b]
          rw [e9] at hst
          exact hst _
        · refine cm_iload7 (pc := 130) dX7_spot_130 ?_
          refine cm_goto (pc := 132) (tgt := 137) dX7_spot_132 (by decide) ?_
          refine cm_istore5 (pc := 137) dX7_spot_137 (by decide) rfl ?_
          refine cm_incN6 (pc := 139) dX7_spot_139 (by decide) rfl ?_
          refine cm_goto (pc := 142) (tgt := 43) dX7_spot_142 (by decide) ?_
          exact absurd c111 c127
      · have c111b : (cMax (uSF u nb ns n k) s).1 < uSF u nb ns n k s := Int32.not_le.mp c111
        refine cm_iload6 (pc := 114) dX7_spot_114 ?_
        refine cm_goto (pc := 116) (tgt := 121) dX7_spot_116 (by decide) ?_
        refine cm_istore4 (pc := 121) dX7_spot_121 (by decide) rfl ?_
        refine cm_iload7 (pc := 123) dX7_spot_123 ?_
        refine cm_iload5 (pc := 125) dX7_spot_125 ?_
        refine cm_icmp_le (pc := 127) (tgt := 135) dX7_spot_127 (by decide) (fun c127 => ?_) (fun c127 => ?_)
        · refine cm_iload5 (pc := 135) dX7_spot_135 ?_
          refine cm_istore5 (pc := 137) dX7_spot_137 (by decide) rfl ?_
          refine cm_incN6 (pc := 139) dX7_spot_139 (by decide) rfl ?_
          refine cm_goto (pc := 142) (tgt := 43) dX7_spot_142 (by decide) ?_
          exact absurd c127 c111
        · refine cm_iload7 (pc := 130) dX7_spot_130 ?_
          refine cm_goto (pc := 132) (tgt := 137) dX7_spot_132 (by decide) ?_
          refine cm_istore5 (pc := 137) dX7_spot_137 (by decide) rfl ?_
          refine cm_incN6 (pc := 139) dX7_spot_139 (by decide) rfl ?_
          refine cm_goto (pc := 142) (tgt := 43) dX7_spot_142 (by decide) ?_
          have e9 : cMax (uSF u nb ns n k) (s + 1) = (uSF u nb ns n k s, s) := by
            show (if (cMax (uSF u nb ns n k) s).1 < uSF u nb ns n k s then _ else _) = _
            rw [if_pos c111b]
          rw [e9] at hst
          exact hst _
    have k84 : cm_g D mX7_spot (d + 5) 0 0 (fun r9 h9 => r9 = some (.int (nI (cMax (uSF u nb ns n k) 20).2)) ∧ h9 = (sh, cm_us hi e (uAsk (va_up (uSq u nb ns n k 20) 11 (upd (uSq u nb ns n k 20 11) k (u 11 k))) (cMax (uSF u nb ns n k) 20).1), hl, hr)) 0 0 84 [some (.ref e), some (.int (nI k)), some (.int (nI n)), some (.int (u 11 k)), some (.int (nI (cMax (uSF u nb ns n k) s).2)), some (.int (cMax (uSF u nb ns n k) s).1), some (.int (nI s)), some (.int (nI n))] [] (sh, cm_us hi e (uSqI u nb ns n k s), hl, hr) := by
      refine cm_aload0 (pc := 84) dX7_spot_84 ?_
      refine cm_getR (pc := 85) flX7_49 dX7_spot_85 hE.1 hE.r18 ?_
      refine cm_iload1 (pc := 88) dX7_spot_88 ?_
      refine mk_get (pc := 89) dX7_spot_89 hE.a14 (by omega) (by decide) ?_
      refine cm_istore7 (pc := 90) dX7_spot_90 (by decide) rfl ?_
      refine cm_aload0 (pc := 92) dX7_spot_92 ?_
      refine cm_V0 (pc := 93) mX7_comeBack_v mlX7_256 dX7_spot_93 hE.1 (by omega) (Nat.le_of_ble_eq_true rfl) (Nat.le_refl _) (Nat.le_refl _) (r_comeBack (d := d + 3) hE) (fun r93 h93 hq93 => ?_)
      obtain ⟨rfl, rfl⟩ := hq93
      refine cm_iload7 (pc := 96) dX7_spot_96 ?_
      refine cm_aload0 (pc := 98) dX7_spot_98 ?_
      refine cm_getR (pc := 99) flX7_49 dX7_spot_99 hE.1 hE.r18 ?_
      refine cm_iload1 (pc := 102) dX7_spot_102 ?_
      refine mk_get (pc := 103) dX7_spot_103 hE.a14 (by omega) (by decide) ?_
      refine cm_isub (pc := 104) dX7_spot_104 ?_
      refine cm_istore7 (pc := 105) dX7_spot_105 (by decide) rfl ?_
      exact k107
    refine cm_iload6 (pc := 43) dX7_spot_43 ?_
    refine cm_bipush (pc := 45) (v := 20) dX7_spot_45 (by decide) ?_
    refine cm_icmp_ge (pc := 47) (tgt := 145) dX7_spot_47 (by decide) (fun q => absurd q (nI_ge (a := s) (b := 20) (by omega) (by omega))) (fun c47 => ?_)
    refine cm_aload0 (pc := 50) dX7_spot_50 ?_
    refine cm_getR (pc := 51) flX7_40 dX7_spot_51 hE.1 hE.r15 ?_
    refine cm_iload1 (pc := 54) dX7_spot_54 ?_
    refine cm_iload6 (pc := 55) dX7_spot_55 ?_
    refine mk_put (pc := 57) dX7_spot_57 hE.a11 (by omega) (by decide) ?_
    refine cm_aload0 (pc := 58) dX7_spot_58 ?_
    refine cm_V0 (pc := 59) mX7_putAside_v mlX7_253 dX7_spot_59 hE.1 (by omega) (Nat.le_of_ble_eq_true rfl) (Nat.le_refl _) (Nat.le_refl _) (r_putAside (d := d + 3) hE) (fun r59 h59 hq59 => ?_)
    obtain ⟨rfl, rfl⟩ := hq59
    refine cm_iconst (pc := 62) (v := 0) dX7_spot_62 (by decide) ?_
    refine cm_istore7 (pc := 63) dX7_spot_63 (by decide) rfl ?_
    exact l_rspi hE ((h.sq s (by omega)).w11 (by omega)).pa hn20 n 0 (by omega) k84
set_option maxRecDepth 20000 in
theorem r_spot (hE : cm_mdl sh hr e) {k n : Int32} (h : uOk u nb ns) : cm_ct D mX7_spot (d + 5) 0 0 [.ref e, .int k, .int n] (sh, cm_us hi e u, hl, hr) (fun r9 h9 => r9 = some (.int (uSpot u nb ns k n).1) ∧ h9 = (sh, cm_us hi e (uSpot u nb ns k n).2, hl, hr)) := by
  have hnb := h.1.2.1
  have hns := h.1.2.2.2
  refine cm_ct_of (ls := [some (.ref e), some (.int k), some (.int n), none, none, none, none, none]) 5 (by decide +kernel) rfl rfl ?_
  refine cm_aload0 (pc := 0) dX7_spot_0 ?_
  refine cm_iload1 (pc := 1) dX7_spot_1 ?_
  refine cm_V1 (pc := 2) mX7_isStall_v mlX7_172 dX7_spot_2 hE.1 (by omega) (Nat.le_of_ble_eq_true rfl) (Nat.le_refl _) (Nat.le_refl _) (r_isStall (d := d + 3) hE) (fun r2 h2 hq2 => ?_)
  obtain ⟨rfl, rfl⟩ := hq2
  refine cm_ifeqB (pc := 5) (tgt := 15) dX7_spot_5 (by decide) (fun c5 => ?_) (fun c5 => ?_)
  · refine cm_iconst (pc := 15) (v := -1) dX7_spot_15 (by decide) ?_
    exact cm_iret (pc := 16) dX7_spot_16 rfl ⟨by unfold uSpot; rw [if_pos (Or.inl c5)], by unfold uSpot; rw [if_pos (Or.inl c5)]⟩
  · refine cm_iload2 (pc := 8) dX7_spot_8 ?_
    refine cm_S1 (pc := 9) mX7_isSpan_s mlX7_289 dX7_spot_9 (by omega) (Nat.le_of_ble_eq_true rfl) (Nat.le_refl _) (Nat.le_refl _) (r_isSpan (d := d + 3)) (fun r9 h9 hq9 => ?_)
    obtain ⟨rfl, rfl⟩ := hq9
    refine cm_ifneB (pc := 12) (tgt := 17) dX7_spot_12 (by decide) (fun c12 => ?_) (fun c12 => ?_)
    · obtain ⟨j, hj, rfl⟩ := uIn_b (m := ns) (by rw [← h.1.2.2.1]; exact c5) (by omega)
      have hjc : (nI j).toNatClampNeg = j := nI_clamp (by omega)
      have zn := uIn_zz.mp c12
      have z0n : (0 : Int32).toInt = 0 := by decide
      have znh : (20 : Int32).toInt = 20 := by decide
      rw [z0n, znh] at zn
      have en : n = nI n.toNatClampNeg := z_of (by omega)
      have wn : n.toNatClampNeg = n.toInt.toNat := rfl
      generalize hq9 : n.toNatClampNeg = q9 at *
      subst en
      refine cm_aload0 (pc := 17) dX7_spot_17 ?_
      refine mk_fld (pc := 18) flX7_151 dX7_spot_18 hE.1 ?_
      refine cm_if_ne (pc := 21) (tgt := 27) dX7_spot_21 (by decide) (fun c21 => ?_) (fun c21 => ?_)
      · refine cm_aload0 (pc := 27) dX7_spot_27 ?_
        refine cm_getR (pc := 28) flX7_40 dX7_spot_28 hE.1 hE.r15 ?_
        refine cm_iload1 (pc := 31) dX7_spot_31 ?_
        refine mk_get (pc := 32) dX7_spot_32 hE.a11 (by omega) (by decide) ?_
        refine cm_istore3 (pc := 33) dX7_spot_33 (by decide) rfl ?_
        refine cm_iconst (pc := 34) (v := 0) dX7_spot_34 (by decide) ?_
        refine cm_istore4 (pc := 35) dX7_spot_35 (by decide) rfl ?_
        refine cm_iconst (pc := 37) (v := -1) dX7_spot_37 (by decide) ?_
        refine cm_istore5 (pc := 38) dX7_spot_38 (by decide) rfl ?_
        refine cm_iconst (pc := 40) (v := 0) dX7_spot_40 (by decide) ?_
        refine cm_istore6 (pc := 41) dX7_spot_41 (by decide) rfl ?_
        refine cm_g_imp (fun r9 h9 q => ?_) (l_rspot hE h (n := q9) (k := j) hj (by omega) 20 0 (by omega) none)
        unfold uSpot
        rw [if_neg (fun w => by rcases w with w | w <;> first | (rw [c5] at w; cases w) | (rw [c12] at w; cases w)), if_neg c21, hjc, hq9]
        exact q
      · refine cm_bipush (pc := 24) (v := -4) dX7_spot_24 (by decide) ?_
        exact cm_iret (pc := 26) dX7_spot_26 rfl ⟨by unfold uSpot; rw [if_neg (fun w => by rcases w with w | w <;> first | (rw [c5] at w; cases w) | (rw [c12] at w; cases w)), if_pos c21], by unfold uSpot; rw [if_neg (fun w => by rcases w with w | w <;> first | (rw [c5] at w; cases w) | (rw [c12] at w; cases w)), if_pos c21]⟩
    · refine cm_iconst (pc := 15) (v := -1) dX7_spot_15 (by decide) ?_
      exact cm_iret (pc := 16) dX7_spot_16 rfl ⟨by unfold uSpot; rw [if_pos (Or.inr c12)], by unfold uSpot; rw [if_pos (Or.inr c12)]⟩
theorem uMb_s {F : Nat → Int32} {i : Nat} (hi : i ≤ 5) : (uMb F i = -9 ∨ F i < (cMin F i).1 → uMb F (i + 1) = nI i ∧ cMin F (i + 1) = (F i, i)) ∧ (¬ (uMb F i = -9) → ¬ F i < (cMin F i).1 → uMb F (i + 1) = uMb F i ∧ cMin F (i + 1) = cMin F i) := by
  have e := uMb_ne (F := F) (k := i) (by omega)
  refine ⟨fun w => ?_, fun w1 w2 => ?_⟩
  · have h1 : cMin F (i + 1) = (F i, i) := if_pos (w.elim (fun w => Or.inl (e.mp w)) Or.inr)
    exact ⟨by unfold uMb; rw [if_neg (by omega), h1], h1⟩
  · have h0 : ¬ i = 0 := fun w => w1 (e.mpr w)
    have h1 : cMin F (i + 1) = cMin F i := if_neg (fun w => w.elim h0 w2)
    exact ⟨by unfold uMb; rw [if_neg (by omega), if_neg h0, h1], h1⟩
set_option maxRecDepth 20000 in
set_option maxHeartbeats 1000000 in
theorem l_rmis (hE : cm_mdl sh hr e) {n : Nat} (h : uOk u nb ns) (hn20 : n ≤ 20) : ∀ q i : Nat, i + q = nb → ∀ x6 x7 x8 : Option Value, cm_g D mX7_missed (d + 6) 0 0 (fun r9 h9 => r9 = some (.int (uMb (uMF u nb ns n) nb)) ∧ h9 = (sh, cm_us hi e (uAsk (uMq u nb ns n nb) (cMin (uMF u nb ns n) nb).1), hl, hr)) 0 0 38 [some (.ref e), some (.int (nI n)), some (.int (uCB (uLA u nb ns n) 0 32)), some (.int (uMb (uMF u nb ns n) i)), some (.int (cMin (uMF u nb ns n) i).1), some (.int (nI i)), x6, x7, x8] [] (sh, cm_us hi e (uMq u nb ns n i), hl, hr) := by
  have hnb := h.1.2.1
  have hns := h.1.2.2.2
  intro q
  induction q with
  | zero =>
    intro i hi9 x6 x7 x8
    have h1 : i = nb := by omega
    subst h1
    refine cm_iload5 (pc := 38) dX7_missed_38 ?_
    refine cm_aload0 (pc := 40) dX7_missed_40 ?_
    refine mk_fld (pc := 41) flX7_151 dX7_missed_41 hE.1 ?_
    rw [((h.cg (uMq_eq i)).1.1)]
    refine cm_geN (pc := 44) (tgt := 151) dX7_missed_44 (by decide) (by omega) (by omega) (fun c44 => ?_) (fun c44 => ?_)
    · refine cm_aload0 (pc := 151) dX7_missed_151 ?_
      refine cm_iload4 (pc := 152) dX7_missed_152 ?_
      refine cm_iload3 (pc := 154) dX7_missed_154 ?_
      refine cm_V2 (pc := 155) mX7_ask_v mlX7_109 dX7_missed_155 hE.1 (by omega) (Nat.le_of_ble_eq_true rfl) (Nat.le_refl _) (Nat.le_refl _) (r_ask (d := d + 5) hE) (fun r155 h155 hq155 => ?_)
      obtain ⟨rfl, rfl⟩ := hq155
      exact cm_iret (pc := 158) dX7_missed_158 rfl ⟨rfl, rfl⟩
    · exact absurd c44 (by omega)
  | succ q ih =>
    intro i hi9 x6 x7 x8
    have hst := ih (i + 1) (by omega)
    have kT : (uMb (uMF u nb ns n) i = -9 ∨ uMF u nb ns n i < (cMin (uMF u nb ns n) i).1) → cm_g D mX7_missed (d + 6) 0 0 (fun r9 h9 => r9 = some (.int (uMb (uMF u nb ns n) nb)) ∧ h9 = (sh, cm_us hi e (uAsk (uMq u nb ns n nb) (cMin (uMF u nb ns n) nb).1), hl, hr)) 0 0 117 [some (.ref e), some (.int (nI n)), some (.int (uCB (uLA u nb ns n) 0 32)), some (.int (uMb (uMF u nb ns n) i)), some (.int (cMin (uMF u nb ns n) i).1), some (.int (nI i)), some (.int (uMq u nb ns n i 9 i)), some (.int (uMF u nb ns n i)), x8] [.int 1] (sh, cm_us hi e (uMq u nb ns n (i + 1)), hl, hr) := by
      intro w
      have uu := (uMb_s (F := (uMF u nb ns n)) (i := i) (by omega)).1 w
      refine cm_istore8 (pc := 117) dX7_missed_117 (by decide) rfl ?_
      refine cm_iload8 (pc := 119) dX7_missed_119 ?_
      refine cm_if_eq (pc := 121) (tgt := 129) dX7_missed_121 (by decide) (fun q => absurd q (by decide)) (fun c121 => ?_)
      refine cm_iload5 (pc := 124) dX7_missed_124 ?_
      refine cm_goto (pc := 126) (tgt := 130) dX7_missed_126 (by decide) ?_
      refine cm_istore3 (pc := 130) dX7_missed_130 (by decide) rfl ?_
      refine cm_iload8 (pc := 131) dX7_missed_131 ?_
      refine cm_if_eq (pc := 133) (tgt := 141) dX7_missed_133 (by decide) (fun q => absurd q (by decide)) (fun c133 => ?_)
      refine cm_iload7 (pc := 136) dX7_missed_136 ?_
      refine cm_goto (pc := 138) (tgt := 143) dX7_missed_138 (by decide) ?_
      refine cm_istore4 (pc := 143) dX7_missed_143 (by decide) rfl ?_
      refine cm_incN5 (pc := 145) dX7_missed_145 (by decide) rfl ?_
      refine cm_goto (pc := 148) (tgt := 38) dX7_missed_148 (by decide) ?_
      rw [uu.1, uu.2] at hst
      exact hst _ _ _
    have kF : ¬ (uMb (uMF u nb ns n) i = -9) → ¬ uMF u nb ns n i < (cMin (uMF u nb ns n) i).1 → cm_g D mX7_missed (d + 6) 0 0 (fun r9 h9 => r9 = some (.int (uMb (uMF u nb ns n) nb)) ∧ h9 = (sh, cm_us hi e (uAsk (uMq u nb ns n nb) (cMin (uMF u nb ns n) nb).1), hl, hr)) 0 0 117 [some (.ref e), some (.int (nI n)), some (.int (uCB (uLA u nb ns n) 0 32)), some (.int (uMb (uMF u nb ns n) i)), some (.int (cMin (uMF u nb ns n) i).1), some (.int (nI i)), some (.int (uMq u nb ns n i 9 i)), some (.int (uMF u nb ns n i)), x8] [.int 0] (sh, cm_us hi e (uMq u nb ns n (i + 1)), hl, hr) := by
      intro w1 w2
      have uu := (uMb_s (F := (uMF u nb ns n)) (i := i) (by omega)).2 w1 w2
      refine cm_istore8 (pc := 117) dX7_missed_117 (by decide) rfl ?_
      refine cm_iload8 (pc := 119) dX7_missed_119 ?_
      refine cm_if_eq (pc := 121) (tgt := 129) dX7_missed_121 (by decide) (fun c121 => ?_) (fun q => absurd rfl q)
      refine cm_iload3 (pc := 129) dX7_missed_129 ?_
      refine cm_istore3 (pc := 130) dX7_missed_130 (by decide) rfl ?_
      refine cm_iload8 (pc := 131) dX7_missed_131 ?_
      refine cm_if_eq (pc := 133) (tgt := 141) dX7_missed_133 (by decide) (fun c133 => ?_) (fun q => absurd rfl q)
      refine cm_iload4 (pc := 141) dX7_missed_141 ?_
      refine cm_istore4 (pc := 143) dX7_missed_143 (by decide) rfl ?_
      refine cm_incN5 (pc := 145) dX7_missed_145 (by decide) rfl ?_
      refine cm_goto (pc := 148) (tgt := 38) dX7_missed_148 (by decide) ?_
      rw [uu.1, uu.2] at hst
      exact hst _ _ _
    refine cm_iload5 (pc := 38) dX7_missed_38 ?_
    refine cm_aload0 (pc := 40) dX7_missed_40 ?_
    refine mk_fld (pc := 41) flX7_151 dX7_missed_41 hE.1 ?_
    rw [((h.cg (uMq_eq i)).1.1)]
    refine cm_geN (pc := 44) (tgt := 151) dX7_missed_44 (by decide) (by omega) (by omega) (fun c44 => ?_) (fun c44 => ?_)
    · exact absurd c44 (by omega)
    · refine cm_aload0 (pc := 47) dX7_missed_47 ?_
      refine cm_getR (pc := 48) flX7_34 dX7_missed_48 hE.1 hE.r13 ?_
      refine cm_iload5 (pc := 51) dX7_missed_51 ?_
      refine mk_get (pc := 53) dX7_missed_53 hE.a9 (by omega) (by decide) ?_
      refine cm_istore6 (pc := 54) dX7_missed_54 (by decide) rfl ?_
      refine cm_aload0 (pc := 56) dX7_missed_56 ?_
      refine cm_getR (pc := 57) flX7_34 dX7_missed_57 hE.1 hE.r13 ?_
      refine cm_iload5 (pc := 60) dX7_missed_60 ?_
      refine cm_iconst (pc := 62) (v := 4) dX7_missed_62 (by decide) ?_
      refine mk_put (pc := 63) dX7_missed_63 hE.a9 (by omega) (by decide) ?_
      refine cm_aload0 (pc := 64) dX7_missed_64 ?_
      refine cm_iload1 (pc := 65) dX7_missed_65 ?_
      refine cm_V1 (pc := 66) mX7_lookAhead_v mlX7_265 dX7_missed_66 hE.1 (by omega) (Nat.le_of_ble_eq_true rfl) (Nat.le_refl _) (Nat.le_refl _) (r_lookAhead (d := d) hE (h.cg (uMq_eq i)).w9 (by omega)) (fun r66 h66 hq66 => ?_)
      obtain ⟨rfl, rfl⟩ := hq66
      refine cm_aload0 (pc := 69) dX7_missed_69 ?_
      refine cm_getR (pc := 70) flX7_34 dX7_missed_70 hE.1 hE.r13 ?_
      refine cm_iload5 (pc := 73) dX7_missed_73 ?_
      refine cm_iload6 (pc := 75) dX7_missed_75 ?_
      refine mk_put (pc := 77) dX7_missed_77 hE.a9 (by omega) (by decide) ?_
      refine cm_iload2 (pc := 78) dX7_missed_78 ?_
      refine cm_iconst (pc := 79) (v := 1) dX7_missed_79 (by decide) ?_
      refine cm_iload5 (pc := 80) dX7_missed_80 ?_
      refine cm_ishl (pc := 82) dX7_missed_82 ?_
      refine cm_iconst (pc := 83) (v := -1) dX7_missed_83 (by decide) ?_
      refine cm_ixor (pc := 84) dX7_missed_84 ?_
      refine cm_iand (pc := 85) dX7_missed_85 ?_
      refine cm_S1 (pc := 86) mX7_sizeOf_s mlX7_192 dX7_missed_86 (by omega) (Nat.le_of_ble_eq_true rfl) (Nat.le_refl _) (Nat.le_refl _) (r_sizeOf (d := d + 5)) (fun r86 h86 hq86 => ?_)
      obtain ⟨rfl, rfl⟩ := hq86
      
      refine cm_aload0 (pc := 89) dX7_missed_89 ?_
      refine mk_fld (pc := 90) flX7_259 dX7_missed_90 hE.1 ?_
      refine cm_S1 (pc := 93) mX7_sizeOf_s mlX7_192 dX7_missed_93 (by omega) (Nat.le_of_ble_eq_true rfl) (Nat.le_refl _) (Nat.le_refl _) (r_sizeOf (d := d + 5)) (fun r93 h93 hq93 => ?_)
      obtain ⟨rfl, rfl⟩ := hq93
      refine cm_isub (pc := 96) dX7_missed_96 ?_
      refine cm_istore7 (pc := 97) dX7_missed_97 (by decide) rfl ?_
      refine cm_iload3 (pc := 99) dX7_missed_99 ?_
      refine cm_bipush (pc := 100) (v := -9) dX7_missed_100 (by decide) ?_
      refine cm_icmp_eq (pc := 102) (tgt := 112) dX7_missed_102 (by decide) (fun c102 => ?_) (fun c102 => ?_)
      · refine cm_iconst (pc := 112) (v := 1) dX7_missed_112 (by decide) ?_
        refine cm_goto (pc := 113) (tgt := 117) dX7_missed_113 (by decide) ?_
        exact kT (Or.inl c102)
      · refine cm_iload7 (pc := 105) dX7_missed_105 ?_
        refine cm_iload4 (pc := 107) dX7_missed_107 ?_
        refine cm_icmp_ge (pc := 109) (tgt := 116) dX7_missed_109 (by decide) (fun c109 => ?_) (fun c109 => ?_)
        · refine cm_iconst (pc := 116) (v := 0) dX7_missed_116 (by decide) ?_
          exact kF c102 (Int32.not_lt.mpr c109)
        · refine cm_iconst (pc := 112) (v := 1) dX7_missed_112 (by decide) ?_
          refine cm_goto (pc := 113) (tgt := 117) dX7_missed_113 (by decide) ?_
          exact kT (Or.inr (Int32.not_le.mp c109))
set_option maxRecDepth 20000 in
theorem r_missed (hE : cm_mdl sh hr e) {n : Int32} (h : uOk u nb ns) : cm_ct D mX7_missed (d + 6) 0 0 [.ref e, .int n] (sh, cm_us hi e u, hl, hr) (fun r9 h9 => r9 = some (.int (uMissed u nb ns n).1) ∧ h9 = (sh, cm_us hi e (uMissed u nb ns n).2, hl, hr)) := by
  have hnb := h.1.2.1
  have hns := h.1.2.2.2
  refine cm_ct_of (ls := [some (.ref e), some (.int n), none, none, none, none, none, none, none]) 7 (by decide +kernel) rfl rfl ?_
  refine cm_iload1 (pc := 0) dX7_missed_0 ?_
  refine cm_S1 (pc := 1) mX7_isSpan_s mlX7_289 dX7_missed_1 (by omega) (Nat.le_of_ble_eq_true rfl) (Nat.le_refl _) (Nat.le_refl _) (r_isSpan (d := d + 4)) (fun r1 h1 hq1 => ?_)
  obtain ⟨rfl, rfl⟩ := hq1
  refine cm_ifneB (pc := 4) (tgt := 9) dX7_missed_4 (by decide) (fun c4 => ?_) (fun c4 => ?_)
  · have zn := uIn_zz.mp c4
    have z0n : (0 : Int32).toInt = 0 := by decide
    have znh : (20 : Int32).toInt = 20 := by decide
    rw [z0n, znh] at zn
    have en : n = nI n.toNatClampNeg := z_of (by omega)
    have wn : n.toNatClampNeg = n.toInt.toNat := rfl
    generalize hq9 : n.toNatClampNeg = q9 at *
    subst en
    refine cm_aload0 (pc := 9) dX7_missed_9 ?_
    refine mk_fld (pc := 10) flX7_151 dX7_missed_10 hE.1 ?_
    refine cm_if_ne (pc := 13) (tgt := 19) dX7_missed_13 (by decide) (fun c13 => ?_) (fun c13 => ?_)
    · refine cm_aload0 (pc := 19) dX7_missed_19 ?_
      refine cm_iload1 (pc := 20) dX7_missed_20 ?_
      refine cm_V1 (pc := 21) mX7_lookAhead_v mlX7_265 dX7_missed_21 hE.1 (by omega) (Nat.le_of_ble_eq_true rfl) (Nat.le_refl _) (Nat.le_refl _) (r_lookAhead (d := d) hE h (by omega)) (fun r21 h21 hq21 => ?_)
      obtain ⟨rfl, rfl⟩ := hq21
      refine cm_aload0 (pc := 24) dX7_missed_24 ?_
      refine mk_fld (pc := 25) flX7_259 dX7_missed_25 hE.1 ?_
      refine cm_istore2 (pc := 28) dX7_missed_28 (by decide) rfl ?_
      refine cm_bipush (pc := 29) (v := -9) dX7_missed_29 (by decide) ?_
      refine cm_istore3 (pc := 31) dX7_missed_31 (by decide) rfl ?_
      refine cm_iconst (pc := 32) (v := 0) dX7_missed_32 (by decide) ?_
      refine cm_istore4 (pc := 33) dX7_missed_33 (by decide) rfl ?_
      refine cm_iconst (pc := 35) (v := 0) dX7_missed_35 (by decide) ?_
      refine cm_istore5 (pc := 36) dX7_missed_36 (by decide) rfl ?_
      refine cm_g_imp (fun r9 h9 q => ?_) (l_rmis hE h (n := q9) (by omega) nb 0 (by omega) none none none)
      unfold uMissed
      rw [if_neg (by rw [c4]; decide), if_neg c13, hq9]
      exact q
    · refine cm_bipush (pc := 16) (v := -4) dX7_missed_16 (by decide) ?_
      exact cm_iret (pc := 18) dX7_missed_18 rfl ⟨by unfold uMissed; rw [if_neg (by rw [c4]; decide), if_pos c13], by unfold uMissed; rw [if_neg (by rw [c4]; decide), if_pos c13]⟩
  · refine cm_iconst (pc := 7) (v := -1) dX7_missed_7 (by decide) ?_
    exact cm_iret (pc := 8) dX7_missed_8 rfl ⟨by unfold uMissed; rw [if_pos c4], by unfold uMissed; rw [if_pos c4]⟩
end U7
