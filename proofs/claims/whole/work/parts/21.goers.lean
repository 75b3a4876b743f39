/-! PART goers: the reference: nearest, wish, who goes -/
def uSgn (v : Int32) : Int32 := if v ≤ 0 then (if 0 ≤ v then 0 else -1) else 1
def uWant (u : cm_g2) (i : Nat) : Int32 := if u 9 i = 4 then -9 else u 9 i
def uWish (u : cm_g2) (ns i : Nat) : Int32 := if uA u i 2 then 0 else match uNear u i (uWant u i) (if u 7 i = 3 then 3 else uWant u i) ns with
  | none => 0
  | some k => uSgn (u 11 k - u 8 i)
def uStep (u : cm_g2) (nb i : Nat) (way : Int32) : cm_g2 := if uIn (u 8 i + way) 0 19 = true ∧ (i = 0 ∨ uHeld u (i - 1) (u 8 (i - 1)) (u 8 i + way) = true) ∧ (i + 1 = nb ∨ uHeld u i (u 8 i + way) (u 8 (i + 1)) = true) then va_up u 8 (upd (u 8) i (u 8 i + way)) else u
def uDown (u : cm_g2) (way : Int32) : Nat → Int32 → Int32
  | 0, s => s
  | j + 1, s => if uHeld u j (u 8 j) (u 8 (j + 1) + way) then s else uDown u way j (s ||| (1 <<< (nI j &&& 31)))
def uUp (u : cm_g2) (nb : Nat) (way : Int32) : Nat → Nat → Int32 → Int32
  | 0, _, s => s
  | n + 1, j, s => if j + 1 < nb then (if uHeld u j (u 8 j + way) (u 8 (j + 1)) then s else uUp u nb way n (j + 1) (s ||| (1 <<< (nI (j + 1) &&& 31)))) else s
def uSet (u : cm_g2) (nb i : Nat) (way : Int32) : Int32 := uUp u nb way nb i (uDown u way i (1 <<< (nI i &&& 31)))
def uBad (u : cm_g2) (i : Nat) (way s : Int32) (k : Nat) : Bool := uHas s (nI k) && (!uIn (u 8 k + way) 0 19 || (!decide (k = i) && uA u k 1))
def uChk (u : cm_g2) (i : Nat) (way s : Int32) : Nat → Nat → Int32
  | 0, _ => s
  | n + 1, k => if uBad u i way s k then 0 else uChk u i way s n (k + 1)
def uGo (u : cm_g2) (nb i : Nat) (way : Int32) : Int32 := uChk u i way (uSet u nb i way) nb 0
def uMv (u : cm_g2) (s way : Int32) (j : Nat) : cm_g2 := va_up u 8 (fun x => if x < j then u 8 x + (if uHas s (nI x) then way else 0) else u 8 x)
theorem uMv_0 (u : cm_g2) (s way : Int32) : uMv u s way 0 = u := by
  funext c x
  unfold uMv va_up
  split
  · next h => subst h; dsimp only; rw [if_neg (by omega)]
  · rfl
theorem uMv_at (u : cm_g2) (s way : Int32) (j : Nat) : uMv u s way j 8 j = u 8 j := by
  unfold uMv
  rw [va_up_self, if_neg (by omega)]
theorem uMv_succ (u : cm_g2) (s way : Int32) (j : Nat) {w : Int32} (hw : w = if uHas s (nI j) then way else 0) : va_up (uMv u s way j) 8 (upd (uMv u s way j 8) j (uMv u s way j 8 j + w)) = uMv u s way (j + 1) := by
  rw [uMv_at, hw]
  funext c x
  unfold uMv va_up upd
  by_cases hc : c = 8
  · subst hc
    simp only [if_pos]
    by_cases hx : x = j
    · subst hx
      rw [if_pos rfl, if_pos (show x < x + 1 by omega)]
    · rw [if_neg hx]
      by_cases h2 : x < j
      · rw [if_pos h2, if_pos (show x < j + 1 by omega)]
      · rw [if_neg h2, if_neg (show ¬ x < j + 1 by omega)]
  · simp only [if_neg hc]
def uRich (u : cm_g2) (nb ns i : Nat) : cm_g2 := uMv u (if uWish u ns i = 0 then 0 else uGo u nb i (uWish u ns i)) (uWish u ns i) nb
section MD2
variable {D : cm_D} {d : Nat} {sh : List cm_Sh} {hi u : cm_g2} {hl : Nat → Nat → Int64} {hr : Nat → Nat → Option Nat} {e nb ns : Nat}
set_option maxRecDepth 20000 in
theorem l_near (hE : cm_mdl sh hr e) {i : Nat} {gd ot : Int32} (h : uOk u nb ns) (hi6 : i < nb) : ∀ n k : Nat, k + n = ns → ∀ x6 x7 x8 : Option Value, cm_g D mX7_nearest (d + 1) 0 0 (fun r9 h9 => r9 = some (.int (cm_oi (uNear u i gd ot ns))) ∧ h9 = (sh, cm_us hi e u, hl, hr)) 0 0 7 [some (.ref e), some (.int (nI i)), some (.int gd), some (.int ot), some (.int (cm_oi (uNear u i gd ot k))), some (.int (nI k)), x6, x7, x8] [] (sh, cm_us hi e u, hl, hr) := by
  have h0 := h.1
  intro n
  induction n with
  | zero =>
    intro k hk x6 x7 x8
    have h1 : k = ns := by omega
    subst h1
    refine cm_iload5 (pc := 7) dX7_nearest_7 ?_
    refine cm_aload0 (pc := 9) dX7_nearest_9 ?_
    refine mk_fld (pc := 10) flX7_154 dX7_nearest_10 hE.1 ?_
    rw [h.1.2.2.1]
    refine cm_geN (pc := 13) (tgt := 146) dX7_nearest_13 (by decide) (by omega) (by omega) (fun c13 => ?_) (fun c13 => ?_)
    · refine cm_iload4 (pc := 146) dX7_nearest_146 ?_
      exact cm_iret (pc := 148) dX7_nearest_148 rfl ⟨rfl, rfl⟩
    · exact absurd c13 (by omega)
  | succ n ih =>
    intro k hk x6 x7 x8
    have hst := ih (k + 1) (by omega)
    simp only [uNear] at hst
    refine cm_iload5 (pc := 7) dX7_nearest_7 ?_
    refine cm_aload0 (pc := 9) dX7_nearest_9 ?_
    refine mk_fld (pc := 10) flX7_154 dX7_nearest_10 hE.1 ?_
    rw [h.1.2.2.1]
    refine cm_geN (pc := 13) (tgt := 146) dX7_nearest_13 (by decide) (by omega) (by omega) (fun c13 => ?_) (fun c13 => ?_)
    · exact absurd c13 (by omega)
    · refine cm_aload0 (pc := 16) dX7_nearest_16 ?_
      refine cm_getR (pc := 17) flX7_43 dX7_nearest_17 hE.1 hE.r16 ?_
      refine cm_iload5 (pc := 20) dX7_nearest_20 ?_
      refine mk_get (pc := 22) dX7_nearest_22 hE.a12 (by omega) (by decide) ?_
      refine cm_iload2 (pc := 23) dX7_nearest_23 ?_
      refine cm_icmp_eq (pc := 24) (tgt := 38) dX7_nearest_24 (by decide) (fun c24 => ?_) (fun c24 => ?_)
      · refine cm_aload0 (pc := 38) dX7_nearest_38 ?_
        refine cm_getR (pc := 39) flX7_40 dX7_nearest_39 hE.1 hE.r15 ?_
        refine cm_iload5 (pc := 42) dX7_nearest_42 ?_
        refine mk_get (pc := 44) dX7_nearest_44 hE.a11 (by omega) (by decide) ?_
        refine cm_aload0 (pc := 45) dX7_nearest_45 ?_
        refine cm_getR (pc := 46) flX7_31 dX7_nearest_46 hE.1 hE.r12 ?_
        refine cm_iload1 (pc := 49) dX7_nearest_49 ?_
        refine mk_get (pc := 50) dX7_nearest_50 hE.a8 (by omega) (by decide) ?_
        refine cm_isub (pc := 51) dX7_nearest_51 ?_
        refine cm_S1 (pc := 52) mX7_size_s mlX7_178 dX7_nearest_52 (by omega) (Nat.le_of_ble_eq_true rfl) (Nat.le_refl _) (Nat.le_refl _) (r_abs (d := d)) (fun r52 h52 hq52 => ?_)
        obtain ⟨rfl, rfl⟩ := hq52
        refine cm_istore6 (pc := 55) dX7_nearest_55 (by decide) rfl ?_
        refine cm_iload4 (pc := 57) dX7_nearest_57 ?_
        refine cm_bipush (pc := 59) (v := -9) dX7_nearest_59 (by decide) ?_
        cases hb : uNear u i gd ot k with
        | none =>
          refine cm_icmp_ne (tgt := 69) (pc := 61) dX7_nearest_61 (by decide) (fun q => absurd rfl q) (fun _ => ?_)
          refine cm_bipush (pc := 64) (v := 100) dX7_nearest_64 (by decide) ?_
          refine cm_goto (pc := 66) (tgt := 86) dX7_nearest_66 (by decide) ?_
          refine cm_istore7 (pc := 86) dX7_nearest_86 (by decide) rfl ?_
          refine cm_iload6 (pc := 88) dX7_nearest_88 ?_
          refine cm_iload7 (pc := 90) dX7_nearest_90 ?_
          refine cm_icmp_lt (pc := 92) (tgt := 119) dX7_nearest_92 (by decide) (fun c92 => ?_) (fun q => absurd (h.far hi6 (by omega)) q)
          refine cm_iconst (pc := 119) (v := 1) dX7_nearest_119 (by decide) ?_
          refine cm_goto (pc := 120) (tgt := 124) dX7_nearest_120 (by decide) ?_
          refine cm_istore8 (pc := 124) dX7_nearest_124 (by decide) rfl ?_
          refine cm_iload8 (pc := 126) dX7_nearest_126 ?_
          refine cm_if_eq (tgt := 136) (pc := 128) dX7_nearest_128 (by decide) (fun q => absurd q (by decide)) (fun _ => ?_)
          refine cm_iload5 (pc := 131) dX7_nearest_131 ?_
          refine cm_goto (tgt := 138) (pc := 133) dX7_nearest_133 (by decide) ?_
          refine cm_istore4 (pc := 138) dX7_nearest_138 (by decide) rfl ?_
          refine cm_incN5 (pc := 140) dX7_nearest_140 (by decide) rfl ?_
          refine cm_goto (tgt := 7) (pc := 143) dX7_nearest_143 (by decide) ?_
          rw [hb] at hst
          rw [show (if (u 12 k = gd ∨ u 12 k = ot) ∧ uNearer u i k none = true then some k else none) = some k by simp [uNearer, *]] at hst
          exact hst _ _ _
        | some b =>
        have hbk := uNear_lt hb
        have hbn : ¬ cm_oi (some b) = -9 := cm_oi_ne (by omega)
        refine cm_icmp_ne (pc := 61) (tgt := 69) dX7_nearest_61 (by decide) (fun c61 => ?_) (fun q => absurd q hbn)
        refine cm_aload0 (pc := 69) dX7_nearest_69 ?_
        refine cm_getR (pc := 70) flX7_40 dX7_nearest_70 hE.1 hE.r15 ?_
        refine cm_iload4 (pc := 73) dX7_nearest_73 ?_
        refine mk_getE (pc := 75) (b) dX7_nearest_75 hE.a11 rfl (by omega) (by decide) ?_
        refine cm_aload0 (pc := 76) dX7_nearest_76 ?_
        refine cm_getR (pc := 77) flX7_31 dX7_nearest_77 hE.1 hE.r12 ?_
        refine cm_iload1 (pc := 80) dX7_nearest_80 ?_
        refine mk_get (pc := 81) dX7_nearest_81 hE.a8 (by omega) (by decide) ?_
        refine cm_isub (pc := 82) dX7_nearest_82 ?_
        refine cm_S1 (pc := 83) mX7_size_s mlX7_178 dX7_nearest_83 (by omega) (Nat.le_of_ble_eq_true rfl) (Nat.le_refl _) (Nat.le_refl _) (r_abs (d := d)) (fun r83 h83 hq83 => ?_)
        obtain ⟨rfl, rfl⟩ := hq83
        refine cm_istore7 (pc := 86) dX7_nearest_86 (by decide) rfl ?_
        refine cm_iload6 (pc := 88) dX7_nearest_88 ?_
        refine cm_iload7 (pc := 90) dX7_nearest_90 ?_
        refine cm_icmp_lt (pc := 92) (tgt := 119) dX7_nearest_92 (by decide) (fun c92 => ?_) (fun c92 => ?_)
        · refine cm_iconst (pc := 119) (v := 1) dX7_nearest_119 (by decide) ?_
          refine cm_goto (pc := 120) (tgt := 124) dX7_nearest_120 (by decide) ?_
          refine cm_istore8 (pc := 124) dX7_nearest_124 (by decide) rfl ?_
          refine cm_iload8 (pc := 126) dX7_nearest_126 ?_
          first
            | (refine cm_if_eq (tgt := 136) (pc := 128) dX7_nearest_128 (by decide) (fun q => absurd q (by decide)) (fun _ => ?_)
               refine cm_iload5 (pc := 131) dX7_nearest_131 ?_
               refine cm_goto (tgt := 138) (pc := 133) dX7_nearest_133 (by decide) ?_
               refine cm_istore4 (pc := 138) dX7_nearest_138 (by decide) rfl ?_
               refine cm_incN5 (pc := 140) dX7_nearest_140 (by decide) rfl ?_
               refine cm_goto (tgt := 7) (pc := 143) dX7_nearest_143 (by decide) ?_
               rw [hb] at hst
               rw [show (if (u 12 k = gd ∨ u 12 k = ot) ∧ uNearer u i k (some b) = true then some k else some b) = some k by simp [uNearer, *]] at hst
               exact hst _ _ _)
            | (refine cm_if_eq (tgt := 136) (pc := 128) dX7_nearest_128 (by decide) (fun _ => ?_) (fun q => absurd rfl q)
               refine cm_iload4 (pc := 136) dX7_nearest_136 ?_
               refine cm_istore4 (pc := 138) dX7_nearest_138 (by decide) rfl ?_
               refine cm_incN5 (pc := 140) dX7_nearest_140 (by decide) rfl ?_
               refine cm_goto (tgt := 7) (pc := 143) dX7_nearest_143 (by decide) ?_
               rw [hb] at hst
               rw [if_neg (by
                 rintro ⟨-, hq⟩
                 simp only [uNearer, Bool.or_eq_true, Bool.and_eq_true, decide_eq_true_eq, Bool.not_eq_true', decide_eq_false_iff_not] at hq
                 rcases hq with hq | ⟨hq, hq2⟩
                 · exact c92 hq
                 · first | exact c99 hq | exact hq2 c116)] at hst
               exact hst _ _ _)
        · refine cm_iload6 (pc := 95) dX7_nearest_95 ?_
          refine cm_iload7 (pc := 97) dX7_nearest_97 ?_
          refine cm_icmp_ne (pc := 99) (tgt := 123) dX7_nearest_99 (by decide) (fun c99 => ?_) (fun c99 => ?_)
          · refine cm_iconst (pc := 123) (v := 0) dX7_nearest_123 (by decide) ?_
            refine cm_istore8 (pc := 124) dX7_nearest_124 (by decide) rfl ?_
            refine cm_iload8 (pc := 126) dX7_nearest_126 ?_
            first
              | (refine cm_if_eq (tgt := 136) (pc := 128) dX7_nearest_128 (by decide) (fun q => absurd q (by decide)) (fun _ => ?_)
                 refine cm_iload5 (pc := 131) dX7_nearest_131 ?_
                 refine cm_goto (tgt := 138) (pc := 133) dX7_nearest_133 (by decide) ?_
                 refine cm_istore4 (pc := 138) dX7_nearest_138 (by decide) rfl ?_
                 refine cm_incN5 (pc := 140) dX7_nearest_140 (by decide) rfl ?_
                 refine cm_goto (tgt := 7) (pc := 143) dX7_nearest_143 (by decide) ?_
                 rw [hb] at hst
                 rw [show (if (u 12 k = gd ∨ u 12 k = ot) ∧ uNearer u i k (some b) = true then some k else some b) = some k by simp [uNearer, *]] at hst
                 exact hst _ _ _)
              | (refine cm_if_eq (tgt := 136) (pc := 128) dX7_nearest_128 (by decide) (fun _ => ?_) (fun q => absurd rfl q)
                 refine cm_iload4 (pc := 136) dX7_nearest_136 ?_
                 refine cm_istore4 (pc := 138) dX7_nearest_138 (by decide) rfl ?_
                 refine cm_incN5 (pc := 140) dX7_nearest_140 (by decide) rfl ?_
                 refine cm_goto (tgt := 7) (pc := 143) dX7_nearest_143 (by decide) ?_
                 rw [hb] at hst
                 rw [if_neg (by
                   rintro ⟨-, hq⟩
                   simp only [uNearer, Bool.or_eq_true, Bool.and_eq_true, decide_eq_true_eq, Bool.not_eq_true', decide_eq_false_iff_not] at hq
                   rcases hq with hq | ⟨hq, hq2⟩
                   · exact c92 hq
                   · first | exact c99 hq | exact hq2 c116)] at hst
                 exact hst _ _ _)
          · refine cm_aload0 (pc := 102) dX7_nearest_102 ?_
            refine cm_getR (pc := 103) flX7_40 dX7_nearest_103 hE.1 hE.r15 ?_
            refine cm_iload5 (pc := 106) dX7_nearest_106 ?_
            refine mk_get (pc := 108) dX7_nearest_108 hE.a11 (by omega) (by decide) ?_
            refine cm_aload0 (pc := 109) dX7_nearest_109 ?_
            refine cm_getR (pc := 110) flX7_40 dX7_nearest_110 hE.1 hE.r15 ?_
            refine cm_iload4 (pc := 113) dX7_nearest_113 ?_
            refine mk_getE (pc := 115) (b) dX7_nearest_115 hE.a11 rfl (by omega) (by decide) ?_
            refine cm_icmp_ge (pc := 116) (tgt := 123) dX7_nearest_116 (by decide) (fun c116 => ?_) (fun c116 => ?_)
            · refine cm_iconst (pc := 123) (v := 0) dX7_nearest_123 (by decide) ?_
              refine cm_istore8 (pc := 124) dX7_nearest_124 (by decide) rfl ?_
              refine cm_iload8 (pc := 126) dX7_nearest_126 ?_
              first
                | (refine cm_if_eq (tgt := 136) (pc := 128) dX7_nearest_128 (by decide) (fun q => absurd q (by decide)) (fun _ => ?_)
                   refine cm_iload5 (pc := 131) dX7_nearest_131 ?_
                   refine cm_goto (tgt := 138) (pc := 133) dX7_nearest_133 (by decide) ?_
                   refine cm_istore4 (pc := 138) dX7_nearest_138 (by decide) rfl ?_
                   refine cm_incN5 (pc := 140) dX7_nearest_140 (by decide) rfl ?_
                   refine cm_goto (tgt := 7) (pc := 143) dX7_nearest_143 (by decide) ?_
                   rw [hb] at hst
                   rw [show (if (u 12 k = gd ∨ u 12 k = ot) ∧ uNearer u i k (some b) = true then some k else some b) = some k by simp [uNearer, *]] at hst
                   exact hst _ _ _)
                | (refine cm_if_eq (tgt := 136) (pc := 128) dX7_nearest_128 (by decide) (fun _ => ?_) (fun q => absurd rfl q)
                   refine cm_iload4 (pc := 136) dX7_nearest_136 ?_
                   refine cm_istore4 (pc := 138) dX7_nearest_138 (by decide) rfl ?_
                   refine cm_incN5 (pc := 140) dX7_nearest_140 (by decide) rfl ?_
                   refine cm_goto (tgt := 7) (pc := 143) dX7_nearest_143 (by decide) ?_
                   rw [hb] at hst
                   rw [if_neg (by
                     rintro ⟨-, hq⟩
                     simp only [uNearer, Bool.or_eq_true, Bool.and_eq_true, decide_eq_true_eq, Bool.not_eq_true', decide_eq_false_iff_not] at hq
                     rcases hq with hq | ⟨hq, hq2⟩
                     · exact c92 hq
                     · first | exact c99 hq | exact hq2 c116)] at hst
                   exact hst _ _ _)
            · refine cm_iconst (pc := 119) (v := 1) dX7_nearest_119 (by decide) ?_
              refine cm_goto (pc := 120) (tgt := 124) dX7_nearest_120 (by decide) ?_
              refine cm_istore8 (pc := 124) dX7_nearest_124 (by decide) rfl ?_
              refine cm_iload8 (pc := 126) dX7_nearest_126 ?_
              first
                | (refine cm_if_eq (tgt := 136) (pc := 128) dX7_nearest_128 (by decide) (fun q => absurd q (by decide)) (fun _ => ?_)
                   refine cm_iload5 (pc := 131) dX7_nearest_131 ?_
                   refine cm_goto (tgt := 138) (pc := 133) dX7_nearest_133 (by decide) ?_
                   refine cm_istore4 (pc := 138) dX7_nearest_138 (by decide) rfl ?_
                   refine cm_incN5 (pc := 140) dX7_nearest_140 (by decide) rfl ?_
                   refine cm_goto (tgt := 7) (pc := 143) dX7_nearest_143 (by decide) ?_
                   rw [hb] at hst
                   rw [show (if (u 12 k = gd ∨ u 12 k = ot) ∧ uNearer u i k (some b) = true then some k else some b) = some k by simp [uNearer, *]] at hst
                   exact hst _ _ _)
                | (refine cm_if_eq (tgt := 136) (pc := 128) dX7_nearest_128 (by decide) (fun _ => ?_) (fun q => absurd rfl q)
                   refine cm_iload4 (pc := 136) dX7_nearest_136 ?_
                   refine cm_istore4 (pc := 138) dX7_nearest_138 (by decide) rfl ?_
                   refine cm_incN5 (pc := 140) dX7_nearest_140 (by decide) rfl ?_
                   refine cm_goto (tgt := 7) (pc := 143) dX7_nearest_143 (by decide) ?_
                   rw [hb] at hst
                   rw [if_neg (by
                     rintro ⟨-, hq⟩
                     simp only [uNearer, Bool.or_eq_true, Bool.and_eq_true, decide_eq_true_eq, Bool.not_eq_true', decide_eq_false_iff_not] at hq
                     rcases hq with hq | ⟨hq, hq2⟩
                     · exact c92 hq
                     · first | exact c99 hq | exact hq2 c116)] at hst
                   exact hst _ _ _)
      · refine cm_aload0 (pc := 27) dX7_nearest_27 ?_
        refine cm_getR (pc := 28) flX7_43 dX7_nearest_28 hE.1 hE.r16 ?_
        refine cm_iload5 (pc := 31) dX7_nearest_31 ?_
        refine mk_get (pc := 33) dX7_nearest_33 hE.a12 (by omega) (by decide) ?_
        refine cm_iload3 (pc := 34) dX7_nearest_34 ?_
        refine cm_icmp_ne (pc := 35) (tgt := 140) dX7_nearest_35 (by decide) (fun c35 => ?_) (fun c35 => ?_)
        · refine cm_incN5 (pc := 140) dX7_nearest_140 (by decide) rfl ?_
          refine cm_goto (tgt := 7) (pc := 143) dX7_nearest_143 (by decide) ?_
          rw [show (if (u 12 k = gd ∨ u 12 k = ot) ∧ uNearer u i k (uNear u i gd ot k) = true then some k else uNear u i gd ot k) = uNear u i gd ot k by simp [*]] at hst
          exact hst _ _ _
        · refine cm_aload0 (pc := 38) dX7_nearest_38 ?_
          refine cm_getR (pc := 39) flX7_40 dX7_nearest_39 hE.1 hE.r15 ?_
          refine cm_iload5 (pc := 42) dX7_nearest_42 ?_
          refine mk_get (pc := 44) dX7_nearest_44 hE.a11 (by omega) (by decide) ?_
          refine cm_aload0 (pc := 45) dX7_nearest_45 ?_
          refine cm_getR (pc := 46) flX7_31 dX7_nearest_46 hE.1 hE.r12 ?_
          refine cm_iload1 (pc := 49) dX7_nearest_49 ?_
          refine mk_get (pc := 50) dX7_nearest_50 hE.a8 (by omega) (by decide) ?_
          refine cm_isub (pc := 51) dX7_nearest_51 ?_
          refine cm_S1 (pc := 52) mX7_size_s mlX7_178 dX7_nearest_52 (by omega) (Nat.le_of_ble_eq_true rfl) (Nat.le_refl _) (Nat.le_refl _) (r_abs (d := d)) (fun r52 h52 hq52 => ?_)
          obtain ⟨rfl, rfl⟩ := hq52
          refine cm_istore6 (pc := 55) dX7_nearest_55 (by decide) rfl ?_
          refine cm_iload4 (pc := 57) dX7_nearest_57 ?_
          refine cm_bipush (pc := 59) (v := -9) dX7_nearest_59 (by decide) ?_
          cases hb : uNear u i gd ot k with
          | none =>
            refine cm_icmp_ne (tgt := 69) (pc := 61) dX7_nearest_61 (by decide) (fun q => absurd rfl q) (fun _ => ?_)
            refine cm_bipush (pc := 64) (v := 100) dX7_nearest_64 (by decide) ?_
            refine cm_goto (pc := 66) (tgt := 86) dX7_nearest_66 (by decide) ?_
            refine cm_istore7 (pc := 86) dX7_nearest_86 (by decide) rfl ?_
            refine cm_iload6 (pc := 88) dX7_nearest_88 ?_
            refine cm_iload7 (pc := 90) dX7_nearest_90 ?_
            refine cm_icmp_lt (pc := 92) (tgt := 119) dX7_nearest_92 (by decide) (fun c92 => ?_) (fun q => absurd (h.far hi6 (by omega)) q)
            refine cm_iconst (pc := 119) (v := 1) dX7_nearest_119 (by decide) ?_
            refine cm_goto (pc := 120) (tgt := 124) dX7_nearest_120 (by decide) ?_
            refine cm_istore8 (pc := 124) dX7_nearest_124 (by decide) rfl ?_
            refine cm_iload8 (pc := 126) dX7_nearest_126 ?_
            refine cm_if_eq (tgt := 136) (pc := 128) dX7_nearest_128 (by decide) (fun q => absurd q (by decide)) (fun _ => ?_)
            refine cm_iload5 (pc := 131) dX7_nearest_131 ?_
            refine cm_goto (tgt := 138) (pc := 133) dX7_nearest_133 (by decide) ?_
            refine cm_istore4 (pc := 138) dX7_nearest_138 (by decide) rfl ?_
            refine cm_incN5 (pc := 140) dX7_nearest_140 (by decide) rfl ?_
            refine cm_goto (tgt := 7) (pc := 143) dX7_nearest_143 (by decide) ?_
            rw [hb] at hst
            rw [show (if (u 12 k = gd ∨ u 12 k = ot) ∧ uNearer u i k none = true then some k else none) = some k by simp [uNearer, *]] at hst
            exact hst _ _ _
          | some b =>
          have hbk := uNear_lt hb
          have hbn : ¬ cm_oi (some b) = -9 := cm_oi_ne (by omega)
          refine cm_icmp_ne (pc := 61) (tgt := 69) dX7_nearest_61 (by decide) (fun c61 => ?_) (fun q => absurd q hbn)
          refine cm_aload0 (pc := 69) dX7_nearest_69 ?_
          refine cm_getR (pc := 70) flX7_40 dX7_nearest_70 hE.1 hE.r15 ?_
          refine cm_iload4 (pc := 73) dX7_nearest_73 ?_
          refine mk_getE (pc := 75) (b) dX7_nearest_75 hE.a11 rfl (by omega) (by decide) ?_
          refine cm_aload0 (pc := 76) dX7_nearest_76 ?_
          refine cm_getR (pc := 77) flX7_31 dX7_nearest_77 hE.1 hE.r12 ?_
          refine cm_iload1 (pc := 80) dX7_nearest_80 ?_
          refine mk_get (pc := 81) dX7_nearest_81 hE.a8 (by omega) (by decide) ?_
          refine cm_isub (pc := 82) dX7_nearest_82 ?_
          refine cm_S1 (pc := 83) mX7_size_s mlX7_178 dX7_nearest_83 (by omega) (Nat.le_of_ble_eq_true rfl) (Nat.le_refl _) (Nat.le_refl _) (r_abs (d := d)) (fun r83 h83 hq83 => ?_)
          obtain ⟨rfl, rfl⟩ := hq83
          refine cm_istore7 (pc := 86) dX7_nearest_86 (by decide) rfl ?_
          refine cm_iload6 (pc := 88) dX7_nearest_88 ?_
          refine cm_iload7 (pc := 90) dX7_nearest_90 ?_
          refine cm_icmp_lt (pc := 92) (tgt := 119) dX7_nearest_92 (by decide) (fun c92 => ?_) (fun c92 => ?_)
          · refine cm_iconst (pc := 119) (v := 1) dX7_nearest_119 (by decide) ?_
            refine cm_goto (pc := 120) (tgt := 124) dX7_nearest_120 (by decide) ?_
            refine cm_istore8 (pc := 124) dX7_nearest_124 (by decide) rfl ?_
            refine cm_iload8 (pc := 126) dX7_nearest_126 ?_
            first
              | (refine cm_if_eq (tgt := 136) (pc := 128) dX7_nearest_128 (by decide) (fun q => absurd q (by decide)) (fun _ => ?_)
                 refine cm_iload5 (pc := 131) dX7_nearest_131 ?_
                 refine cm_goto (tgt := 138) (pc := 133) dX7_nearest_133 (by decide) ?_
                 refine cm_istore4 (pc := 138) dX7_nearest_138 (by decide) rfl ?_
                 refine cm_incN5 (pc := 140) dX7_nearest_140 (by decide) rfl ?_
                 refine cm_goto (tgt := 7) (pc := 143) dX7_nearest_143 (by decide) ?_
                 rw [hb] at hst
                 rw [show (if (u 12 k = gd ∨ u 12 k = ot) ∧ uNearer u i k (some b) = true then some k else some b) = some k by simp [uNearer, *]] at hst
                 exact hst _ _ _)
              | (refine cm_if_eq (tgt := 136) (pc := 128) dX7_nearest_128 (by decide) (fun _ => ?_) (fun q => absurd rfl q)
                 refine cm_iload4 (pc := 136) dX7_nearest_136 ?_
                 refine cm_istore4 (pc := 138) dX7_nearest_138 (by decide) rfl ?_
                 refine cm_incN5 (pc := 140) dX7_nearest_140 (by decide) rfl ?_
                 refine cm_goto (tgt := 7) (pc := 143) dX7_nearest_143 (by decide) ?_
                 rw [hb] at hst
                 rw [if_neg (by
                   rintro ⟨-, hq⟩
                   simp only [uNearer, Bool.or_eq_true, Bool.and_eq_true, decide_eq_true_eq, Bool.not_eq_true', decide_eq_false_iff_not] at hq
                   rcases hq with hq | ⟨hq, hq2⟩
                   · exact c92 hq
                   · first | exact c99 hq | exact hq2 c116)] at hst
                 exact hst _ _ _)
          · refine cm_iload6 (pc := 95) dX7_nearest_95 ?_
            refine cm_iload7 (pc := 97) dX7_nearest_97 ?_
            refine cm_icmp_ne (pc := 99) (tgt := 123) dX7_nearest_99 (by decide) (fun c99 => ?_) (fun c99 => ?_)
            · refine cm_iconst (pc := 123) (v := 0) dX7_nearest_123 (by decide) ?_
              refine cm_istore8 (pc := 124) dX7_nearest_124 (by decide) rfl ?_
              refine cm_iload8 (pc := 126) dX7_nearest_126 ?_
              first
                | (refine cm_if_eq (tgt := 136) (pc := 128) dX7_nearest_128 (by decide) (fun q => absurd q (by decide)) (fun _ => ?_)
                   refine cm_iload5 (pc := 131) dX7_nearest_131 ?_
                   refine cm_goto (tgt := 138) (pc := 133) dX7_nearest_133 (by decide) ?_
                   refine cm_istore4 (pc := 138) dX7_nearest_138 (by decide) rfl ?_
                   refine cm_incN5 (pc := 140) dX7_nearest_140 (by decide) rfl ?_
                   refine cm_goto (tgt := 7) (pc := 143) dX7_nearest_143 (by decide) ?_
                   rw [hb] at hst
                   rw [show (if (u 12 k = gd ∨ u 12 k = ot) ∧ uNearer u i k (some b) = true then some k else some b) = some k by simp [uNearer, *]] at hst
                   exact hst _ _ _)
                | (refine cm_if_eq (tgt := 136) (pc := 128) dX7_nearest_128 (by decide) (fun _ => ?_) (fun q => absurd rfl q)
                   refine cm_iload4 (pc := 136) dX7_nearest_136 ?_
                   refine cm_istore4 (pc := 138) dX7_nearest_138 (by decide) rfl ?_
                   refine cm_incN5 (pc := 140) dX7_nearest_140 (by decide) rfl ?_
                   refine cm_goto (tgt := 7) (pc := 143) dX7_nearest_143 (by decide) ?_
                   rw [hb] at hst
                   rw [if_neg (by
                     rintro ⟨-, hq⟩
                     simp only [uNearer, Bool.or_eq_true, Bool.and_eq_true, decide_eq_true_eq, Bool.not_eq_true', decide_eq_false_iff_not] at hq
                     rcases hq with hq | ⟨hq, hq2⟩
                     · exact c92 hq
                     · first | exact c99 hq | exact hq2 c116)] at hst
                   exact hst _ _ _)
            · refine cm_aload0 (pc := 102) dX7_nearest_102 ?_
              refine cm_getR (pc := 103) flX7_40 dX7_nearest_103 hE.1 hE.r15 ?_
              refine cm_iload5 (pc := 106) dX7_nearest_106 ?_
              refine mk_get (pc := 108) dX7_nearest_108 hE.a11 (by omega) (by decide) ?_
              refine cm_aload0 (pc := 109) dX7_nearest_109 ?_
              refine cm_getR (pc := 110) flX7_40 dX7_nearest_110 hE.1 hE.r15 ?_
              refine cm_iload4 (pc := 113) dX7_nearest_113 ?_
              refine mk_getE (pc := 115) (b) dX7_nearest_115 hE.a11 rfl (by omega) (by decide) ?_
              refine cm_icmp_ge (pc := 116) (tgt := 123) dX7_nearest_116 (by decide) (fun c116 => ?_) (fun c116 => ?_)
              · refine cm_iconst (pc := 123) (v := 0) dX7_nearest_123 (by decide) ?_
                refine cm_istore8 (pc := 124) dX7_nearest_124 (by decide) rfl ?_
                refine cm_iload8 (pc := 126) dX7_nearest_126 ?_
                first
                  | (refine cm_if_eq (tgt := 136) (pc := 128) dX7_nearest_128 (by decide) (fun q => absurd q (by decide)) (fun _ => ?_)
                     refine cm_iload5 (pc := 131) dX7_nearest_131 ?_
                     refine cm_goto (tgt := 138) (pc := 133) dX7_nearest_133 (by decide) ?_
                     refine cm_istore4 (pc := 138) dX7_nearest_138 (by decide) rfl ?_
                     refine cm_incN5 (pc := 140) dX7_nearest_140 (by decide) rfl ?_
                     refine cm_goto (tgt := 7) (pc := 143) dX7_nearest_143 (by decide) ?_
                     rw [hb] at hst
                     rw [show (if (u 12 k = gd ∨ u 12 k = ot) ∧ uNearer u i k (some b) = true then some k else some b) = some k by simp [uNearer, *]] at hst
                     exact hst _ _ _)
                  | (refine cm_if_eq (tgt := 136) (pc := 128) dX7_nearest_128 (by decide) (fun _ => ?_) (fun q => absurd rfl q)
                     refine cm_iload4 (pc := 136) dX7_nearest_136 ?_
                     refine cm_istore4 (pc := 138) dX7_nearest_138 (by decide) rfl ?_
                     refine cm_incN5 (pc := 140) dX7_nearest_140 (by decide) rfl ?_
                     refine cm_goto (tgt := 7) (pc := 143) dX7_nearest_143 (by decide) ?_
                     rw [hb] at hst
                     rw [if_neg (by
                       rintro ⟨-, hq⟩
                       simp only [uNearer, Bool.or_eq_true, Bool.and_eq_true, decide_eq_true_eq, Bool.not_eq_true', decide_eq_false_iff_not] at hq
                       rcases hq with hq | ⟨hq, hq2⟩
                       · exact c92 hq
                       · first | exact c99 hq | exact hq2 c116)] at hst
                     exact hst _ _ _)
              · refine cm_iconst (pc := 119) (v := 1) dX7_nearest_119 (by decide) ?_
                refine cm_goto (pc := 120) (tgt := 124) dX7_nearest_120 (by decide) ?_
                refine cm_istore8 (pc := 124) dX7_nearest_124 (by decide) rfl ?_
                refine cm_iload8 (pc := 126) dX7_nearest_126 ?_
                first
                  | (refine cm_if_eq (tgt := 136) (pc := 128) dX7_nearest_128 (by decide) (fun q => absurd q (by decide)) (fun _ => ?_)
                     refine cm_iload5 (pc := 131) dX7_nearest_131 ?_
                     refine cm_goto (tgt := 138) (pc := 133) dX7_nearest_133 (by decide) ?_
                     refine cm_istore4 (pc := 138) dX7_nearest_138 (by decide) rfl ?_
                     refine cm_incN5 (pc := 140) dX7_nearest_140 (by decide) rfl ?_
                     refine cm_goto (tgt := 7) (pc := 143) dX7_nearest_143 (by decide) ?_
                     rw [hb] at hst
                     rw [show (if (u 12 k = gd ∨ u 12 k = ot) ∧ uNearer u i k (some b) = true then some k else some b) = some k by simp [uNearer, *]] at hst
                     exact hst _ _ _)
                  | (refine cm_if_eq (tgt := 136) (pc := 128) dX7_nearest_128 (by decide) (fun _ => ?_) (fun q => absurd rfl q)
                     refine cm_iload4 (pc := 136) dX7_nearest_136 ?_
                     refine cm_istore4 (pc := 138) dX7_nearest_138 (by decide) rfl ?_
                     refine cm_incN5 (pc := 140) dX7_nearest_140 (by decide) rfl ?_
                     refine cm_goto (tgt := 7) (pc := 143) dX7_nearest_143 (by decide) ?_
                     rw [hb] at hst
                     rw [if_neg (by
                       rintro ⟨-, hq⟩
                       simp only [uNearer, Bool.or_eq_true, Bool.and_eq_true, decide_eq_true_eq, Bool.not_eq_true', decide_eq_false_iff_not] at hq
                       rcases hq with hq | ⟨hq, hq2⟩
                       · exact c92 hq
                       · first | exact c99 hq | exact hq2 c116)] at hst
                     exact hst _ _ _)
set_option maxRecDepth 20000 in
theorem r_nearest (hE : cm_mdl sh hr e) {i : Nat} {gd ot : Int32} (h : uOk u nb ns) (hi6 : i < nb) : cm_ct D mX7_nearest (d + 1) 0 0 [.ref e, .int (nI i), .int gd, .int ot] (sh, cm_us hi e u, hl, hr) (fun r9 h9 => r9 = some (.int (cm_oi (uNear u i gd ot ns))) ∧ h9 = (sh, cm_us hi e u, hl, hr)) := by
  refine cm_ct_of (ls := [some (.ref e), some (.int (nI i)), some (.int gd), some (.int ot), none, none, none, none, none]) 5 (by decide +kernel) rfl rfl ?_
  refine cm_bipush (pc := 0) (v := -9) dX7_nearest_0 (by decide) ?_
  refine cm_istore4 (pc := 2) dX7_nearest_2 (by decide) rfl ?_
  refine cm_iconst (pc := 4) (v := 0) dX7_nearest_4 (by decide) ?_
  refine cm_istore5 (pc := 5) dX7_nearest_5 (by decide) rfl ?_
  exact l_near hE h hi6 ns 0 (by omega) none none none
end MD2
