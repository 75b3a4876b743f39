/-! PART upass: the reference: stepRich, passMinute -/
theorem uHas_0 (k : Nat) : uHas 0 (nI k) = false := by simp [uHas]
theorem uMv_c {u : cm_g2} {s way : Int32} {j c : Nat} (h : c ≠ 8) : uMv u s way j c = u c := va_up_ne _ _ h
theorem uMv_8 {u : cm_g2} {s way : Int32} {j x : Nat} (h : x < j) : uMv u s way j 8 x = u 8 x + (if uHas s (nI x) then way else 0) := by
  unfold uMv
  rw [va_up_self, if_pos h]
theorem uIn_z {v : Int32} (h : uIn v 0 19 = true) : 0 ≤ v.toInt ∧ v.toInt < 20 := by
  unfold uIn at h
  simp only [Bool.and_eq_true, Bool.not_eq_true', decide_eq_false_iff_not, Int32.lt_iff_toInt_lt] at h
  have z0 : (0 : Int32).toInt = 0 := by decide
  have z9 : (19 : Int32).toInt = 19 := by decide
  rw [z0, z9] at h
  omega
theorem uChk_ok {u : cm_g2} {i : Nat} {way s : Int32} : ∀ {n k : Nat}, uChk u i way s n k = 0 ∨ (uChk u i way s n k = s ∧ ∀ j, k ≤ j → j < k + n → uBad u i way s j = false)
  | 0, k => Or.inr ⟨rfl, fun j h1 h2 => by omega⟩
  | n + 1, k => by
    unfold uChk
    cases hb : uBad u i way s k with
    | true => exact Or.inl rfl
    | false =>
      rcases uChk_ok (u := u) (i := i) (way := way) (s := s) (n := n) (k := k + 1) with q | ⟨q1, q2⟩
      · exact Or.inl (by simpa using q)
      · refine Or.inr ⟨by simpa using q1, fun j h1 h2 => ?_⟩
        by_cases hj : j = k
        · subst hj; exact hb
        · exact q2 j (by omega) (by omega)
theorem uOk.mv {u : cm_g2} {nb ns : Nat} {s way : Int32} (h : uOk u nb ns) (hs : ∀ k, k < nb → uHas s (nI k) = true → uIn (u 8 k + way) 0 19 = true) : uOk (uMv u s way nb) nb ns := by
  refine ⟨by rw [uMv_c (by decide)]; exact h.1, fun i hi => ?_, fun k hk => by rw [uMv_c (by decide)]; exact h.2.2 k hk⟩
  rw [uMv_8 hi]
  cases hh : uHas s (nI i) with
  | true => simpa [hh] using uIn_z (hs i hi hh)
  | false => simpa [hh] using h.2.1 i hi
theorem uOk.rich {u : cm_g2} {nb ns i : Nat} (h : uOk u nb ns) : uOk (uRich u nb ns i) nb ns := by
  unfold uRich
  refine h.mv (fun k hk hh => ?_)
  split at hh
  · rw [uHas_0] at hh; cases hh
  · unfold uGo at hh
    rcases uChk_ok (u := u) (i := i) (way := uWish u ns i) (s := uSet u nb i (uWish u ns i)) (n := nb) (k := 0) with q | ⟨q1, q2⟩
    · rw [q, uHas_0] at hh; cases hh
    · rw [q1] at hh
      have := q2 k (by omega) (by omega)
      unfold uBad at this
      rw [hh] at this
      simp only [Bool.true_and, Bool.or_eq_false_iff, Bool.not_eq_false'] at this
      exact this.1
theorem uOk.step {u : cm_g2} {nb ns i : Nat} {way : Int32} (h : uOk u nb ns) : uOk (uStep u nb i way) nb ns := by
  unfold uStep
  split
  · next hq =>
    refine ⟨by simpa [va_up] using h.1, fun x hx => ?_, fun k hk => by simpa [va_up] using h.2.2 k hk⟩
    rw [va_up_self]
    unfold upd
    split
    · exact uIn_z hq.1
    · exact h.2.1 x hx
  · exact h
/-- a MINUTE of the reference -/
def uRichs (u : cm_g2) (nb ns : Nat) : Nat → cm_g2
  | 0 => u
  | i + 1 => if uA (uRichs u nb ns i) i 1 then (if uRich (uRichs u nb ns i) nb ns i 7 i = 5 then uRich (uRich (uRichs u nb ns i) nb ns i) nb ns i else uRich (uRichs u nb ns i) nb ns i) else uRichs u nb ns i
def uPlains (u : cm_g2) (nb ns : Nat) : Nat → cm_g2
  | 0 => u
  | i + 1 => if uA (uPlains u nb ns i) i 1 then uPlains u nb ns i else if uWish (uPlains u nb ns i) ns i = 0 then uPlains u nb ns i else uStep (uPlains u nb ns i) nb i (uWish (uPlains u nb ns i) ns i)
def uTick (u : cm_g2) : cm_g2 := va_up u 0 (upd (upd (upd (u 0) 19 (u 0 19 + 1)) 25 0) 26 0)
def uBuy1 (u : cm_g2) (nb ns : Nat) (wind lk : Int32) (i : Nat) : cm_g2 := match uBuy u nb i (uSun u + wind) ns 0 with
  | none => u
  | some k => va_up (va_up (va_up (va_up u 0 (upd (upd (upd (u 0) 25 (u 0 25 ||| (1 <<< (nI i &&& 31)))) 26 (u 0 26 + u 13 k)) 27 (if nI i = lk then nI k else u 0 27))) 10 (upd (u 10) i (u 10 i + u 13 k))) 14 (upd (u 14) k (u 14 k + 1))) 9 (upd (u 9) i 4)
def uBuys (u : cm_g2) (nb ns : Nat) (wind lk : Int32) : Nat → cm_g2
  | 0 => u
  | i + 1 => uBuy1 (uBuys u nb ns wind lk i) nb ns wind lk i
def uPass (u : cm_g2) (nb ns : Nat) (wind lk : Int32) : cm_g2 := uBuys (uTick (uPlains (uRichs u nb ns nb) nb ns nb)) nb ns wind lk nb
theorem uOk.richs {u : cm_g2} {nb ns : Nat} (h : uOk u nb ns) : ∀ i : Nat, uOk (uRichs u nb ns i) nb ns
  | 0 => h
  | i + 1 => by
    have h1 := uOk.richs h i
    unfold uRichs
    split
    · split
      · exact h1.rich.rich
      · exact h1.rich
    · exact h1
theorem uOk.plains {u : cm_g2} {nb ns : Nat} (h : uOk u nb ns) : ∀ i : Nat, uOk (uPlains u nb ns i) nb ns
  | 0 => h
  | i + 1 => by
    have h1 := uOk.plains h i
    unfold uPlains
    split
    · exact h1
    · split
      · exact h1
      · exact h1.step
theorem uOk.tick {u : cm_g2} {nb ns : Nat} (h : uOk u nb ns) : uOk (uTick u) nb ns := by
  unfold uTick
  exact ⟨by simpa [va_up, upd] using h.1, fun x hx => by simpa [va_up] using h.2.1 x hx, fun x hx => by simpa [va_up] using h.2.2 x hx⟩
theorem uOk.buy1 {u : cm_g2} {nb ns i : Nat} {wind lk : Int32} (h : uOk u nb ns) : uOk (uBuy1 u nb ns wind lk i) nb ns := by
  unfold uBuy1
  split
  · exact h
  · exact ⟨by simpa [va_up, upd] using h.1, fun x hx => by simpa [va_up] using h.2.1 x hx, fun x hx => by simpa [va_up] using h.2.2 x hx⟩
theorem uOk.buys {u : cm_g2} {nb ns : Nat} {wind lk : Int32} (h : uOk u nb ns) : ∀ i : Nat, uOk (uBuys u nb ns wind lk i) nb ns
  | 0 => h
  | i + 1 => (uOk.buys h i).buy1
theorem uBuy_lt {u : cm_g2} {nb i : Nat} {mv : Int32} : ∀ {n k j : Nat}, uBuy u nb i mv n k = some j → k ≤ j ∧ j < k + n
  | 0, k, j, h => by simp [uBuy] at h
  | n + 1, k, j, h => by
    unfold uBuy at h
    split at h
    · cases h; omega
    · have := uBuy_lt h; omega
section MD4
variable {D : cm_D} {d : Nat} {sh : List cm_Sh} {hi u : cm_g2} {hl : Nat → Nat → Int64} {hr : Nat → Nat → Option Nat} {e nb ns : Nat}
set_option maxRecDepth 20000 in
theorem l_srich (hE : cm_mdl sh hr e) {i : Nat} {way s : Int32} (h : uOk u nb ns) : ∀ n k : Nat, k + n = nb → cm_g D mX7_stepRich (d + 3) 0 0 (fun r9 h9 => r9 = none ∧ h9 = (sh, cm_us hi e (uMv u s way nb), hl, hr)) 0 0 24 [some (.ref e), some (.int (nI i)), some (.int way), some (.int s), some (.int (nI k))] [] (sh, cm_us hi e (uMv u s way k), hl, hr) := by
  have h0 := h.1
  intro n
  induction n with
  | zero =>
    intro k hk
    have h1 : k = nb := by omega
    subst h1
    have hm : uMv u s way k 0 9 = nI k := by rw [uMv_c (by decide)]; exact h.1.1
    refine cm_iload4 (pc := 24) dX7_stepRich_24 ?_
    refine cm_aload0 (pc := 26) dX7_stepRich_26 ?_
    refine mk_fld (pc := 27) flX7_151 dX7_stepRich_27 hE.1 ?_
    rw [hm]
    refine cm_geN (pc := 30) (tgt := 63) dX7_stepRich_30 (by decide) (by omega) (by omega) (fun c30 => ?_) (fun c30 => ?_)
    · exact cm_vret (pc := 63) dX7_stepRich_63 rfl ⟨rfl, rfl⟩
    · exact absurd c30 (by omega)
  | succ n ih =>
    intro k hk
    have hm : uMv u s way k 0 9 = nI nb := by rw [uMv_c (by decide)]; exact h.1.1
    refine cm_iload4 (pc := 24) dX7_stepRich_24 ?_
    refine cm_aload0 (pc := 26) dX7_stepRich_26 ?_
    refine mk_fld (pc := 27) flX7_151 dX7_stepRich_27 hE.1 ?_
    rw [hm]
    refine cm_geN (pc := 30) (tgt := 63) dX7_stepRich_30 (by decide) (by omega) (by omega) (fun c30 => ?_) (fun c30 => ?_)
    · exact absurd c30 (by omega)
    · refine cm_aload0 (pc := 33) dX7_stepRich_33 ?_
      refine cm_getR (pc := 34) flX7_31 dX7_stepRich_34 hE.1 hE.r12 ?_
      refine cm_iload4 (pc := 37) dX7_stepRich_37 ?_
      refine cm_dup2 (pc := 39) dX7_stepRich_39 rfl rfl ?_
      refine mk_get (pc := 40) dX7_stepRich_40 hE.a8 (by omega) (by decide) ?_
      refine cm_iload3 (pc := 41) dX7_stepRich_41 ?_
      refine cm_iload4 (pc := 42) dX7_stepRich_42 ?_
      refine cm_S2 (pc := 44) mX7_has_s mlX7_207 dX7_stepRich_44 (by omega) (Nat.le_of_ble_eq_true rfl) (Nat.le_refl _) (Nat.le_refl _) (r_has (d := d + 2)) (fun r44 h44 hq44 => ?_)
      obtain ⟨rfl, rfl⟩ := hq44
      refine cm_ifeqB (pc := 47) (tgt := 54) dX7_stepRich_47 (by decide) (fun c47 => ?_) (fun c47 => ?_)
      · refine cm_iconst (pc := 54) (v := 0) dX7_stepRich_54 (by decide) ?_
        refine cm_iadd (pc := 55) dX7_stepRich_55 ?_
        refine mk_put (pc := 56) dX7_stepRich_56 hE.a8 (by omega) (by decide) ?_
        rw [uMv_succ u s way k (by simp [*])]
        refine cm_incN4 (pc := 57) dX7_stepRich_57 (by decide) rfl ?_
        refine cm_goto (pc := 60) (tgt := 24) dX7_stepRich_60 (by decide) ?_
        exact ih (k + 1) (by omega)
      · refine cm_iload2 (pc := 50) dX7_stepRich_50 ?_
        refine cm_goto (pc := 51) (tgt := 55) dX7_stepRich_51 (by decide) ?_
        refine cm_iadd (pc := 55) dX7_stepRich_55 ?_
        refine mk_put (pc := 56) dX7_stepRich_56 hE.a8 (by omega) (by decide) ?_
        rw [uMv_succ u s way k (by simp [*])]
        refine cm_incN4 (pc := 57) dX7_stepRich_57 (by decide) rfl ?_
        refine cm_goto (pc := 60) (tgt := 24) dX7_stepRich_60 (by decide) ?_
        exact ih (k + 1) (by omega)
set_option maxRecDepth 20000 in
theorem r_stepRich (hE : cm_mdl sh hr e) {i : Nat} (h : uOk u nb ns) (hi6 : i < nb) : cm_ct D mX7_stepRich (d + 3) 0 0 [.ref e, .int (nI i)] (sh, cm_us hi e u, hl, hr) (fun r9 h9 => r9 = none ∧ h9 = (sh, cm_us hi e (uRich u nb ns i), hl, hr)) := by
  refine cm_ct_of (ls := [some (.ref e), some (.int (nI i)), none, none, none]) 3 (by decide +kernel) rfl rfl ?_
  refine cm_aload0 (pc := 0) dX7_stepRich_0 ?_
  refine cm_iload1 (pc := 1) dX7_stepRich_1 ?_
  refine cm_V1 (pc := 2) mX7_wishOf_v mlX7_198 dX7_stepRich_2 hE.1 (by omega) (Nat.le_of_ble_eq_true rfl) (Nat.le_refl _) (Nat.le_refl _) (r_wishOf hE (d := d) h hi6) (fun r2 h2 hq2 => ?_)
  obtain ⟨rfl, rfl⟩ := hq2
  refine cm_istore2 (pc := 5) dX7_stepRich_5 (by decide) rfl ?_
  refine cm_iload2 (pc := 6) dX7_stepRich_6 ?_
  refine cm_if_ne (pc := 7) (tgt := 14) dX7_stepRich_7 (by decide) (fun c7 => ?_) (fun c7 => ?_)
  · refine cm_aload0 (pc := 14) dX7_stepRich_14 ?_
    refine cm_iload1 (pc := 15) dX7_stepRich_15 ?_
    refine cm_iload2 (pc := 16) dX7_stepRich_16 ?_
    refine cm_V2 (pc := 17) mX7_goers_v mlX7_189 dX7_stepRich_17 hE.1 (by omega) (Nat.le_of_ble_eq_true rfl) (Nat.le_refl _) (Nat.le_refl _) (r_goers hE (d := d) h hi6) (fun r17 h17 hq17 => ?_)
    obtain ⟨rfl, rfl⟩ := hq17
    first
      | (rw [show uRich u nb ns i = uMv u (0) (uWish u ns i) nb by simp [uRich, *]]
         refine cm_istore3 (pc := 20) dX7_stepRich_20 (by decide) rfl ?_
         refine cm_iconst (pc := 21) (v := 0) dX7_stepRich_21 (by decide) ?_
         refine cm_istore4 (pc := 22) dX7_stepRich_22 (by decide) rfl ?_
         refine cm_h_eq (show (sh, cm_us hi e u, hl, hr) = (sh, cm_us hi e (uMv u (0) (uWish u ns i) 0), hl, hr) by rw [uMv_0]) ?_
         exact l_srich hE h nb 0 (by omega))
      | (rw [show uRich u nb ns i = uMv u (uGo u nb i (uWish u ns i)) (uWish u ns i) nb by simp [uRich, *]]
         refine cm_istore3 (pc := 20) dX7_stepRich_20 (by decide) rfl ?_
         refine cm_iconst (pc := 21) (v := 0) dX7_stepRich_21 (by decide) ?_
         refine cm_istore4 (pc := 22) dX7_stepRich_22 (by decide) rfl ?_
         refine cm_h_eq (show (sh, cm_us hi e u, hl, hr) = (sh, cm_us hi e (uMv u (uGo u nb i (uWish u ns i)) (uWish u ns i) 0), hl, hr) by rw [uMv_0]) ?_
         exact l_srich hE h nb 0 (by omega))
  · refine cm_iconst (pc := 10) (v := 0) dX7_stepRich_10 (by decide) ?_
    refine cm_goto (pc := 11) (tgt := 20) dX7_stepRich_11 (by decide) ?_
    first
      | (rw [show uRich u nb ns i = uMv u (0) (uWish u ns i) nb by simp [uRich, *]]
         refine cm_istore3 (pc := 20) dX7_stepRich_20 (by decide) rfl ?_
         refine cm_iconst (pc := 21) (v := 0) dX7_stepRich_21 (by decide) ?_
         refine cm_istore4 (pc := 22) dX7_stepRich_22 (by decide) rfl ?_
         refine cm_h_eq (show (sh, cm_us hi e u, hl, hr) = (sh, cm_us hi e (uMv u (0) (uWish u ns i) 0), hl, hr) by rw [uMv_0]) ?_
         exact l_srich hE h nb 0 (by omega))
      | (rw [show uRich u nb ns i = uMv u (uGo u nb i (uWish u ns i)) (uWish u ns i) nb by simp [uRich, *]]
         refine cm_istore3 (pc := 20) dX7_stepRich_20 (by decide) rfl ?_
         refine cm_iconst (pc := 21) (v := 0) dX7_stepRich_21 (by decide) ?_
         refine cm_istore4 (pc := 22) dX7_stepRich_22 (by decide) rfl ?_
         refine cm_h_eq (show (sh, cm_us hi e u, hl, hr) = (sh, cm_us hi e (uMv u (uGo u nb i (uWish u ns i)) (uWish u ns i) 0), hl, hr) by rw [uMv_0]) ?_
         exact l_srich hE h nb 0 (by omega))
set_option maxRecDepth 20000 in
set_option maxHeartbeats 1000000 in
theorem l_buys (hE : cm_mdl sh hr e) {wind lk : Int32} (h : uOk u nb ns) : ∀ n i : Nat, i + n = nb → ∀ x4 : Option Value, cm_g D mX7_passMinute (d + 4) 0 0 (fun r9 h9 => r9 = none ∧ h9 = (sh, cm_us hi e (uPass u nb ns wind lk), hl, hr)) 0 0 115 [some (.ref e), some (.int wind), some (.int lk), some (.int (nI i)), x4] [] (sh, cm_us hi e (uBuys (uTick (uPlains (uRichs u nb ns nb) nb ns nb)) nb ns wind lk i), hl, hr) := by
  intro n
  induction n with
  | zero =>
    intro i hi9 x4
    have h1 : i = nb := by omega
    subst h1
    have h9 := ((h.richs i).plains i).tick.buys (wind := wind) (lk := lk) i
    have hnb := h9.1.2.1
    have hns := h9.1.2.2.2
    refine cm_iload3 (pc := 115) dX7_passMinute_115 ?_
    refine cm_aload0 (pc := 116) dX7_passMinute_116 ?_
    refine mk_fld (pc := 117) flX7_151 dX7_passMinute_117 hE.1 ?_
    rw [h9.1.1]
    refine cm_geN (pc := 120) (tgt := 229) dX7_passMinute_120 (by decide) (by omega) (by omega) (fun c120 => ?_) (fun c120 => ?_)
    · exact cm_vret (pc := 229) dX7_passMinute_229 rfl ⟨rfl, rfl⟩
    · exact absurd c120 (by omega)
  | succ n ih =>
    intro i hi9 x4
    have h9 := ((h.richs nb).plains nb).tick.buys (wind := wind) (lk := lk) i
    have hnb := h9.1.2.1
    have hns := h9.1.2.2.2
    have hst := ih (i + 1) (by omega)
    simp only [uBuys] at hst
    generalize uBuys (uTick (uPlains (uRichs u nb ns nb) nb ns nb)) nb ns wind lk i = G at hst h9 ⊢
    refine cm_iload3 (pc := 115) dX7_passMinute_115 ?_
    refine cm_aload0 (pc := 116) dX7_passMinute_116 ?_
    refine mk_fld (pc := 117) flX7_151 dX7_passMinute_117 hE.1 ?_
    rw [h9.1.1]
    refine cm_geN (pc := 120) (tgt := 229) dX7_passMinute_120 (by decide) (by omega) (by omega) (fun c120 => ?_) (fun c120 => ?_)
    · exact absurd c120 (by omega)
    · refine cm_aload0 (pc := 123) dX7_passMinute_123 ?_
      refine cm_iload3 (pc := 124) dX7_passMinute_124 ?_
      refine cm_aload0 (pc := 125) dX7_passMinute_125 ?_
      refine cm_V0 (pc := 126) mX7_sunNow_v mlX7_224 dX7_passMinute_126 hE.1 (by omega) (Nat.le_of_ble_eq_true rfl) (Nat.le_refl _) (Nat.le_refl _) (r_sun hE (d := d + 3)) (fun r126 h126 hq126 => ?_)
      obtain ⟨rfl, rfl⟩ := hq126
      refine cm_iload1 (pc := 129) dX7_passMinute_129 ?_
      refine cm_iadd (pc := 130) dX7_passMinute_130 ?_
      refine cm_V2 (pc := 131) mX7_boughtAt_v mlX7_228 dX7_passMinute_131 hE.1 (by omega) (Nat.le_of_ble_eq_true rfl) (Nat.le_refl _) (Nat.le_refl _) (r_boughtAt hE (d := d + 1) h9 (i := i) (by omega)) (fun r131 h131 hq131 => ?_)
      obtain ⟨rfl, rfl⟩ := hq131
      refine cm_istore4 (pc := 134) dX7_passMinute_134 (by decide) rfl ?_
      refine cm_iload4 (pc := 136) dX7_passMinute_136 ?_
      refine cm_bipush (pc := 138) (v := -9) dX7_passMinute_138 (by decide) ?_
      cases hh : uBuy G nb i (uSun G + wind) ns 0 with
      | none =>
        refine cm_icmp_eq (tgt := 223) (pc := 140) dX7_passMinute_140 (by decide) (fun _ => ?_) (fun q => absurd rfl q)
        refine cm_incN3 (pc := 223) dX7_passMinute_223 (by decide) rfl ?_
        refine cm_goto (tgt := 115) (pc := 226) dX7_passMinute_226 (by decide) ?_
        rw [show uBuy1 G nb ns wind lk i = G by simp [uBuy1, hh]] at hst
        exact hst _
      | some k =>
      have hk6 := uBuy_lt hh
      have hkn : ¬ cm_oi (some k) = -9 := cm_oi_ne (by omega)
      refine cm_icmp_eq (pc := 140) (tgt := 223) dX7_passMinute_140 (by decide) (fun q => absurd q hkn) (fun c140 => ?_)
      refine cm_aload0 (pc := 143) dX7_passMinute_143 ?_
      refine cm_dup (pc := 144) dX7_passMinute_144 rfl ?_
      refine mk_fld (pc := 145) flX7_218 dX7_passMinute_145 hE.1 ?_
      refine cm_iconst (pc := 148) (v := 1) dX7_passMinute_148 (by decide) ?_
      refine cm_iload3 (pc := 149) dX7_passMinute_149 ?_
      refine cm_ishl (pc := 150) dX7_passMinute_150 ?_
      refine cm_ior (pc := 151) dX7_passMinute_151 ?_
      refine mk_set (pc := 152) fpX7_218 dX7_passMinute_152 hE.1 ?_
      refine cm_aload0 (pc := 155) dX7_passMinute_155 ?_
      refine cm_dup (pc := 156) dX7_passMinute_156 rfl ?_
      refine mk_fld (pc := 157) flX7_221 dX7_passMinute_157 hE.1 ?_
      refine cm_aload0 (pc := 160) dX7_passMinute_160 ?_
      refine cm_getR (pc := 161) flX7_46 dX7_passMinute_161 hE.1 hE.r17 ?_
      refine cm_iload4 (pc := 164) dX7_passMinute_164 ?_
      refine mk_getE (pc := 166) (k) dX7_passMinute_166 hE.a13 rfl (by omega) (by decide) ?_
      refine cm_iadd (pc := 167) dX7_passMinute_167 ?_
      refine mk_set (pc := 168) fpX7_221 dX7_passMinute_168 hE.1 ?_
      refine cm_aload0 (pc := 171) dX7_passMinute_171 ?_
      refine cm_getR (pc := 172) flX7_37 dX7_passMinute_172 hE.1 hE.r14 ?_
      refine cm_iload3 (pc := 175) dX7_passMinute_175 ?_
      refine cm_dup2 (pc := 176) dX7_passMinute_176 rfl rfl ?_
      refine mk_get (pc := 177) dX7_passMinute_177 hE.a10 (by omega) (by decide) ?_
      refine cm_aload0 (pc := 178) dX7_passMinute_178 ?_
      refine cm_getR (pc := 179) flX7_46 dX7_passMinute_179 hE.1 hE.r17 ?_
      refine cm_iload4 (pc := 182) dX7_passMinute_182 ?_
      refine mk_getE (pc := 184) (k) dX7_passMinute_184 hE.a13 rfl (by omega) (by decide) ?_
      refine cm_iadd (pc := 185) dX7_passMinute_185 ?_
      refine mk_put (pc := 186) dX7_passMinute_186 hE.a10 (by omega) (by decide) ?_
      refine cm_aload0 (pc := 187) dX7_passMinute_187 ?_
      refine cm_getR (pc := 188) flX7_49 dX7_passMinute_188 hE.1 hE.r18 ?_
      refine cm_iload4 (pc := 191) dX7_passMinute_191 ?_
      refine cm_dup2 (pc := 193) dX7_passMinute_193 rfl rfl ?_
      refine mk_getE (pc := 194) (k) dX7_passMinute_194 hE.a14 rfl (by omega) (by decide) ?_
      refine cm_iconst (pc := 195) (v := 1) dX7_passMinute_195 (by decide) ?_
      refine cm_iadd (pc := 196) dX7_passMinute_196 ?_
      refine mk_putE (pc := 197) (k) dX7_passMinute_197 hE.a14 rfl (by omega) (by decide) ?_
      refine cm_aload0 (pc := 198) dX7_passMinute_198 ?_
      refine cm_getR (pc := 199) flX7_34 dX7_passMinute_199 hE.1 hE.r13 ?_
      refine cm_iload3 (pc := 202) dX7_passMinute_202 ?_
      refine cm_iconst (pc := 203) (v := 4) dX7_passMinute_203 (by decide) ?_
      refine mk_put (pc := 204) dX7_passMinute_204 hE.a9 (by omega) (by decide) ?_
      refine cm_aload0 (pc := 205) dX7_passMinute_205 ?_
      refine cm_iload3 (pc := 206) dX7_passMinute_206 ?_
      refine cm_iload2 (pc := 207) dX7_passMinute_207 ?_
      refine cm_icmp_ne (pc := 208) (tgt := 216) dX7_passMinute_208 (by decide) (fun c208 => ?_) (fun c208 => ?_)
      · refine cm_aload0 (pc := 216) dX7_passMinute_216 ?_
        refine mk_fld (pc := 217) flX7_231 dX7_passMinute_217 hE.1 ?_
        refine mk_set (pc := 220) fpX7_231 dX7_passMinute_220 hE.1 ?_
        refine cm_incN3 (pc := 223) dX7_passMinute_223 (by decide) rfl ?_
        refine cm_goto (tgt := 115) (pc := 226) dX7_passMinute_226 (by decide) ?_
        refine cm_h_eq ?_ (hst _)
        simp only [uBuy1, hh]
        congr 3
        funext c x
        by_cases h0 : c = 0
        · subst h0
          simp [va_up, upd, cm_oi, *]
          try (split <;> simp_all)
        · by_cases h9c : c = 9 <;> by_cases h10 : c = 10 <;> by_cases h14 : c = 14 <;> simp_all [va_up, upd]
      · refine cm_iload4 (pc := 211) dX7_passMinute_211 ?_
        refine cm_goto (pc := 213) (tgt := 220) dX7_passMinute_213 (by decide) ?_
        refine mk_set (pc := 220) fpX7_231 dX7_passMinute_220 hE.1 ?_
        refine cm_incN3 (pc := 223) dX7_passMinute_223 (by decide) rfl ?_
        refine cm_goto (tgt := 115) (pc := 226) dX7_passMinute_226 (by decide) ?_
        refine cm_h_eq ?_ (hst _)
        simp only [uBuy1, hh]
        congr 3
        funext c x
        by_cases h0 : c = 0
        · subst h0
          simp [va_up, upd, cm_oi, *]
          try (split <;> simp_all)
        · by_cases h9c : c = 9 <;> by_cases h10 : c = 10 <;> by_cases h14 : c = 14 <;> simp_all [va_up, upd]
set_option maxRecDepth 20000 in
theorem t_upass (hE : cm_mdl sh hr e) {wind lk : Int32} {y3 : Int32} {x4 : Option Value} (h : uOk u nb ns) : cm_g D mX7_passMinute (d + 4) 0 0 (fun r9 h9 => r9 = none ∧ h9 = (sh, cm_us hi e (uPass u nb ns wind lk), hl, hr)) 0 0 93 [some (.ref e), some (.int wind), some (.int lk), some (.int y3), x4] [] (sh, cm_us hi e (uPlains (uRichs u nb ns nb) nb ns nb), hl, hr) := by
  have hnb := h.1.2.1
  refine cm_aload0 (pc := 93) dX7_passMinute_93 ?_
  refine cm_dup (pc := 94) dX7_passMinute_94 rfl ?_
  refine mk_fld (pc := 95) flX7_160 dX7_passMinute_95 hE.1 ?_
  refine cm_iconst (pc := 98) (v := 1) dX7_passMinute_98 (by decide) ?_
  refine cm_iadd (pc := 99) dX7_passMinute_99 ?_
  refine mk_set (pc := 100) fpX7_160 dX7_passMinute_100 hE.1 ?_
  refine cm_aload0 (pc := 103) dX7_passMinute_103 ?_
  refine cm_iconst (pc := 104) (v := 0) dX7_passMinute_104 (by decide) ?_
  refine mk_set (pc := 105) fpX7_218 dX7_passMinute_105 hE.1 ?_
  refine cm_aload0 (pc := 108) dX7_passMinute_108 ?_
  refine cm_iconst (pc := 109) (v := 0) dX7_passMinute_109 (by decide) ?_
  refine mk_set (pc := 110) fpX7_221 dX7_passMinute_110 hE.1 ?_
  refine cm_iconst (pc := 113) (v := 0) dX7_passMinute_113 (by decide) ?_
  refine cm_istore3 (pc := 114) dX7_passMinute_114 (by decide) rfl ?_
  refine cm_h_eq (h' := (sh, cm_us hi e (uTick (uPlains (uRichs u nb ns nb) nb ns nb)), hl, hr)) ?_ (l_buys hE h nb 0 (by omega) _)
  congr 3
  funext c x
  by_cases h0 : c = 0
  · subst h0
    simp [uTick, va_up, upd]
  · simp [uTick, va_up, h0]
set_option maxRecDepth 20000 in
set_option maxHeartbeats 1000000 in
theorem l_uplain (hE : cm_mdl sh hr e) {wind lk : Int32} (h : uOk u nb ns) : ∀ n i : Nat, i + n = nb → ∀ x4 : Option Value, cm_g D mX7_passMinute (d + 4) 0 0 (fun r9 h9 => r9 = none ∧ h9 = (sh, cm_us hi e (uPass u nb ns wind lk), hl, hr)) 0 0 47 [some (.ref e), some (.int wind), some (.int lk), some (.int (nI i)), x4] [] (sh, cm_us hi e (uPlains (uRichs u nb ns nb) nb ns i), hl, hr) := by
  intro n
  induction n with
  | zero =>
    intro i hi9 x4
    have h1 : i = nb := by omega
    subst h1
    have h9 := (h.richs i).plains i
    have hnb := h9.1.2.1
    have hns := h9.1.2.2.2
    refine cm_iload3 (pc := 47) dX7_passMinute_47 ?_
    refine cm_aload0 (pc := 48) dX7_passMinute_48 ?_
    refine mk_fld (pc := 49) flX7_151 dX7_passMinute_49 hE.1 ?_
    rw [h9.1.1]
    refine cm_geN (pc := 52) (tgt := 93) dX7_passMinute_52 (by decide) (by omega) (by omega) (fun c52 => ?_) (fun c52 => ?_)
    · exact t_upass hE h
    · exact absurd c52 (by omega)
  | succ n ih =>
    intro i hi9 x4
    have h9 := (h.richs nb).plains i
    have hnb := h9.1.2.1
    have hns := h9.1.2.2.2
    have hst := ih (i + 1) (by omega)
    simp only [uPlains] at hst
    generalize uPlains (uRichs u nb ns nb) nb ns i = G at hst h9 ⊢
    refine cm_iload3 (pc := 47) dX7_passMinute_47 ?_
    refine cm_aload0 (pc := 48) dX7_passMinute_48 ?_
    refine mk_fld (pc := 49) flX7_151 dX7_passMinute_49 hE.1 ?_
    rw [h9.1.1]
    refine cm_geN (pc := 52) (tgt := 93) dX7_passMinute_52 (by decide) (by omega) (by omega) (fun c52 => ?_) (fun c52 => ?_)
    · exact absurd c52 (by omega)
    · refine cm_aload0 (pc := 55) dX7_passMinute_55 ?_
      refine cm_iload3 (pc := 56) dX7_passMinute_56 ?_
      refine cm_iconst (pc := 57) (v := 1) dX7_passMinute_57 (by decide) ?_
      refine cm_V2 (pc := 58) mX7_isA_v mlX7_185 dX7_passMinute_58 hE.1 (by omega) (Nat.le_of_ble_eq_true rfl) (Nat.le_refl _) (Nat.le_refl _) (r_isA hE (d := d + 3) (i := i) (by omega)) (fun r58 h58 hq58 => ?_)
      obtain ⟨rfl, rfl⟩ := hq58
      refine cm_ifeqB (pc := 61) (tgt := 68) dX7_passMinute_61 (by decide) (fun c61 => ?_) (fun c61 => ?_)
      · rw [if_neg (by rw [c61]; decide)] at hst
        refine cm_aload0 (pc := 68) dX7_passMinute_68 ?_
        refine cm_iload3 (pc := 69) dX7_passMinute_69 ?_
        refine cm_V1 (pc := 70) mX7_wishOf_v mlX7_198 dX7_passMinute_70 hE.1 (by omega) (Nat.le_of_ble_eq_true rfl) (Nat.le_refl _) (Nat.le_refl _) (r_wishOf hE (d := d + 1) h9 (i := i) (by omega)) (fun r70 h70 hq70 => ?_)
        obtain ⟨rfl, rfl⟩ := hq70
        refine cm_istore4 (pc := 73) dX7_passMinute_73 (by decide) rfl ?_
        refine cm_iload4 (pc := 75) dX7_passMinute_75 ?_
        refine cm_if_eq (pc := 77) (tgt := 87) dX7_passMinute_77 (by decide) (fun c77 => ?_) (fun c77 => ?_)
        · rw [if_pos c77] at hst
          refine cm_incN3 (pc := 87) dX7_passMinute_87 (by decide) rfl ?_
          refine cm_goto (tgt := 47) (pc := 90) dX7_passMinute_90 (by decide) ?_
          exact hst _
        · rw [if_neg c77] at hst
          refine cm_aload0 (pc := 80) dX7_passMinute_80 ?_
          refine cm_iload3 (pc := 81) dX7_passMinute_81 ?_
          refine cm_iload4 (pc := 82) dX7_passMinute_82 ?_
          refine cm_V2 (pc := 84) mX7_stepPlain_v mlX7_214 dX7_passMinute_84 hE.1 (by omega) (Nat.le_of_ble_eq_true rfl) (Nat.le_refl _) (Nat.le_refl _) (r_stepPlain hE (d := d + 1) h9 (i := i) (by omega)) (fun r84 h84 hq84 => ?_)
          obtain ⟨rfl, rfl⟩ := hq84
          refine cm_incN3 (pc := 87) dX7_passMinute_87 (by decide) rfl ?_
          refine cm_goto (tgt := 47) (pc := 90) dX7_passMinute_90 (by decide) ?_
          exact hst _
      · rw [if_pos c61] at hst
        refine cm_iconst (pc := 64) (v := 0) dX7_passMinute_64 (by decide) ?_
        refine cm_goto (pc := 65) (tgt := 73) dX7_passMinute_65 (by decide) ?_
        refine cm_istore4 (pc := 73) dX7_passMinute_73 (by decide) rfl ?_
        refine cm_iload4 (pc := 75) dX7_passMinute_75 ?_
        refine cm_if_eq (pc := 77) (tgt := 87) dX7_passMinute_77 (by decide) (fun c77 => ?_) (fun q => absurd rfl q)
        refine cm_incN3 (pc := 87) dX7_passMinute_87 (by decide) rfl ?_
        refine cm_goto (tgt := 47) (pc := 90) dX7_passMinute_90 (by decide) ?_
        exact hst _
set_option maxRecDepth 20000 in
set_option maxHeartbeats 1000000 in
theorem l_urich (hE : cm_mdl sh hr e) {wind lk : Int32} (h : uOk u nb ns) : ∀ n i : Nat, i + n = nb → ∀ x4 : Option Value, cm_g D mX7_passMinute (d + 4) 0 0 (fun r9 h9 => r9 = none ∧ h9 = (sh, cm_us hi e (uPass u nb ns wind lk), hl, hr)) 0 0 2 [some (.ref e), some (.int wind), some (.int lk), some (.int (nI i)), x4] [] (sh, cm_us hi e (uRichs u nb ns i), hl, hr) := by
  intro n
  induction n with
  | zero =>
    intro i hi9 x4
    have h1 : i = nb := by omega
    subst h1
    have h9 := h.richs i
    have hnb := h9.1.2.1
    have hns := h9.1.2.2.2
    refine cm_iload3 (pc := 2) dX7_passMinute_2 ?_
    refine cm_aload0 (pc := 3) dX7_passMinute_3 ?_
    refine mk_fld (pc := 4) flX7_151 dX7_passMinute_4 hE.1 ?_
    rw [h9.1.1]
    refine cm_geN (pc := 7) (tgt := 45) dX7_passMinute_7 (by decide) (by omega) (by omega) (fun c7 => ?_) (fun c7 => ?_)
    · refine cm_iconst (pc := 45) (v := 0) dX7_passMinute_45 (by decide) ?_
      refine cm_istore3 (pc := 46) dX7_passMinute_46 (by decide) rfl ?_
      exact l_uplain hE h _ 0 (Nat.zero_add _) _
    · exact absurd c7 (by omega)
  | succ n ih =>
    intro i hi9 x4
    have h9 := h.richs i
    have hnb := h9.1.2.1
    have hns := h9.1.2.2.2
    have hst := ih (i + 1) (by omega)
    simp only [uRichs] at hst
    generalize uRichs u nb ns i = G at hst h9 ⊢
    refine cm_iload3 (pc := 2) dX7_passMinute_2 ?_
    refine cm_aload0 (pc := 3) dX7_passMinute_3 ?_
    refine mk_fld (pc := 4) flX7_151 dX7_passMinute_4 hE.1 ?_
    rw [h9.1.1]
    refine cm_geN (pc := 7) (tgt := 45) dX7_passMinute_7 (by decide) (by omega) (by omega) (fun c7 => ?_) (fun c7 => ?_)
    · exact absurd c7 (by omega)
    · refine cm_aload0 (pc := 10) dX7_passMinute_10 ?_
      refine cm_iload3 (pc := 11) dX7_passMinute_11 ?_
      refine cm_iconst (pc := 12) (v := 1) dX7_passMinute_12 (by decide) ?_
      refine cm_V2 (pc := 13) mX7_isA_v mlX7_185 dX7_passMinute_13 hE.1 (by omega) (Nat.le_of_ble_eq_true rfl) (Nat.le_refl _) (Nat.le_refl _) (r_isA hE (d := d + 3) (i := i) (by omega)) (fun r13 h13 hq13 => ?_)
      obtain ⟨rfl, rfl⟩ := hq13
      refine cm_ifeqB (pc := 16) (tgt := 39) dX7_passMinute_16 (by decide) (fun c16 => ?_) (fun c16 => ?_)
      · rw [if_neg (by rw [c16]; decide)] at hst
        refine cm_incN3 (pc := 39) dX7_passMinute_39 (by decide) rfl ?_
        refine cm_goto (tgt := 2) (pc := 42) dX7_passMinute_42 (by decide) ?_
        exact hst _
      · rw [if_pos c16] at hst
        refine cm_aload0 (pc := 19) dX7_passMinute_19 ?_
        refine cm_iload3 (pc := 20) dX7_passMinute_20 ?_
        refine cm_V1 (pc := 21) mX7_stepRich_v mlX7_210 dX7_passMinute_21 hE.1 (by omega) (Nat.le_of_ble_eq_true rfl) (Nat.le_refl _) (Nat.le_refl _) (r_stepRich hE (d := d) h9 (i := i) (by omega)) (fun r21 h21 hq21 => ?_)
        obtain ⟨rfl, rfl⟩ := hq21
        have h8 := h9.rich (i := i)
        refine cm_aload0 (pc := 24) dX7_passMinute_24 ?_
        refine cm_getR (pc := 25) flX7_28 dX7_passMinute_25 hE.1 hE.r11 ?_
        refine cm_iload3 (pc := 28) dX7_passMinute_28 ?_
        refine mk_get (pc := 29) dX7_passMinute_29 hE.a7 (by omega) (by decide) ?_
        refine cm_iconst (pc := 30) (v := 5) dX7_passMinute_30 (by decide) ?_
        refine cm_icmp_ne (pc := 31) (tgt := 39) dX7_passMinute_31 (by decide) (fun c31 => ?_) (fun c31 => ?_)
        · rw [if_neg c31] at hst
          refine cm_incN3 (pc := 39) dX7_passMinute_39 (by decide) rfl ?_
          refine cm_goto (tgt := 2) (pc := 42) dX7_passMinute_42 (by decide) ?_
          exact hst _
        · rw [if_pos c31] at hst
          refine cm_aload0 (pc := 34) dX7_passMinute_34 ?_
          refine cm_iload3 (pc := 35) dX7_passMinute_35 ?_
          refine cm_V1 (pc := 36) mX7_stepRich_v mlX7_210 dX7_passMinute_36 hE.1 (by omega) (Nat.le_of_ble_eq_true rfl) (Nat.le_refl _) (Nat.le_refl _) (r_stepRich hE (d := d) h8 (i := i) (by omega)) (fun r36 h36 hq36 => ?_)
          obtain ⟨rfl, rfl⟩ := hq36
          refine cm_incN3 (pc := 39) dX7_passMinute_39 (by decide) rfl ?_
          refine cm_goto (tgt := 2) (pc := 42) dX7_passMinute_42 (by decide) ?_
          exact hst _
set_option maxRecDepth 20000 in
theorem r_passMinute (hE : cm_mdl sh hr e) {wind lk : Int32} (h : uOk u nb ns) : cm_ct D mX7_passMinute (d + 4) 0 0 [.ref e, .int wind, .int lk] (sh, cm_us hi e u, hl, hr) (fun r9 h9 => r9 = none ∧ h9 = (sh, cm_us hi e (uPass u nb ns wind lk), hl, hr)) := by
  refine cm_ct_of (ls := [some (.ref e), some (.int wind), some (.int lk), none, none]) 2 (by decide +kernel) rfl rfl ?_
  refine cm_iconst (pc := 0) (v := 0) dX7_passMinute_0 (by decide) ?_
  refine cm_istore3 (pc := 1) dX7_passMinute_1 (by decide) rfl ?_
  exact l_urich hE h nb 0 (by omega) none
end MD4
