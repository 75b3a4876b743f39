/-! PART ways: Market: nearest stall, the table of ways -/
def cNearer (g : cm_g2) (fr : Int32) (k b : Nat) : Bool := decide (cAbs (g 1 k - fr) < cAbs (g 1 b - fr)) || (decide (cAbs (g 1 k - fr) = cAbs (g 1 b - fr)) && !decide (g 1 b ≤ g 1 k))
def cNear (g : cm_g2) (fr goods : Int32) : Nat → Option Nat
  | 0 => none
  | k + 1 => if isI goods (g 2 k) = true ∧ (∀ b, cNear g fr goods k = some b → cNearer g fr k b = true) then some k else cNear g fr goods k
theorem cNear_lt {g : cm_g2} {fr goods : Int32} : ∀ {n k : Nat}, cNear g fr goods n = some k → k < n
  | 0, k, h => by simp [cNear] at h
  | n + 1, k, h => by
    unfold cNear at h
    split at h
    · cases h; omega
    · have := cNear_lt h; omega
def cWay (g : cm_g2) (ns : Nat) (fr goods : Int32) : Int32 := match cNear g fr goods ns with
  | none => 0
  | some k => if g 1 k = fr then 0 else if fr ≤ g 1 k then 1 else -1
def cFar (g : cm_g2) (ns : Nat) (fr goods : Int32) : Int32 := match cNear g fr goods ns with
  | none => -9
  | some k => cAbs (g 1 k - fr)
theorem cNear_g {g g' : cm_g2} (h1 : g' 1 = g 1) (h2 : g' 2 = g 2) (fr goods : Int32) : ∀ n, cNear g' fr goods n = cNear g fr goods n
  | 0 => rfl
  | n + 1 => by
    unfold cNear
    rw [cNear_g h1 h2 fr goods n, h2]
    have : ∀ b, cNearer g' fr n b = cNearer g fr n b := by intro b; simp [cNearer, h1]
    simp only [this]
theorem cWay_g {g g' : cm_g2} (h1 : g' 1 = g 1) (h2 : g' 2 = g 2) (ns : Nat) (fr goods : Int32) : cWay g' ns fr goods = cWay g ns fr goods := by
  unfold cWay
  rw [cNear_g h1 h2, h1]
def tabOk (g : cm_g2) (ns : Nat) (T : Nat → Int32) (w s : Nat) : Prop := ∀ w' s', w' < 5 → s' < 20 → (w' < w ∨ (w' = w ∧ s' < s)) → T (w' * 20 + s') = cWay g ns (nI s') (1 <<< (nI w' &&& 31)) ∧ T ((5 + w') * 20 + s') = cWay g ns (nI s') ((1 <<< (nI w' &&& 31)) ||| 8)
theorem wix0 (w s : Nat) : nI w * 20 + nI s = nI (w * 20 + s) := by rw [show (20 : Int32) = nI 20 from rfl, pk_mul, nI_add]
theorem tabOk.step {g : cm_g2} {ns w s : Nat} {T : Nat → Int32} (h : tabOk g ns T w s) (hw : w < 5) (hs : s < 20) : tabOk g ns (upd (upd T (w * 20 + s) (cWay g ns (nI s) (1 <<< (nI w &&& 31)))) ((5 + w) * 20 + s) (cWay g ns (nI s) ((1 <<< (nI w &&& 31)) ||| 8))) w (s + 1) := by
  intro w' s' hw' hs' hc
  unfold upd
  by_cases e : w' = w ∧ s' = s
  · obtain ⟨rfl, rfl⟩ := e
    refine ⟨?_, ?_⟩
    · rw [if_neg (by omega), if_pos rfl]
    · rw [if_pos rfl]
  · have hc2 : w' < w ∨ (w' = w ∧ s' < s) := by
      rcases hc with q | ⟨q1, q2⟩
      · exact Or.inl q
      · refine Or.inr ⟨q1, ?_⟩
        rcases Nat.lt_or_ge s' s with z | z
        · exact z
        · exact absurd ⟨q1, by omega⟩ e
    have hh := h w' s' hw' hs' hc2
    have n1 : w' * 20 + s' ≠ w * 20 + s := fun q => e ⟨by omega, by omega⟩
    have n2 : (5 + w') * 20 + s' ≠ (5 + w) * 20 + s := fun q => e ⟨by omega, by omega⟩
    refine ⟨?_, ?_⟩
    · rw [if_neg (by omega), if_neg n1]; exact hh.1
    · rw [if_neg n2, if_neg (by omega)]; exact hh.2
theorem tabOk.next {g : cm_g2} {ns w : Nat} {T : Nat → Int32} (h : tabOk g ns T w 20) : tabOk g ns T (w + 1) 0 := fun w' s' hw' hs' hc => h w' s' hw' hs' (by omega)
section MK7
variable {D : cm_D} {d : Nat} {sh : List cm_Sh} {hi g : cm_g2} {hl : Nat → Nat → Int64} {hr : Nat → Nat → Option Nat} {a nb ns : Nat}
set_option maxRecDepth 20000 in
theorem k_isNearer (hM : cm_mkt sh hr a) {k b : Nat} {fr : Int32} (hk : k < 6) (hb : b < 6) : cm_ct D mX2_isNearer (d + 1) 0 0 [.ref a, .int fr, .int (nI k), .int (nI b)] (sh, cm_us hi a g, hl, hr) (fun r9 h9 => r9 = some (.int (cm_bi (cNearer g fr k b))) ∧ h9 = (sh, cm_us hi a g, hl, hr)) := by
  refine cm_ct_of (ls := [some (.ref a), some (.int fr), some (.int (nI k)), some (.int (nI b)), none, none]) 2 (by decide +kernel) rfl rfl ?_
  refine cm_aload0 (pc := 0) dX2_isNearer_0 ?_
  refine cm_getR (pc := 1) flX2_9 dX2_isNearer_1 hM.1 hM.r4 ?_
  refine cm_iload2 (pc := 4) dX2_isNearer_4 ?_
  refine mk_get (pc := 5) dX2_isNearer_5 hM.a1 (by omega) (by decide) ?_
  refine cm_iload1 (pc := 6) dX2_isNearer_6 ?_
  refine cm_isub (pc := 7) dX2_isNearer_7 ?_
  refine cm_abs (pc := 8) mJ9_abs_0f7a4_s lmX2_83 dX2_isNearer_8 (by omega) (Nat.le_of_ble_eq_true rfl) (Nat.le_refl _) (Nat.le_refl _) ?_
  refine cm_istore4 (pc := 11) dX2_isNearer_11 (by decide) rfl ?_
  refine cm_aload0 (pc := 13) dX2_isNearer_13 ?_
  refine cm_getR (pc := 14) flX2_9 dX2_isNearer_14 hM.1 hM.r4 ?_
  refine cm_iload3 (pc := 17) dX2_isNearer_17 ?_
  refine mk_get (pc := 18) dX2_isNearer_18 hM.a1 (by omega) (by decide) ?_
  refine cm_iload1 (pc := 19) dX2_isNearer_19 ?_
  refine cm_isub (pc := 20) dX2_isNearer_20 ?_
  refine cm_abs (pc := 21) mJ9_abs_0f7a4_s lmX2_83 dX2_isNearer_21 (by omega) (Nat.le_of_ble_eq_true rfl) (Nat.le_refl _) (Nat.le_refl _) ?_
  refine cm_istore5 (pc := 24) dX2_isNearer_24 (by decide) rfl ?_
  refine cm_iload4 (pc := 26) dX2_isNearer_26 ?_
  refine cm_iload5 (pc := 28) dX2_isNearer_28 ?_
  refine cm_icmp_lt (pc := 30) (tgt := 55) dX2_isNearer_30 (by decide) (fun c30 => ?_) (fun c30 => ?_)
  · have q1 : cAbs (g 1 k - fr) < cAbs (g 1 b - fr) := c30
    refine cm_iconst (pc := 55) (v := 1) dX2_isNearer_55 (by decide) ?_
    refine cm_goto (pc := 56) (tgt := 60) dX2_isNearer_56 (by decide) ?_
    exact cm_zret (pc := 60) dX2_isNearer_60 rfl rfl ⟨by unfold cNearer; first | (simp [cm_bi, q1]; done) | (simp [cm_bi, q1, q2]; done) | (simp [cm_bi, q1, q2, c52]; done), rfl⟩
  · have q1 : ¬ cAbs (g 1 k - fr) < cAbs (g 1 b - fr) := c30
    refine cm_iload4 (pc := 33) dX2_isNearer_33 ?_
    refine cm_iload5 (pc := 35) dX2_isNearer_35 ?_
    refine cm_icmp_ne (pc := 37) (tgt := 59) dX2_isNearer_37 (by decide) (fun c37 => ?_) (fun c37 => ?_)
    · have q2 : ¬ cAbs (g 1 k - fr) = cAbs (g 1 b - fr) := c37
      refine cm_iconst (pc := 59) (v := 0) dX2_isNearer_59 (by decide) ?_
      exact cm_zret (pc := 60) dX2_isNearer_60 rfl rfl ⟨by unfold cNearer; first | (simp [cm_bi, q1]; done) | (simp [cm_bi, q1, q2]; done) | (simp [cm_bi, q1, q2, c52]; done), rfl⟩
    · have q2 : cAbs (g 1 k - fr) = cAbs (g 1 b - fr) := c37
      refine cm_aload0 (pc := 40) dX2_isNearer_40 ?_
      refine cm_getR (pc := 41) flX2_9 dX2_isNearer_41 hM.1 hM.r4 ?_
      refine cm_iload2 (pc := 44) dX2_isNearer_44 ?_
      refine mk_get (pc := 45) dX2_isNearer_45 hM.a1 (by omega) (by decide) ?_
      refine cm_aload0 (pc := 46) dX2_isNearer_46 ?_
      refine cm_getR (pc := 47) flX2_9 dX2_isNearer_47 hM.1 hM.r4 ?_
      refine cm_iload3 (pc := 50) dX2_isNearer_50 ?_
      refine mk_get (pc := 51) dX2_isNearer_51 hM.a1 (by omega) (by decide) ?_
      refine cm_icmp_ge (pc := 52) (tgt := 59) dX2_isNearer_52 (by decide) (fun c52 => ?_) (fun c52 => ?_)
      · refine cm_iconst (pc := 59) (v := 0) dX2_isNearer_59 (by decide) ?_
        exact cm_zret (pc := 60) dX2_isNearer_60 rfl rfl ⟨by unfold cNearer; first | (simp [cm_bi, q1]; done) | (simp [cm_bi, q1, q2]; done) | (simp [cm_bi, q1, q2, c52]; done), rfl⟩
      · refine cm_iconst (pc := 55) (v := 1) dX2_isNearer_55 (by decide) ?_
        refine cm_goto (pc := 56) (tgt := 60) dX2_isNearer_56 (by decide) ?_
        exact cm_zret (pc := 60) dX2_isNearer_60 rfl rfl ⟨by unfold cNearer; first | (simp [cm_bi, q1]; done) | (simp [cm_bi, q1, q2]; done) | (simp [cm_bi, q1, q2, c52]; done), rfl⟩
set_option maxRecDepth 20000 in
theorem l_cnear (hM : cm_mkt sh hr a) {fr gs : Int32} (hs : g 0 2 = nI ns) (hns : ns ≤ 6) : ∀ q k : Nat, k + q = ns → cm_g D mX2_nearestStall (d + 2) 0 0 (fun r9 h9 => r9 = some (.int (cm_oi (cNear g fr gs ns))) ∧ h9 = (sh, cm_us hi a g, hl, hr)) 0 0 6 [some (.ref a), some (.int fr), some (.int gs), some (.int (cm_oi (cNear g fr gs k))), some (.int (nI k))] [] (sh, cm_us hi a g, hl, hr) := by
  intro q
  induction q with
  | zero =>
    intro k hk
    have h1 : k = ns := by omega
    subst h1
    refine cm_iload4 (pc := 6) dX2_nearestStall_6 ?_
    refine cm_aload0 (pc := 8) dX2_nearestStall_8 ?_
    refine mk_fld (pc := 9) flX2_49 dX2_nearestStall_9 hM.1 ?_
    rw [hs]
    refine cm_geN (pc := 12) (tgt := 55) dX2_nearestStall_12 (by decide) (by omega) (by omega) (fun c12 => ?_) (fun c12 => ?_)
    · refine cm_iload3 (pc := 55) dX2_nearestStall_55 ?_
      exact cm_iret (pc := 56) dX2_nearestStall_56 rfl ⟨rfl, rfl⟩
    · exact absurd c12 (by omega)
  | succ q ih =>
    intro k hk
    have hst := ih (k + 1) (by omega)
    refine cm_iload4 (pc := 6) dX2_nearestStall_6 ?_
    refine cm_aload0 (pc := 8) dX2_nearestStall_8 ?_
    refine mk_fld (pc := 9) flX2_49 dX2_nearestStall_9 hM.1 ?_
    rw [hs]
    refine cm_geN (pc := 12) (tgt := 55) dX2_nearestStall_12 (by decide) (by omega) (by omega) (fun c12 => ?_) (fun c12 => ?_)
    · exact absurd c12 (by omega)
    · refine cm_iload2 (pc := 15) dX2_nearestStall_15 ?_
      refine cm_aload0 (pc := 16) dX2_nearestStall_16 ?_
      refine cm_getR (pc := 17) flX2_15 dX2_nearestStall_17 hM.1 hM.r5 ?_
      refine cm_iload4 (pc := 20) dX2_nearestStall_20 ?_
      refine mk_get (pc := 22) dX2_nearestStall_22 hM.a2 (by omega) (by decide) ?_
      refine cm_S2 (pc := 23) mX6_isIn_s mlX2_75 dX2_nearestStall_23 (by omega) (Nat.le_of_ble_eq_true rfl) (Nat.le_refl _) (Nat.le_refl _) (k_isIn (d := d + 1)) (fun r23 h23 hq23 => ?_)
      obtain ⟨rfl, rfl⟩ := hq23
      refine cm_ifeqB (pc := 26) (tgt := 49) dX2_nearestStall_26 (by decide) (fun c26 => ?_) (fun c26 => ?_)
      · refine cm_incN4 (pc := 49) dX2_nearestStall_49 (by decide) rfl ?_
        refine cm_goto (tgt := 6) (pc := 52) dX2_nearestStall_52 (by decide) ?_
        rw [show cNear g fr gs (k + 1) = cNear g fr gs k by
          conv => lhs; unfold cNear
          rw [if_neg (fun q => by have := q.1; rw [c26] at this; cases this)]] at hst
        exact hst
      · refine cm_iload3 (pc := 29) dX2_nearestStall_29 ?_
        refine cm_bipush (pc := 30) (v := -9) dX2_nearestStall_30 (by decide) ?_
        cases hc : cNear g fr gs k with
        | none =>
          refine cm_icmp_eq (tgt := 46) (pc := 32) dX2_nearestStall_32 (by decide) (fun _ => ?_) (fun q => absurd rfl q)
          refine cm_iload4 (pc := 46) dX2_nearestStall_46 ?_
          refine cm_istore3 (pc := 48) dX2_nearestStall_48 (by decide) rfl ?_
          refine cm_incN4 (pc := 49) dX2_nearestStall_49 (by decide) rfl ?_
          refine cm_goto (tgt := 6) (pc := 52) dX2_nearestStall_52 (by decide) ?_
          rw [show cNear g fr gs (k + 1) = some k by
            unfold cNear
            rw [if_pos ⟨c26, fun b hb => by rw [hc] at hb; cases hb⟩]] at hst
          exact hst
        | some b =>
        have hb6 := cNear_lt hc
        have hbn : ¬ cm_oi (some b) = -9 := cm_oi_ne (by omega)
        refine cm_icmp_eq (pc := 32) (tgt := 46) dX2_nearestStall_32 (by decide) (fun q => absurd q hbn) (fun c32 => ?_)
        refine cm_aload0 (pc := 35) dX2_nearestStall_35 ?_
        refine cm_iload1 (pc := 36) dX2_nearestStall_36 ?_
        refine cm_iload4 (pc := 37) dX2_nearestStall_37 ?_
        refine cm_iload3 (pc := 39) dX2_nearestStall_39 ?_
        refine cm_V3 (pc := 40) mX2_isNearer_v mlX2_79 dX2_nearestStall_40 hM.1 (by omega) (Nat.le_of_ble_eq_true rfl) (Nat.le_refl _) (Nat.le_refl _) (k_isNearer hM (d := d) (k := k) (b := b) (by omega) (by omega)) (fun r40 h40 hq40 => ?_)
        obtain ⟨rfl, rfl⟩ := hq40
        refine cm_ifeqB (pc := 43) (tgt := 49) dX2_nearestStall_43 (by decide) (fun c43 => ?_) (fun c43 => ?_)
        · refine cm_incN4 (pc := 49) dX2_nearestStall_49 (by decide) rfl ?_
          refine cm_goto (tgt := 6) (pc := 52) dX2_nearestStall_52 (by decide) ?_
          rw [show cNear g fr gs (k + 1) = some b by
            unfold cNear
            rw [if_neg (fun q => by have := q.2 b hc; rw [c43] at this; cases this), hc]] at hst
          exact hst
        · refine cm_iload4 (pc := 46) dX2_nearestStall_46 ?_
          refine cm_istore3 (pc := 48) dX2_nearestStall_48 (by decide) rfl ?_
          refine cm_incN4 (pc := 49) dX2_nearestStall_49 (by decide) rfl ?_
          refine cm_goto (tgt := 6) (pc := 52) dX2_nearestStall_52 (by decide) ?_
          rw [show cNear g fr gs (k + 1) = some k by
            unfold cNear
            rw [if_pos ⟨c26, fun b9 hb9 => by rw [hc] at hb9; cases hb9; exact c43⟩]] at hst
          exact hst
set_option maxRecDepth 20000 in
theorem k_nearestStall (hM : cm_mkt sh hr a) {fr gs : Int32} (hs : g 0 2 = nI ns) (hns : ns ≤ 6) : cm_ct D mX2_nearestStall (d + 2) 0 0 [.ref a, .int fr, .int gs] (sh, cm_us hi a g, hl, hr) (fun r9 h9 => r9 = some (.int (cm_oi (cNear g fr gs ns))) ∧ h9 = (sh, cm_us hi a g, hl, hr)) := by
  refine cm_ct_of (ls := [some (.ref a), some (.int fr), some (.int gs), none, none]) 2 (by decide +kernel) rfl rfl ?_
  refine cm_bipush (pc := 0) (v := -9) dX2_nearestStall_0 (by decide) ?_
  refine cm_istore3 (pc := 2) dX2_nearestStall_2 (by decide) rfl ?_
  refine cm_iconst (pc := 3) (v := 0) dX2_nearestStall_3 (by decide) ?_
  refine cm_istore4 (pc := 4) dX2_nearestStall_4 (by decide) rfl ?_
  exact l_cnear hM hs hns ns 0 (by omega)
set_option maxRecDepth 20000 in
theorem k_wayToNearest (hM : cm_mkt sh hr a) {fr gs : Int32} (hs : g 0 2 = nI ns) (hns : ns ≤ 6) : cm_ct D mX2_wayToNearest (d + 3) 0 0 [.ref a, .int fr, .int gs] (sh, cm_us hi a g, hl, hr) (fun r9 h9 => r9 = some (.int (cWay g ns fr gs)) ∧ h9 = (sh, cm_us hi a g, hl, hr)) := by
  refine cm_ct_of (ls := [some (.ref a), some (.int fr), some (.int gs), none]) 1 (by decide +kernel) rfl rfl ?_
  refine cm_aload0 (pc := 0) dX2_wayToNearest_0 ?_
  refine cm_iload1 (pc := 1) dX2_wayToNearest_1 ?_
  refine cm_iload2 (pc := 2) dX2_wayToNearest_2 ?_
  refine cm_V2 (pc := 3) mX2_nearestStall_v mlX2_72 dX2_wayToNearest_3 hM.1 (by omega) (Nat.le_of_ble_eq_true rfl) (Nat.le_refl _) (Nat.le_refl _) (k_nearestStall hM (d := d) hs hns) (fun r3 h3 hq3 => ?_)
  obtain ⟨rfl, rfl⟩ := hq3
  generalize hn : cNear g fr gs ns = o9
  refine cm_istore3 (pc := 6) dX2_wayToNearest_6 (by decide) rfl ?_
  refine cm_iload3 (pc := 7) dX2_wayToNearest_7 ?_
  refine cm_bipush (pc := 8) (v := -9) dX2_wayToNearest_8 (by decide) ?_
  cases o9 with
  | none =>
    refine cm_icmp_eq (tgt := 23) (pc := 10) dX2_wayToNearest_10 (by decide) (fun _ => ?_) (fun q => absurd rfl q)
    refine cm_iconst (pc := 23) (v := 0) dX2_wayToNearest_23 (by decide) ?_
    exact cm_iret (pc := 24) dX2_wayToNearest_24 rfl ⟨by simp [cWay, hn], rfl⟩
  | some k =>
  have hk6 := cNear_lt hn
  have hkn : ¬ cm_oi (some k) = -9 := cm_oi_ne (by omega)
  refine cm_icmp_eq (pc := 10) (tgt := 23) dX2_wayToNearest_10 (by decide) (fun q => absurd q hkn) (fun c10 => ?_)
  refine cm_aload0 (pc := 13) dX2_wayToNearest_13 ?_
  refine cm_getR (pc := 14) flX2_9 dX2_wayToNearest_14 hM.1 hM.r4 ?_
  refine cm_iload3 (pc := 17) dX2_wayToNearest_17 ?_
  refine mk_getE (pc := 18) (k) dX2_wayToNearest_18 hM.a1 rfl (by omega) (by decide) ?_
  refine cm_iload1 (pc := 19) dX2_wayToNearest_19 ?_
  refine cm_icmp_ne (pc := 20) (tgt := 25) dX2_wayToNearest_20 (by decide) (fun c20 => ?_) (fun c20 => ?_)
  · refine cm_aload0 (pc := 25) dX2_wayToNearest_25 ?_
    refine cm_getR (pc := 26) flX2_9 dX2_wayToNearest_26 hM.1 hM.r4 ?_
    refine cm_iload3 (pc := 29) dX2_wayToNearest_29 ?_
    refine mk_getE (pc := 30) (k) dX2_wayToNearest_30 hM.a1 rfl (by omega) (by decide) ?_
    refine cm_iload1 (pc := 31) dX2_wayToNearest_31 ?_
    refine cm_icmp_ge (pc := 32) (tgt := 39) dX2_wayToNearest_32 (by decide) (fun c32 => ?_) (fun c32 => ?_)
    · refine cm_iconst (pc := 39) (v := 1) dX2_wayToNearest_39 (by decide) ?_
      exact cm_iret (pc := 40) dX2_wayToNearest_40 rfl ⟨by simp [cWay, *], rfl⟩
    · refine cm_iconst (pc := 35) (v := -1) dX2_wayToNearest_35 (by decide) ?_
      refine cm_goto (pc := 36) (tgt := 40) dX2_wayToNearest_36 (by decide) ?_
      exact cm_iret (pc := 40) dX2_wayToNearest_40 rfl ⟨by simp [cWay, *], rfl⟩
  · refine cm_iconst (pc := 23) (v := 0) dX2_wayToNearest_23 (by decide) ?_
    exact cm_iret (pc := 24) dX2_wayToNearest_24 rfl ⟨by simp [cWay, *], rfl⟩
set_option maxRecDepth 20000 in
theorem k_farToNearest (hM : cm_mkt sh hr a) {fr gs : Int32} (hs : g 0 2 = nI ns) (hns : ns ≤ 6) : cm_ct D mX2_farToNearest (d + 3) 0 0 [.ref a, .int fr, .int gs] (sh, cm_us hi a g, hl, hr) (fun r9 h9 => r9 = some (.int (cFar g ns fr gs)) ∧ h9 = (sh, cm_us hi a g, hl, hr)) := by
  refine cm_ct_of (ls := [some (.ref a), some (.int fr), some (.int gs), none]) 1 (by decide +kernel) rfl rfl ?_
  refine cm_aload0 (pc := 0) dX2_farToNearest_0 ?_
  refine cm_iload1 (pc := 1) dX2_farToNearest_1 ?_
  refine cm_iload2 (pc := 2) dX2_farToNearest_2 ?_
  refine cm_V2 (pc := 3) mX2_nearestStall_v mlX2_72 dX2_farToNearest_3 hM.1 (by omega) (Nat.le_of_ble_eq_true rfl) (Nat.le_refl _) (Nat.le_refl _) (k_nearestStall hM (d := d) hs hns) (fun r3 h3 hq3 => ?_)
  obtain ⟨rfl, rfl⟩ := hq3
  generalize hn : cNear g fr gs ns = o9
  refine cm_istore3 (pc := 6) dX2_farToNearest_6 (by decide) rfl ?_
  refine cm_iload3 (pc := 7) dX2_farToNearest_7 ?_
  refine cm_bipush (pc := 8) (v := -9) dX2_farToNearest_8 (by decide) ?_
  cases o9 with
  | none =>
    refine cm_icmp_ne (tgt := 18) (pc := 10) dX2_farToNearest_10 (by decide) (fun q => absurd rfl q) (fun _ => ?_)
    refine cm_bipush (pc := 13) (v := -9) dX2_farToNearest_13 (by decide) ?_
    refine cm_goto (tgt := 29) (pc := 15) dX2_farToNearest_15 (by decide) ?_
    exact cm_iret (pc := 29) dX2_farToNearest_29 rfl ⟨by simp [cFar, hn], rfl⟩
  | some k =>
  have hk6 := cNear_lt hn
  have hkn : ¬ cm_oi (some k) = -9 := cm_oi_ne (by omega)
  refine cm_icmp_ne (pc := 10) (tgt := 18) dX2_farToNearest_10 (by decide) (fun c10 => ?_) (fun q => absurd q hkn)
  refine cm_aload0 (pc := 18) dX2_farToNearest_18 ?_
  refine cm_getR (pc := 19) flX2_9 dX2_farToNearest_19 hM.1 hM.r4 ?_
  refine cm_iload3 (pc := 22) dX2_farToNearest_22 ?_
  refine mk_getE (pc := 23) (k) dX2_farToNearest_23 hM.a1 rfl (by omega) (by decide) ?_
  refine cm_iload1 (pc := 24) dX2_farToNearest_24 ?_
  refine cm_isub (pc := 25) dX2_farToNearest_25 ?_
  refine cm_abs (pc := 26) mJ9_abs_0f7a4_s lmX2_83 dX2_farToNearest_26 (by omega) (Nat.le_of_ble_eq_true rfl) (Nat.le_refl _) (Nat.le_refl _) ?_
  exact cm_iret (pc := 29) dX2_farToNearest_29 rfl ⟨by simp [cFar, cAbs, *], rfl⟩
set_option maxRecDepth 20000 in
theorem l_fw1 (hM : cm_mkt sh hr a) (hs : g 0 2 = nI ns) (hns : ns ≤ 6) {w : Nat} (hw : w < 5) {Q : Option Value → cm_H → Prop} (kk : ∀ (T : Nat → Int32) (y : Int32), tabOk g ns T w 20 → cm_g D mX2_findWays (d + 4) 0 0 Q 0 0 64 [some (.ref a), some (.int (nI w)), some (.int y)] [] (sh, cm_us hi a (va_up g 10 T), hl, hr)) : ∀ q s : Nat, s + q = 20 → ∀ T : Nat → Int32, tabOk g ns T w s → cm_g D mX2_findWays (d + 4) 0 0 Q 0 0 9 [some (.ref a), some (.int (nI w)), some (.int (nI s))] [] (sh, cm_us hi a (va_up g 10 T), hl, hr) := by
  intro q
  induction q with
  | zero =>
    intro s hq T hT
    have h1 : s = 20 := by omega
    subst h1
    refine cm_iload2 (pc := 9) dX2_findWays_9 ?_
    refine cm_bipush (pc := 10) (v := 20) dX2_findWays_10 (by decide) ?_
    refine cm_icmp_ge (pc := 12) (tgt := 64) dX2_findWays_12 (by decide) (fun c12 => ?_) (fun q => absurd (by decide) q)
    exact kk _ _ hT
  | succ q ih =>
    intro s hq T hT
    have hs2 : va_up g 10 T 0 2 = nI ns := by rw [va_up_ne _ _ (by decide)]; exact hs
    refine cm_iload2 (pc := 9) dX2_findWays_9 ?_
    refine cm_bipush (pc := 10) (v := 20) dX2_findWays_10 (by decide) ?_
    refine cm_icmp_ge (pc := 12) (tgt := 64) dX2_findWays_12 (by decide) (fun q => absurd q (nI_ge (a := s) (b := 20) (by omega) (by omega))) (fun c12 => ?_)
    refine cm_aload0 (pc := 15) dX2_findWays_15 ?_
    refine cm_getR (pc := 16) flX2_39 dX2_findWays_16 hM.1 hM.r13 ?_
    refine cm_iload1 (pc := 19) dX2_findWays_19 ?_
    refine cm_bipush (pc := 20) (v := 20) dX2_findWays_20 (by decide) ?_
    refine cm_imul (pc := 22) dX2_findWays_22 ?_
    refine cm_iload2 (pc := 23) dX2_findWays_23 ?_
    refine cm_iadd (pc := 24) dX2_findWays_24 ?_
    refine cm_aload0 (pc := 25) dX2_findWays_25 ?_
    refine cm_iload2 (pc := 26) dX2_findWays_26 ?_
    refine cm_iconst (pc := 27) (v := 1) dX2_findWays_27 (by decide) ?_
    refine cm_iload1 (pc := 28) dX2_findWays_28 ?_
    refine cm_ishl (pc := 29) dX2_findWays_29 ?_
    refine cm_V2 (pc := 30) mX2_wayToNearest_v mlX2_69 dX2_findWays_30 hM.1 (by omega) (Nat.le_of_ble_eq_true rfl) (Nat.le_refl _) (Nat.le_refl _) (k_wayToNearest hM (d := d) hs2 hns) (fun r30 h30 hq30 => ?_)
    obtain ⟨rfl, rfl⟩ := hq30
    rw [cWay_g (g := g) (va_up_ne _ _ (by decide)) (va_up_ne _ _ (by decide))]
    refine mk_putE (pc := 33) (w * 20 + s) dX2_findWays_33 hM.a10 (wix0 w s) (by omega) (by decide) ?_
    rw [va_up_self, bx_uu]
    have hs3 : va_up g 10 (upd T (w * 20 + s) (cWay g ns (nI s) (1 <<< (nI w &&& 31)))) 0 2 = nI ns := by rw [va_up_ne _ _ (by decide)]; exact hs
    refine cm_aload0 (pc := 34) dX2_findWays_34 ?_
    refine cm_getR (pc := 35) flX2_39 dX2_findWays_35 hM.1 hM.r13 ?_
    refine cm_iconst (pc := 38) (v := 5) dX2_findWays_38 (by decide) ?_
    refine cm_iload1 (pc := 39) dX2_findWays_39 ?_
    refine cm_iadd (pc := 40) dX2_findWays_40 ?_
    refine cm_bipush (pc := 41) (v := 20) dX2_findWays_41 (by decide) ?_
    refine cm_imul (pc := 43) dX2_findWays_43 ?_
    refine cm_iload2 (pc := 44) dX2_findWays_44 ?_
    refine cm_iadd (pc := 45) dX2_findWays_45 ?_
    refine cm_aload0 (pc := 46) dX2_findWays_46 ?_
    refine cm_iload2 (pc := 47) dX2_findWays_47 ?_
    refine cm_iconst (pc := 48) (v := 1) dX2_findWays_48 (by decide) ?_
    refine cm_iload1 (pc := 49) dX2_findWays_49 ?_
    refine cm_ishl (pc := 50) dX2_findWays_50 ?_
    refine cm_bipush (pc := 51) (v := 8) dX2_findWays_51 (by decide) ?_
    refine cm_ior (pc := 53) dX2_findWays_53 ?_
    refine cm_V2 (pc := 54) mX2_wayToNearest_v mlX2_69 dX2_findWays_54 hM.1 (by omega) (Nat.le_of_ble_eq_true rfl) (Nat.le_refl _) (Nat.le_refl _) (k_wayToNearest hM (d := d) hs3 hns) (fun r54 h54 hq54 => ?_)
    obtain ⟨rfl, rfl⟩ := hq54
    rw [cWay_g (g := g) (va_up_ne _ _ (by decide)) (va_up_ne _ _ (by decide))]
    refine mk_putE (pc := 57) ((5 + w) * 20 + s) dX2_findWays_57 hM.a10 (wix 5 w s) (by omega) (by decide) ?_
    rw [va_up_self, bx_uu]
    refine cm_incN2 (pc := 58) dX2_findWays_58 (by decide) rfl ?_
    refine cm_goto (pc := 61) (tgt := 9) dX2_findWays_61 (by decide) ?_
    exact ih (s + 1) (by omega) _ (hT.step hw (by omega))
set_option maxRecDepth 20000 in
theorem l_fw (hM : cm_mkt sh hr a) (hs : g 0 2 = nI ns) (hns : ns ≤ 6) : ∀ q w : Nat, w + q = 5 → ∀ (T : Nat → Int32) (x2 : Option Value), tabOk g ns T w 0 → cm_g D mX2_findWays (d + 4) 0 0 (fun r9 h9 => r9 = none ∧ ∃ T, h9 = (sh, cm_us hi a (va_up g 10 T), hl, hr) ∧ tabOk g ns T 5 0) 0 0 2 [some (.ref a), some (.int (nI w)), x2] [] (sh, cm_us hi a (va_up g 10 T), hl, hr) := by
  intro q
  induction q with
  | zero =>
    intro w hq T x2 hT
    have h1 : w = 5 := by omega
    subst h1
    refine cm_iload1 (pc := 2) dX2_findWays_2 ?_
    refine cm_iconst (pc := 3) (v := 5) dX2_findWays_3 (by decide) ?_
    refine cm_icmp_ge (pc := 4) (tgt := 70) dX2_findWays_4 (by decide) (fun c4 => ?_) (fun q => absurd (by decide) q)
    exact cm_vret (pc := 70) dX2_findWays_70 rfl ⟨rfl, T, rfl, hT⟩
  | succ q ih =>
    intro w hq T x2 hT
    refine cm_iload1 (pc := 2) dX2_findWays_2 ?_
    refine cm_iconst (pc := 3) (v := 5) dX2_findWays_3 (by decide) ?_
    refine cm_icmp_ge (pc := 4) (tgt := 70) dX2_findWays_4 (by decide) (fun q => absurd q (nI_ge (a := w) (b := 5) (by omega) (by omega))) (fun c4 => ?_)
    refine cm_iconst (pc := 7) (v := 0) dX2_findWays_7 (by decide) ?_
    refine cm_istore2 (pc := 8) dX2_findWays_8 (by decide) rfl ?_
    refine l_fw1 hM hs hns (by omega) (fun T2 y h2 => ?_) 20 0 (by omega) T hT
    refine cm_incN1 (pc := 64) dX2_findWays_64 (by decide) rfl ?_
    refine cm_goto (tgt := 2) (pc := 67) dX2_findWays_67 (by decide) ?_
    exact ih (w + 1) (by omega) T2 _ h2.next
set_option maxRecDepth 20000 in
theorem k_findWays (hM : cm_mkt sh hr a) (hs : g 0 2 = nI ns) (hns : ns ≤ 6) : cm_ct D mX2_findWays (d + 4) 0 0 [.ref a] (sh, cm_us hi a g, hl, hr) (fun r9 h9 => r9 = none ∧ ∃ T, h9 = (sh, cm_us hi a (va_up g 10 T), hl, hr) ∧ tabOk g ns T 5 0) := by
  refine cm_ct_of (ls := [some (.ref a), none, none]) 2 (by decide +kernel) rfl rfl ?_
  refine cm_iconst (pc := 0) (v := 0) dX2_findWays_0 (by decide) ?_
  refine cm_istore1 (pc := 1) dX2_findWays_1 (by decide) rfl ?_
  refine cm_h_eq (show (sh, cm_us hi a g, hl, hr) = (sh, cm_us hi a (va_up g 10 (g 10)), hl, hr) by
    congr 3
    funext c
    unfold va_up
    split
    · next h => rw [h]
    · rfl) ?_
  exact l_fw hM hs hns 5 0 (by omega) _ _ (fun w s _ _ hc => by omega)
end MK7
