/-! PART track: Tracker -/
def tW (sb : Nat → Bool) : Nat → Nat
  | 0 => 1
  | k + 1 => tW sb k * (if sb k then 5 else 1)
def tGv (sb : Nat → Bool) : Nat → Nat → (Nat → Int32) → (Nat → Int32)
  | 0, _, f => f
  | p + 1, way, f => if sb p then tGv sb p (way / 5) (upd f p (nI (way % 5))) else tGv sb p way f
def tNv (sb : Nat → Bool) : Nat → Nat → (Nat → Int32) → (Nat → Int32)
  | 0, _, f => f
  | p + 1, way, f => if sb p then tNv sb p (way / 5) (upd f p (f p ||| (1 <<< (nI (way % 5) &&& 31)))) else tNv sb p way f
def tSn (f : Nat → Int32) (G : cm_g2) : Nat → Nat → Bool
  | 0, _ => true
  | q + 1, k => if f k = -9 ∨ f k = G 6 k then tSn f G q (k + 1) else false
abbrev sbOf (set : Int32) : Nat → Bool := fun i => isI set (nI i)
def skOk (g P : cm_g2) (sb : Nat → Bool) (w : Nat) : Prop := (∀ j, j < 4 → g 0 j = P 0 j) ∧ (∀ c, 1 ≤ c → c ≤ 9 → c ≠ 7 → ∀ i, i < 6 → g c i = P c i) ∧ (∃ f, (∀ i, i < 6 → f i = P 7 i) ∧ g 7 = tGv sb 6 w f) ∧ (∀ i, i < 200 → g 10 i = P 10 i)
def skVal (P : cm_g2) (nb ns n : Nat) (sb : Nat → Bool) (f : Nat → Int32) (w : Nat) (b : Bool) : Prop := ∃ g, skOk g P sb w ∧ b = tSn f (mIt g nb ns n).1 nb 0
def skFold (sb : Nat → Bool) (F : Nat → Bool) : Nat → Nat × Int32 × (Nat → Int32)
  | 0 => (0, -9, fun _ => 0)
  | w + 1 => if F w then ((skFold sb F w).1 + 1, (if (skFold sb F w).1 = 0 then nI w else (skFold sb F w).2.1), tNv sb 6 w (skFold sb F w).2.2) else skFold sb F w
theorem skFold_congr {sb : Nat → Bool} {F F' : Nat → Bool} : ∀ n, (∀ i, i < n → F i = F' i) → skFold sb F n = skFold sb F' n
  | 0, _ => rfl
  | n + 1, h => by
    unfold skFold
    rw [skFold_congr n (fun i hi => h i (by omega)), h n (by omega)]
theorem skFold_le {sb : Nat → Bool} {F : Nat → Bool} : ∀ n, (skFold sb F n).1 ≤ n
  | 0 => Nat.le_refl _
  | n + 1 => by
    have := skFold_le (sb := sb) (F := F) n
    unfold skFold
    split
    · show _ + 1 ≤ n + 1; omega
    · omega
theorem tW_le {sb : Nat → Bool} : ∀ k, k ≤ 6 → tW sb k ≤ 5 ^ k
  | 0, _ => Nat.le_refl _
  | k + 1, h => by
    have := tW_le (sb := sb) k (by omega)
    unfold tW
    rw [Nat.pow_succ]
    split
    · exact Nat.mul_le_mul_right 5 this
    · have : 0 < 5 ^ k := Nat.pow_pos (by decide)
      omega
theorem tGv_in {sb : Nat → Bool} : ∀ (p way : Nat) (f : Nat → Int32) (i : Nat), (0 ≤ (f i).toInt ∧ (f i).toInt < 5) → 0 ≤ (tGv sb p way f i).toInt ∧ (tGv sb p way f i).toInt < 5
  | 0, _, f, i, h => h
  | p + 1, way, f, i, h => by
    unfold tGv
    split
    · refine tGv_in p _ _ i ?_
      unfold upd
      split
      · have := Nat.mod_lt way (show 0 < 5 by decide)
        rw [nI_toInt (by omega)]
        omega
      · exact h
    · exact tGv_in p way f i h
theorem tNv_congr {sb : Nat → Bool} : ∀ (p way : Nat) (f f' : Nat → Int32), (∀ i, i < 6 → f i = f' i) → p ≤ 6 → ∀ i, i < 6 → tNv sb p way f i = tNv sb p way f' i
  | 0, _, _, _, h, _, i, hi => h i hi
  | p + 1, way, f, f', h, hp, i, hi => by
    unfold tNv
    split
    · refine tNv_congr p _ _ _ (fun j hj => ?_) (by omega) i hi
      unfold upd
      split
      · rw [h p (by omega)]
      · exact h j hj
    · exact tNv_congr p way f f' h (by omega) i hi
theorem rem5 {a : Nat} (h : a < 2 ^ 31) : nI a - nI a / 5 * 5 = nI (a % 5) := pk_rem (d := 5) h (by decide) (by decide)
theorem div5 {a : Nat} (h : a < 2 ^ 31) : nI a / 5 = nI (a / 5) := pk_div (d := 5) h (by decide) (by decide)
theorem mOk.sk {g P : cm_g2} {nb ns w : Nat} {sb : Nat → Bool} (h : mOk P nb ns) (b : skOk g P sb w) : mOk g nb ns := by
  have hnb := h.1.2.1
  obtain ⟨f, hf, h7⟩ := b.2.2.1
  refine ⟨⟨by rw [b.1 3 (by decide)]; exact h.1.1, h.1.2.1, by rw [b.1 2 (by decide)]; exact h.1.2.2.1, h.1.2.2.2⟩, fun i hi => by rw [b.2.1 6 (by decide) (by decide) (by decide) i (by omega)]; exact h.2.1 i hi, fun i hi => by rw [h7]; exact tGv_in 6 w f i (by rw [hf i (by omega)]; exact h.2.2.1 i hi), fun i hi => by rw [b.2.1 6 (by decide) (by decide) (by decide) i (by omega), b.2.1 6 (by decide) (by decide) (by decide) (i + 1) (by omega)]; exact h.2.2.2.1 i hi, fun x hx => by rw [b.2.2.2 x hx]; exact h.2.2.2.2 x hx⟩
theorem mSt.sk {g P : cm_g2} {w : Nat} {sb : Nat → Bool} (b : skOk g P sb w) : mSt g P := ⟨⟨b.1 0 (by decide), b.1 2 (by decide), b.1 3 (by decide)⟩, fun c hc => b.2.1 c (by omega) (by omega) (by omega), b.2.2.2⟩
section TR
variable {D : cm_D} {d : Nat} {sh : List cm_Sh} {hi g H5 : cm_g2} {hl : Nat → Nat → Int64} {hr : Nat → Nat → Option Nat} {nb ns : Nat} {set : Int32}
set_option maxRecDepth 20000 in
theorem l_ways {h : cm_H} : ∀ q k : Nat, k + q = 6 → cm_g D mX5_howManyWays (d + 1) 0 0 (fun r9 h9 => r9 = some (.int (nI (tW (sbOf set) 6))) ∧ h9 = h) 0 0 4 [some (.int set), some (.int (nI (tW (sbOf set) k))), some (.int (nI k))] [] h := by
  intro q
  induction q with
  | zero =>
    intro k hk
    have h1 : k = 6 := by omega
    subst h1
    refine cm_iload2 (pc := 4) dX5_howManyWays_4 ?_
    refine cm_bipush (pc := 5) (v := 6) dX5_howManyWays_5 (by decide) ?_
    refine cm_icmp_ge (pc := 7) (tgt := 32) dX5_howManyWays_7 (by decide) (fun c7 => ?_) (fun q => absurd (by decide) q)
    refine cm_iload1 (pc := 32) dX5_howManyWays_32 ?_
    exact cm_iret (pc := 33) dX5_howManyWays_33 rfl ⟨rfl, rfl⟩
  | succ q ih =>
    intro k hk
    have hst := ih (k + 1) (by omega)
    refine cm_iload2 (pc := 4) dX5_howManyWays_4 ?_
    refine cm_bipush (pc := 5) (v := 6) dX5_howManyWays_5 (by decide) ?_
    refine cm_icmp_ge (pc := 7) (tgt := 32) dX5_howManyWays_7 (by decide) (fun q => absurd q (nI_ge (a := k) (b := 6) (by omega) (by omega))) (fun c7 => ?_)
    refine cm_iload1 (pc := 10) dX5_howManyWays_10 ?_
    refine cm_iload0 (pc := 11) dX5_howManyWays_11 ?_
    refine cm_iload2 (pc := 12) dX5_howManyWays_12 ?_
    refine cm_S2 (pc := 13) mX6_isIn_s mlX5_54 dX5_howManyWays_13 (by omega) (Nat.le_of_ble_eq_true rfl) (Nat.le_refl _) (Nat.le_refl _) (k_isIn (d := d) ) (fun r13 h13 hq13 => ?_)
    obtain ⟨rfl, rfl⟩ := hq13
    refine cm_ifeqB (pc := 16) (tgt := 23) dX5_howManyWays_16 (by decide) (fun c16 => ?_) (fun c16 => ?_)
    · refine cm_iconst (pc := 23) (v := 1) dX5_howManyWays_23 (by decide) ?_
      refine cm_imul (pc := 24) dX5_howManyWays_24 ?_
      refine cm_istore1 (pc := 25) dX5_howManyWays_25 (by decide) rfl ?_
      refine cm_incN2 (pc := 26) dX5_howManyWays_26 (by decide) rfl ?_
      refine cm_goto (pc := 29) (tgt := 4) dX5_howManyWays_29 (by decide) ?_
      first
        | (rw [show nI (tW (sbOf set) k) * 5 = nI (tW (sbOf set) (k + 1)) by rw [show (5 : Int32) = nI 5 from rfl, pk_mul]; simp only [tW]; rw [if_pos c16]]; exact hst)
        | (rw [show nI (tW (sbOf set) k) * 1 = nI (tW (sbOf set) (k + 1)) by rw [show (1 : Int32) = nI 1 from rfl, pk_mul]; simp only [tW]; rw [if_neg (by rw [show sbOf set k = false from c16]; decide)]]; exact hst)
    · refine cm_iconst (pc := 19) (v := 5) dX5_howManyWays_19 (by decide) ?_
      refine cm_goto (pc := 20) (tgt := 24) dX5_howManyWays_20 (by decide) ?_
      refine cm_imul (pc := 24) dX5_howManyWays_24 ?_
      refine cm_istore1 (pc := 25) dX5_howManyWays_25 (by decide) rfl ?_
      refine cm_incN2 (pc := 26) dX5_howManyWays_26 (by decide) rfl ?_
      refine cm_goto (pc := 29) (tgt := 4) dX5_howManyWays_29 (by decide) ?_
      first
        | (rw [show nI (tW (sbOf set) k) * 5 = nI (tW (sbOf set) (k + 1)) by rw [show (5 : Int32) = nI 5 from rfl, pk_mul]; simp only [tW]; rw [if_pos c16]]; exact hst)
        | (rw [show nI (tW (sbOf set) k) * 1 = nI (tW (sbOf set) (k + 1)) by rw [show (1 : Int32) = nI 1 from rfl, pk_mul]; simp only [tW]; rw [if_neg (by rw [show sbOf set k = false from c16]; decide)]]; exact hst)
set_option maxRecDepth 20000 in
theorem k_howManyWays {h : cm_H} : cm_ct D mX5_howManyWays (d + 1) 0 0 [.int set] h (fun r9 h9 => r9 = some (.int (nI (tW (sbOf set) 6))) ∧ h9 = h) := by
  refine cm_ct_of (ls := [some (.int set), none, none]) 2 (by decide +kernel) rfl rfl ?_
  refine cm_iconst (pc := 0) (v := 1) dX5_howManyWays_0 (by decide) ?_
  refine cm_istore1 (pc := 1) dX5_howManyWays_1 (by decide) rfl ?_
  refine cm_iconst (pc := 2) (v := 0) dX5_howManyWays_2 (by decide) ?_
  refine cm_istore2 (pc := 3) dX5_howManyWays_3 (by decide) rfl ?_
  exact l_ways 6 0 (by omega)
set_option maxRecDepth 20000 in
theorem l_giveWants (hX : cm_cls sh hr) {Z : Nat → Int32} : ∀ (p w : Nat) (W : cm_g2), p ≤ 6 → w < 2 ^ 31 → (∀ c, c ≠ 55 → W c = hi c) → Z = tGv (sbOf set) p w (W 55) → cm_g D mX5_giveWants (d + 1) 0 0 (fun r9 h9 => r9 = none ∧ ∃ H, h9 = (sh, H, hl, hr) ∧ (∀ c, c ≠ 55 → H c = hi c) ∧ H 55 = Z) 0 0 2 [some (.ref 47), some (.int set), some (.int (nI w)), some (.int (nI p - 1))] [] (sh, W, hl, hr) := by
  intro p
  induction p with
  | zero =>
    intro w W hp hw hW hZ
    refine cm_iload3 (pc := 2) dX5_giveWants_2 ?_
    refine cm_if_lt (pc := 3) (tgt := 36) dX5_giveWants_3 (by decide) (fun c3 => ?_) (fun q => absurd (show nI 0 - 1 < 0 by decide) q)
    exact cm_vret (pc := 36) dX5_giveWants_36 rfl ⟨rfl, W, rfl, hW, hZ.symm⟩
  | succ p ih =>
    intro w W hp hw hW hZ
    rw [nI_pred]
    refine cm_iload3 (pc := 2) dX5_giveWants_2 ?_
    refine cm_if_lt (pc := 3) (tgt := 36) dX5_giveWants_3 (by decide) (fun q => absurd q (nI_pos (show p < 2 ^ 31 by omega))) (fun c3 => ?_)
    refine cm_iload1 (pc := 6) dX5_giveWants_6 ?_
    refine cm_iload3 (pc := 7) dX5_giveWants_7 ?_
    refine cm_S2 (pc := 8) mX6_isIn_s mlX5_54 dX5_giveWants_8 (by omega) (Nat.le_of_ble_eq_true rfl) (Nat.le_refl _) (Nat.le_refl _) (k_isIn (d := d) ) (fun r8 h8 hq8 => ?_)
    obtain ⟨rfl, rfl⟩ := hq8
    refine cm_ifeqB (pc := 11) (tgt := 30) dX5_giveWants_11 (by decide) (fun c11 => ?_) (fun c11 => ?_)
    · refine cm_iinc3 (pc := 30) (-1) dX5_giveWants_30 rfl (by decide) rfl ?_
      refine cm_goto (pc := 33) (tgt := 2) dX5_giveWants_33 (by decide) ?_
      rw [show nI p + -1 = nI p - 1 from (Int32.sub_eq_add_neg _ _).symm]
      first
        | exact ih w W (by omega) hw hW (by rw [hZ]; exact if_neg (by rw [show sbOf set p = false from c11]; decide))
        | exact ih (w / 5) G25 (by omega) (by omega) (fun c hc => by rw [e25 c hc, hW c hc]) (by rw [hZ, f25]; exact if_pos c11)
    · refine cm_aload0 (pc := 14) dX5_giveWants_14 ?_
      refine cm_getR (pc := 15) flX5_12 dX5_giveWants_15 hX.ot hX.rt0 ?_
      refine cm_getR (pc := 18) flX5_58 dX5_giveWants_18 hX.mt.1 hX.mt.r10 ?_
      refine cm_iload3 (pc := 21) dX5_giveWants_21 ?_
      refine cm_iload2 (pc := 22) dX5_giveWants_22 ?_
      refine cm_iconst (pc := 23) (v := 5) dX5_giveWants_23 (by decide) ?_
      refine cm_irem (pc := 24) dX5_giveWants_24 (by decide) ?_
      rw [rem5 hw]
      refine cm_iasN (pc := 25) dX5_giveWants_25 hX.mt.a7 (by omega) (by decide) ?_
      refine cm_memG (fun G25 e25 f25 => ?_)
      refine cm_iload2 (pc := 26) dX5_giveWants_26 ?_
      refine cm_iconst (pc := 27) (v := 5) dX5_giveWants_27 (by decide) ?_
      refine cm_idiv (pc := 28) dX5_giveWants_28 (by decide) ?_
      rw [div5 hw]
      refine cm_istore2 (pc := 29) dX5_giveWants_29 (by decide) rfl ?_
      refine cm_iinc3 (pc := 30) (-1) dX5_giveWants_30 rfl (by decide) rfl ?_
      refine cm_goto (pc := 33) (tgt := 2) dX5_giveWants_33 (by decide) ?_
      rw [show nI p + -1 = nI p - 1 from (Int32.sub_eq_add_neg _ _).symm]
      first
        | exact ih w W (by omega) hw hW (by rw [hZ]; exact if_neg (by rw [show sbOf set p = false from c11]; decide))
        | exact ih (w / 5) G25 (by omega) (by omega) (fun c hc => by rw [e25 c hc, hW c hc]) (by rw [hZ, f25]; exact if_pos c11)
set_option maxRecDepth 20000 in
theorem k_giveWants (hX : cm_cls sh hr) {way : Nat} (hw : way < 2 ^ 31) : cm_ct D mX5_giveWants (d + 1) 0 0 [.ref 47, .int set, .int (nI way)] (sh, hi, hl, hr) (fun r9 h9 => r9 = none ∧ ∃ H, h9 = (sh, H, hl, hr) ∧ (∀ c, c ≠ 55 → H c = hi c) ∧ H 55 = tGv (sbOf set) 6 way (hi 55)) := by
  refine cm_ct_of (ls := [some (.ref 47), some (.int set), some (.int (nI way)), none]) 1 (by decide +kernel) rfl rfl ?_
  refine cm_iconst (pc := 0) (v := 5) dX5_giveWants_0 (by decide) ?_
  refine cm_istore3 (pc := 1) dX5_giveWants_1 (by decide) rfl ?_
  rw [show (5 : Int32) = nI 6 - 1 by decide]
  exact l_giveWants hX 6 way hi (by omega) hw (fun _ _ => rfl) rfl
set_option maxRecDepth 20000 in
theorem l_noteWants (hX : cm_cls sh hr) {Z : Nat → Int32} : ∀ (p w : Nat) (W : cm_g2), p ≤ 6 → w < 2 ^ 31 → (∀ c, c ≠ 59 → W c = hi c) → Z = tNv (sbOf set) p w (W 59) → cm_g D mX5_noteWants (d + 1) 0 0 (fun r9 h9 => r9 = none ∧ ∃ H, h9 = (sh, H, hl, hr) ∧ (∀ c, c ≠ 59 → H c = hi c) ∧ H 59 = Z) 0 0 2 [some (.ref 47), some (.int set), some (.int (nI w)), some (.int (nI p - 1))] [] (sh, W, hl, hr) := by
  intro p
  induction p with
  | zero =>
    intro w W hp hw hW hZ
    refine cm_iload3 (pc := 2) dX5_noteWants_2 ?_
    refine cm_if_lt (pc := 3) (tgt := 38) dX5_noteWants_3 (by decide) (fun c3 => ?_) (fun q => absurd (show nI 0 - 1 < 0 by decide) q)
    exact cm_vret (pc := 38) dX5_noteWants_38 rfl ⟨rfl, W, rfl, hW, hZ.symm⟩
  | succ p ih =>
    intro w W hp hw hW hZ
    rw [nI_pred]
    refine cm_iload3 (pc := 2) dX5_noteWants_2 ?_
    refine cm_if_lt (pc := 3) (tgt := 38) dX5_noteWants_3 (by decide) (fun q => absurd q (nI_pos (show p < 2 ^ 31 by omega))) (fun c3 => ?_)
    refine cm_iload1 (pc := 6) dX5_noteWants_6 ?_
    refine cm_iload3 (pc := 7) dX5_noteWants_7 ?_
    refine cm_S2 (pc := 8) mX6_isIn_s mlX5_54 dX5_noteWants_8 (by omega) (Nat.le_of_ble_eq_true rfl) (Nat.le_refl _) (Nat.le_refl _) (k_isIn (d := d) ) (fun r8 h8 hq8 => ?_)
    obtain ⟨rfl, rfl⟩ := hq8
    refine cm_ifeqB (pc := 11) (tgt := 32) dX5_noteWants_11 (by decide) (fun c11 => ?_) (fun c11 => ?_)
    · refine cm_iinc3 (pc := 32) (-1) dX5_noteWants_32 rfl (by decide) rfl ?_
      refine cm_goto (pc := 35) (tgt := 2) dX5_noteWants_35 (by decide) ?_
      rw [show nI p + -1 = nI p - 1 from (Int32.sub_eq_add_neg _ _).symm]
      first
        | exact ih w W (by omega) hw hW (by rw [hZ]; exact if_neg (by rw [show sbOf set p = false from c11]; decide))
        | exact ih (w / 5) G27 (by omega) (by omega) (fun c hc => by rw [e27 c hc, hW c hc]) (by rw [hZ, f27]; exact if_pos c11)
    · refine cm_aload0 (pc := 14) dX5_noteWants_14 ?_
      refine cm_getR (pc := 15) flX5_18 dX5_noteWants_15 hX.ot hX.rt1 ?_
      refine cm_iload3 (pc := 18) dX5_noteWants_18 ?_
      refine cm_dup2 (pc := 19) dX5_noteWants_19 rfl rfl ?_
      refine cm_ialN (pc := 20) dX5_noteWants_20 hX.a59 (by omega) (by decide) ?_
      refine cm_iconst (pc := 21) (v := 1) dX5_noteWants_21 (by decide) ?_
      refine cm_iload2 (pc := 22) dX5_noteWants_22 ?_
      refine cm_iconst (pc := 23) (v := 5) dX5_noteWants_23 (by decide) ?_
      refine cm_irem (pc := 24) dX5_noteWants_24 (by decide) ?_
      rw [rem5 hw]
      refine cm_ishl (pc := 25) dX5_noteWants_25 ?_
      refine cm_ior (pc := 26) dX5_noteWants_26 ?_
      refine cm_iasN (pc := 27) dX5_noteWants_27 hX.a59 (by omega) (by decide) ?_
      refine cm_memG (fun G27 e27 f27 => ?_)
      refine cm_iload2 (pc := 28) dX5_noteWants_28 ?_
      refine cm_iconst (pc := 29) (v := 5) dX5_noteWants_29 (by decide) ?_
      refine cm_idiv (pc := 30) dX5_noteWants_30 (by decide) ?_
      rw [div5 hw]
      refine cm_istore2 (pc := 31) dX5_noteWants_31 (by decide) rfl ?_
      refine cm_iinc3 (pc := 32) (-1) dX5_noteWants_32 rfl (by decide) rfl ?_
      refine cm_goto (pc := 35) (tgt := 2) dX5_noteWants_35 (by decide) ?_
      rw [show nI p + -1 = nI p - 1 from (Int32.sub_eq_add_neg _ _).symm]
      first
        | exact ih w W (by omega) hw hW (by rw [hZ]; exact if_neg (by rw [show sbOf set p = false from c11]; decide))
        | exact ih (w / 5) G27 (by omega) (by omega) (fun c hc => by rw [e27 c hc, hW c hc]) (by rw [hZ, f27]; exact if_pos c11)
set_option maxRecDepth 20000 in
theorem k_noteWants (hX : cm_cls sh hr) {way : Nat} (hw : way < 2 ^ 31) : cm_ct D mX5_noteWants (d + 1) 0 0 [.ref 47, .int set, .int (nI way)] (sh, hi, hl, hr) (fun r9 h9 => r9 = none ∧ ∃ H, h9 = (sh, H, hl, hr) ∧ (∀ c, c ≠ 59 → H c = hi c) ∧ H 59 = tNv (sbOf set) 6 way (hi 59)) := by
  refine cm_ct_of (ls := [some (.ref 47), some (.int set), some (.int (nI way)), none]) 1 (by decide +kernel) rfl rfl ?_
  refine cm_iconst (pc := 0) (v := 5) dX5_noteWants_0 (by decide) ?_
  refine cm_istore3 (pc := 1) dX5_noteWants_1 (by decide) rfl ?_
  rw [show (5 : Int32) = nI 6 - 1 by decide]
  exact l_noteWants hX 6 way hi (by omega) hw (fun _ _ => rfl) rfl
set_option maxRecDepth 20000 in
theorem l_seen (hX : cm_cls sh hr) {s : Nat} (hS : cm_str sh hr s 40) (hz : hi s 1 = nI nb) (hb : hi 48 3 = nI nb) (hnb : nb ≤ 6) {Z : Bool} : ∀ q k : Nat, k + q = nb → Z = tSn (hi (s + 1)) (cm_sf hi 48) q k → cm_g D mX5_isAsSeen (d + 3) 0 0 (fun r9 h9 => r9 = some (.int (cm_bi (Z))) ∧ h9 = (sh, hi, hl, hr)) 0 0 2 [some (.ref 47), some (.ref s), some (.int (nI k))] [] (sh, hi, hl, hr) := by
  intro q
  induction q with
  | zero =>
    intro k hk hZ
    have h1 : k = nb := by omega
    subst h1
    refine cm_iload2 (pc := 2) dX5_isAsSeen_2 ?_
    refine cm_aload0 (pc := 3) dX5_isAsSeen_3 ?_
    refine cm_getR (pc := 4) flX5_12 dX5_isAsSeen_4 hX.ot hX.rt0 ?_
    refine cm_getI (pc := 7) flX5_61 dX5_isAsSeen_7 hX.mt.1 ?_
    refine cm_top_eq hb ?_
    refine cm_geN (pc := 10) (tgt := 48) dX5_isAsSeen_10 (by decide) (by omega) (by omega) (fun c10 => ?_) (fun c10 => ?_)
    · refine cm_iconst (pc := 48) (v := 1) dX5_isAsSeen_48 (by decide) ?_
      exact cm_zret (pc := 49) dX5_isAsSeen_49 rfl rfl ⟨by rw [hZ]; rfl, rfl⟩
    · exact absurd c10 (by omega)
  | succ q ih =>
    intro k hk hZ
    have hst := ih (k + 1) (by omega)
    refine cm_iload2 (pc := 2) dX5_isAsSeen_2 ?_
    refine cm_aload0 (pc := 3) dX5_isAsSeen_3 ?_
    refine cm_getR (pc := 4) flX5_12 dX5_isAsSeen_4 hX.ot hX.rt0 ?_
    refine cm_getI (pc := 7) flX5_61 dX5_isAsSeen_7 hX.mt.1 ?_
    refine cm_top_eq hb ?_
    refine cm_geN (pc := 10) (tgt := 48) dX5_isAsSeen_10 (by decide) (by omega) (by omega) (fun c10 => ?_) (fun c10 => ?_)
    · exact absurd c10 (by omega)
    · refine cm_aload1 (pc := 13) dX5_isAsSeen_13 ?_
      refine cm_iload2 (pc := 14) dX5_isAsSeen_14 ?_
      refine cm_V1 (pc := 15) mX4_get_v mlX5_64 dX5_isAsSeen_15 hS.1 (by omega) (Nat.le_of_ble_eq_true rfl) (Nat.le_refl _) (Nat.le_refl _) (cm_ct_us s (k_get (d := d) hS (by decide) (show (hi s 1).toInt ≤ _ by rw [hz, nI_toInt (by omega)]; omega))) (fun r15 h15 hq15 => ?_)
      obtain ⟨rfl, rfl⟩ := hq15
      rw [cm_us_sf, show stGet (cm_sf hi s) (nI k) = hi (s + 1) k by
        unfold stGet
        rw [if_pos (by rw [show cm_sf hi s 0 1 = nI nb from hz]; exact isW_nn (by omega) (by omega)), nI_clamp (by omega)]
        rfl]
      refine cm_bipush (pc := 18) (v := -9) dX5_isAsSeen_18 (by decide) ?_
      refine cm_icmp_eq (pc := 20) (tgt := 42) dX5_isAsSeen_20 (by decide) (fun c20 => ?_) (fun c20 => ?_)
      · refine cm_incN2 (pc := 42) dX5_isAsSeen_42 (by decide) rfl ?_
        refine cm_goto (pc := 45) (tgt := 2) dX5_isAsSeen_45 (by decide) ?_
        first
          | exact hst (by rw [hZ]; exact if_pos (Or.inl c20))
          | exact hst (by rw [hZ]; exact if_pos (Or.inr c37))
      · refine cm_aload1 (pc := 23) dX5_isAsSeen_23 ?_
        refine cm_iload2 (pc := 24) dX5_isAsSeen_24 ?_
        refine cm_V1 (pc := 25) mX4_get_v mlX5_64 dX5_isAsSeen_25 hS.1 (by omega) (Nat.le_of_ble_eq_true rfl) (Nat.le_refl _) (Nat.le_refl _) (cm_ct_us s (k_get (d := d) hS (by decide) (show (hi s 1).toInt ≤ _ by rw [hz, nI_toInt (by omega)]; omega))) (fun r25 h25 hq25 => ?_)
        obtain ⟨rfl, rfl⟩ := hq25
        rw [cm_us_sf, show stGet (cm_sf hi s) (nI k) = hi (s + 1) k by
          unfold stGet
          rw [if_pos (by rw [show cm_sf hi s 0 1 = nI nb from hz]; exact isW_nn (by omega) (by omega)), nI_clamp (by omega)]
          rfl]
        refine cm_aload0 (pc := 28) dX5_isAsSeen_28 ?_
        refine cm_getR (pc := 29) flX5_12 dX5_isAsSeen_29 hX.ot hX.rt0 ?_
        refine cm_getR (pc := 32) flX5_69 dX5_isAsSeen_32 hX.mt.1 hX.mt.r9 ?_
        refine cm_iload2 (pc := 35) dX5_isAsSeen_35 ?_
        refine cm_ialN (pc := 36) dX5_isAsSeen_36 hX.mt.a6 (by omega) (by decide) ?_
        refine cm_icmp_eq (pc := 37) (tgt := 42) dX5_isAsSeen_37 (by decide) (fun c37 => ?_) (fun c37 => ?_)
        · refine cm_incN2 (pc := 42) dX5_isAsSeen_42 (by decide) rfl ?_
          refine cm_goto (pc := 45) (tgt := 2) dX5_isAsSeen_45 (by decide) ?_
          first
            | exact hst (by rw [hZ]; exact if_pos (Or.inl c20))
            | exact hst (by rw [hZ]; exact if_pos (Or.inr c37))
        · refine cm_iconst (pc := 40) (v := 0) dX5_isAsSeen_40 (by decide) ?_
          exact cm_zret (pc := 41) dX5_isAsSeen_41 rfl rfl ⟨by rw [hZ, show tSn (hi (s + 1)) (cm_sf hi 48) (q + 1) k = false from if_neg (fun w => w.elim c20 c37)]; rfl, rfl⟩
set_option maxRecDepth 20000 in
theorem k_isAsSeen (hX : cm_cls sh hr) {s : Nat} (hS : cm_str sh hr s 40) (hz : hi s 1 = nI nb) (hb : hi 48 3 = nI nb) (hnb : nb ≤ 6) : cm_ct D mX5_isAsSeen (d + 3) 0 0 [.ref 47, .ref s] (sh, hi, hl, hr) (fun r9 h9 => r9 = some (.int (cm_bi (tSn (hi (s + 1)) (cm_sf hi 48) nb 0))) ∧ h9 = (sh, hi, hl, hr)) := by
  refine cm_ct_of (ls := [some (.ref 47), some (.ref s), none]) 1 (by decide +kernel) rfl rfl ?_
  refine cm_iconst (pc := 0) (v := 0) dX5_isAsSeen_0 (by decide) ?_
  refine cm_istore2 (pc := 1) dX5_isAsSeen_1 (by decide) rfl ?_
  exact l_seen hX hS hz hb hnb nb 0 (by omega) rfl
set_option maxRecDepth 20000 in
theorem l_skp (hX : cm_cls sh hr) {s n k : Nat} {Q : Option Value → cm_H → Prop} {B : cm_g2} {y5 : Option Value} (h0 : mOk g nb ns) (hn : n < 2147483648) (kk : ∀ x7 : Option Value, cm_g D mX5_seek (d + 7) 0 0 (Q) 0 0 98 [some (.ref 47), some (.ref 5), some (.int set), some (.int (nI n)), some (.ref s), y5, some (.int (nI k)), x7] [] (sh, cm_us B 48 (mIt g nb ns n).1, hl, hr)) : ∀ q m : Nat, m + q = n → cm_g D mX5_seek (d + 7) 0 0 (Q) 0 0 77 [some (.ref 47), some (.ref 5), some (.int set), some (.int (nI n)), some (.ref s), y5, some (.int (nI k)), some (.int (nI m))] [] (sh, cm_us B 48 (mIt g nb ns m).1, hl, hr) := by
  intro q
  induction q with
  | zero =>
    intro m hm
    have h1 : m = n := by omega
    subst h1
    refine cm_iload7 (pc := 77) dX5_seek_77 ?_
    refine cm_iload3 (pc := 79) dX5_seek_79 ?_
    refine cm_geN (pc := 80) (tgt := 98) dX5_seek_80 (by decide) (by omega) (by omega) (fun c80 => ?_) (fun c80 => ?_)
    · exact kk _
    · exact absurd c80 (by omega)
  | succ q ih =>
    intro m hm
    have hst := ih (m + 1) (by omega)
    refine cm_iload7 (pc := 77) dX5_seek_77 ?_
    refine cm_iload3 (pc := 79) dX5_seek_79 ?_
    refine cm_geN (pc := 80) (tgt := 98) dX5_seek_80 (by decide) (by omega) (by omega) (fun c80 => ?_) (fun c80 => ?_)
    · exact absurd c80 (by omega)
    · refine cm_aload0 (pc := 83) dX5_seek_83 ?_
      refine cm_getR (pc := 84) flX5_12 dX5_seek_84 hX.ot hX.rt0 ?_
      refine cm_iconst (pc := 87) (v := 0) dX5_seek_87 (by decide) ?_
      refine cm_V1 (pc := 88) mX2_passMinute_v mlX5_44 dX5_seek_88 hX.mt.1 (by omega) (Nat.le_of_ble_eq_true rfl) (Nat.le_refl _) (Nat.le_refl _) (k_passMinute (d := d + 3) hX.mt (h0.it m)) (fun r88 h88 hq88 => ?_)
      obtain ⟨rfl, rfl⟩ := hq88
      refine cm_pop (pc := 91) dX5_seek_91 rfl ?_
      refine cm_incN7 (pc := 92) dX5_seek_92 (by decide) rfl ?_
      refine cm_goto (pc := 95) (tgt := 77) dX5_seek_95 (by decide) ?_
      exact hst
def skInv (hi W : cm_g2) (sb : Nat → Bool) (F : Nat → Bool) (k : Nat) : Prop := (∀ c, c < 47 ∨ 59 < c → W c = hi c) ∧ mSt (cm_sf W 48) (cm_sf hi 5) ∧ W 47 2 = nI (skFold sb F k).1 ∧ W 47 3 = (skFold sb F k).2.1 ∧ ∀ i, i < 6 → W 59 i = (skFold sb F k).2.2 i
set_option maxRecDepth 20000 in
set_option maxHeartbeats 1000000 in
theorem l_sk (hX : cm_cls sh hr) {s n : Nat} (h : mOk (cm_sf hi 5) nb ns) (hn : n < 2147483648) (hS : cm_str sh hr s 40) (hs9 : 60 < s) (hz : hi s 1 = nI nb) : ∀ q k : Nat, k + q = tW (sbOf set) 6 → ∀ (F : Nat → Bool) (W : cm_g2), skInv hi W (sbOf set) F k → (∀ w, w < k → skVal (cm_sf hi 5) nb ns n (sbOf set) (hi (s + 1)) w (F w)) → ∀ x7 : Option Value, cm_g D mX5_seek (d + 7) 0 0 (fun r9 h9 => r9 = none ∧ ∃ H F, h9 = (sh, H, hl, hr) ∧ (∀ c, c < 47 ∨ 59 < c → H c = hi c) ∧ (∀ w, w < tW (sbOf set) 6 → skVal (cm_sf hi 5) nb ns n (sbOf set) (hi (s + 1)) w (F w)) ∧ H 47 2 = nI (skFold (sbOf set) F (tW (sbOf set) 6)).1 ∧ H 47 3 = (skFold (sbOf set) F (tW (sbOf set) 6)).2.1 ∧ ∀ i, i < 6 → H 59 i = (skFold (sbOf set) F (tW (sbOf set) 6)).2.2 i) 0 0 52 [some (.ref 47), some (.ref 5), some (.int set), some (.int (nI n)), some (.ref s), some (.int (nI (tW (sbOf set) 6))), some (.int (nI k)), x7] [] (sh, W, hl, hr) := by
  have hnb := h.1.2.1
  have hW6 := tW_le (sb := sbOf set) 6 (by decide)
  have h56 : (5 : Nat) ^ 6 = 15625 := by decide
  rw [h56] at hW6
  intro q
  induction q with
  | zero =>
    intro k hk F W hI hF x7
    have hkW : k = tW (sbOf set) 6 := by omega
    refine cm_iload6 (pc := 52) dX5_seek_52 ?_
    refine cm_iload5 (pc := 54) dX5_seek_54 ?_
    refine cm_geN (pc := 56) (tgt := 150) dX5_seek_56 (by decide) (by omega) (by omega) (fun c56 => ?_) (fun c56 => ?_)
    · rw [hkW] at hI
      exact cm_vret (pc := 150) dX5_seek_150 rfl ⟨rfl, W, F, rfl, hI.1, fun w hw => hF w (by omega), hI.2.2.1, hI.2.2.2.1, hI.2.2.2.2⟩
    · exact absurd c56 (by omega)
  | succ q ih =>
    intro k hk F W hI hF x7
    have hst := ih (k + 1) (by omega)
    refine cm_iload6 (pc := 52) dX5_seek_52 ?_
    refine cm_iload5 (pc := 54) dX5_seek_54 ?_
    refine cm_geN (pc := 56) (tgt := 150) dX5_seek_56 (by decide) (by omega) (by omega) (fun c56 => ?_) (fun c56 => ?_)
    · exact absurd c56 (by omega)
    · refine cm_aload0 (pc := 59) dX5_seek_59 ?_
      refine cm_getR (pc := 60) flX5_12 dX5_seek_60 hX.ot hX.rt0 ?_
      refine cm_aload1 (pc := 63) dX5_seek_63 ?_
      refine cm_V1 (pc := 64) mX2_takeWhatMoves_v mlX5_37 dX5_seek_64 hX.mt.1 (by omega) (Nat.le_of_ble_eq_true rfl) (Nat.le_refl _) (Nat.le_refl _) (k_takeWhatMoves (d := d + 5) hX.mt hX.mp (by omega)) (fun r64 h64 hq64 => ?_)
      obtain ⟨rfl, H64, rfl, t64⟩ := hq64
      have e64 : ∀ c, c ≠ 48 → c ≠ 52 → c ≠ 54 → c ≠ 55 → c ≠ 56 → H64 c = W c := t64.1
      have hM5 : ∀ c, c ≤ 10 → cm_sf W 5 c = cm_sf hi 5 c := fun c hc => hI.1 (5 + c) (Or.inl (by omega))
      have q1 := t64.eq (by
        refine ⟨?_, fun c hc i hi6 => ?_, fun i hi2 => ?_⟩
        · rw [hM5 0 (by decide)]; exact hI.2.1.1
        · rw [hM5 c (by omega)]; exact hI.2.1.2.1 c hc i hi6
        · rw [hM5 10 (by decide)]; exact hI.2.1.2.2 i hi2)
      refine cm_aload0 (pc := 67) dX5_seek_67 ?_
      refine cm_iload2 (pc := 68) dX5_seek_68 ?_
      refine cm_iload6 (pc := 69) dX5_seek_69 ?_
      refine cm_V2 (pc := 71) mX5_giveWants_v mlX5_40 dX5_seek_71 hX.ot (by omega) (Nat.le_of_ble_eq_true rfl) (Nat.le_refl _) (Nat.le_refl _) (k_giveWants (d := d + 5) hX (set := set) (way := k) (by omega)) (fun r71 h71 hq71 => ?_)
      obtain ⟨rfl, H71, rfl, e71, u71⟩ := hq71
      have hsk : skOk (cm_sf H71 48) (cm_sf hi 5) (sbOf set) k := by
        refine ⟨fun j hj => ?_, fun c h1 h9 h7 i hi6 => ?_, ⟨H64 55, fun i hi6 => ?_, u71⟩, fun i hi2 => ?_⟩
        · rw [show cm_sf H71 48 0 = cm_sf H64 48 0 from e71 48 (by decide), q1.1 j hj, hM5 0 (by decide)]
        · rw [show cm_sf H71 48 c = cm_sf H64 48 c from e71 (48 + c) (by omega), q1.2.1 c h1 h9 i hi6, hM5 c (by omega)]
        · have := q1.2.1 7 (by decide) (by decide) i hi6
          rw [hM5 7 (by decide)] at this
          exact this
        · rw [show cm_sf H71 48 10 = cm_sf H64 48 10 from e71 58 (by decide), q1.2.2 i hi2, hM5 10 (by decide)]
      have hok := h.sk hsk
      refine cm_h_eq (show (sh, H71, hl, hr) = (sh, cm_us H71 48 (mIt (cm_sf H71 48) nb ns 0).1, hl, hr) by show _ = (sh, cm_us H71 48 (cm_sf H71 48), hl, hr); rw [cm_us_sf]) ?_
      refine cm_iconst (pc := 74) (v := 0) dX5_seek_74 (by decide) ?_
      refine cm_istore7 (pc := 75) dX5_seek_75 (by decide) rfl ?_
      refine l_skp hX hok hn (fun x7 => ?_) n 0 (by omega)
      refine cm_usG (fun G98 e98 f98 => ?_)
      have hfr : ∀ c, c < 47 ∨ 59 < c → G98 c = hi c := fun c hc => by
        rcases hc with hc | hc
        · rw [e98 c (by omega), e71 c (by omega), e64 c (by omega) (by omega) (by omega) (by omega) (by omega), hI.1 c (Or.inl hc)]
        · have := f98 (c - 48)
          rw [show 48 + (c - 48) = c by omega, mItW_c (by omega)] at this
          rw [this]
          show H71 (48 + (c - 48)) = _
          rw [show 48 + (c - 48) = c by omega, e71 c (by omega), e64 c (by omega) (by omega) (by omega) (by omega) (by omega), hI.1 c (Or.inr hc)]
      have h47 : G98 47 = W 47 := by rw [e98 47 (by decide), e71 47 (by decide), e64 47 (by decide) (by decide) (by decide) (by decide) (by decide)]
      have h59 : G98 59 = W 59 := by
        have := f98 11
        rw [mItW_c (by decide)] at this
        rw [show G98 59 = G98 (48 + 11) from rfl, this]
        show H71 59 = _
        rw [e71 59 (by decide), e64 59 (by decide) (by decide) (by decide) (by decide) (by decide)]
      have hst98 : mSt (cm_sf G98 48) (cm_sf hi 5) := by
        rw [show cm_sf G98 48 = (mIt (cm_sf H71 48) nb ns n).1 from funext f98]
        exact (mItW_st n).trans (mSt.sk hsk)
      have hval : skVal (cm_sf hi 5) nb ns n (sbOf set) (hi (s + 1)) k (tSn (hi (s + 1)) (mIt (cm_sf H71 48) nb ns n).1 nb 0) := ⟨_, hsk, rfl⟩
      have hFv : ∀ bv, skVal (cm_sf hi 5) nb ns n (sbOf set) (hi (s + 1)) k bv → ∀ i, i < k + 1 → skVal (cm_sf hi 5) nb ns n (sbOf set) (hi (s + 1)) i (if i = k then bv else F i) := fun bv hb i hi1 => by
        by_cases e : i = k
        · subst e; rw [if_pos rfl]; exact hb
        · rw [if_neg e]; exact hF i (by omega)
      refine cm_aload0 (pc := 98) dX5_seek_98 ?_
      refine cm_aload4 (pc := 99) dX5_seek_99 ?_
      refine cm_V1 (pc := 101) mX5_isAsSeen_v mlX5_47 dX5_seek_101 hX.ot (by omega) (Nat.le_of_ble_eq_true rfl) (Nat.le_refl _) (Nat.le_refl _) (k_isAsSeen (d := d + 3) hX hS (show G98 s 1 = nI nb by rw [hfr s (Or.inr (by omega))]; exact hz) (show G98 48 3 = nI nb by rw [show G98 48 = G98 (48 + 0) from rfl, f98 0]; exact (hok.it n).1.1) hnb) (fun r101 h101 hq101 => ?_)
      obtain ⟨rfl, rfl⟩ := hq101
      rw [hfr (s + 1) (Or.inr (by omega)), show cm_sf G98 48 = (mIt (cm_sf H71 48) nb ns n).1 from funext f98]
      generalize hbv : tSn (hi (s + 1)) (mIt (cm_sf H71 48) nb ns n).1 nb 0 = bv at *
      refine cm_ifeqB (pc := 104) (tgt := 144) dX5_seek_104 (by decide) (fun c104 => ?_) (fun c104 => ?_)
      · subst c104
        refine cm_incN6 (pc := 144) dX5_seek_144 (by decide) rfl ?_
        refine cm_goto (tgt := 52) (pc := 147) dX5_seek_147 (by decide) ?_
        have hcg : skFold (sbOf set) (fun i => if i = k then false else F i) (k + 1) = skFold (sbOf set) F k := by
          exact (if_neg (show ¬ (if k = k then false else F k) = true by rw [if_pos rfl]; decide)).trans (skFold_congr k (fun i hi => if_neg (by omega)))
        exact hst (fun i => if i = k then false else F i) G98 ⟨hfr, hst98, by rw [hcg, h47]; exact hI.2.2.1, by rw [hcg, h47]; exact hI.2.2.2.1, fun i hi6 => by rw [hcg, h59]; exact hI.2.2.2.2 i hi6⟩ (hFv false hval) _
      · subst c104
        refine cm_aload0 (pc := 107) dX5_seek_107 ?_
        refine cm_aload0 (pc := 108) dX5_seek_108 ?_
        refine cm_getI (pc := 109) flX5_22 dX5_seek_109 hX.ot ?_
        rw [show G98 47 2 = nI (skFold (sbOf set) F k).1 by rw [h47]; exact hI.2.2.1]
        refine cm_if_ne (pc := 112) (tgt := 120) dX5_seek_112 (by decide) (fun c112 => ?_) (fun c112 => ?_)
        · have hfo : ¬ (skFold (sbOf set) F k).1 = 0 := fun w => by rw [w] at c112; exact c112 rfl
          refine cm_aload0 (pc := 120) dX5_seek_120 ?_
          refine cm_getI (pc := 121) flX5_26 dX5_seek_121 hX.ot ?_
          rw [show G98 47 3 = (skFold (sbOf set) F k).2.1 by rw [h47]; exact hI.2.2.2.1]
          refine cm_putI (pc := 124) fpX5_26 dX5_seek_124 hX.ot ?_
          refine cm_memG (fun G124 e124 f124 => ?_)
          refine cm_aload0 (pc := 127) dX5_seek_127 ?_
          refine cm_dup (pc := 128) dX5_seek_128 rfl ?_
          refine cm_getI (pc := 129) flX5_22 dX5_seek_129 hX.ot ?_
          rw [show G124 47 2 = nI (skFold (sbOf set) F k).1 by rw [f124]; simp only [upd]; rw [if_neg (by decide), h47]; exact hI.2.2.1]
          refine cm_iconst (pc := 132) (v := 1) dX5_seek_132 (by decide) ?_
          refine cm_iadd (pc := 133) dX5_seek_133 ?_
          rw [nI_1]
          refine cm_putI (pc := 134) fpX5_22 dX5_seek_134 hX.ot ?_
          refine cm_memG (fun G134 e134 f134 => ?_)
          refine cm_aload0 (pc := 137) dX5_seek_137 ?_
          refine cm_iload2 (pc := 138) dX5_seek_138 ?_
          refine cm_iload6 (pc := 139) dX5_seek_139 ?_
          refine cm_V2 (pc := 141) mX5_noteWants_v mlX5_51 dX5_seek_141 hX.ot (by omega) (Nat.le_of_ble_eq_true rfl) (Nat.le_refl _) (Nat.le_refl _) (k_noteWants (d := d + 5) hX (set := set) (way := k) (by omega)) (fun r141 h141 hq141 => ?_)
          obtain ⟨rfl, H141, rfl, e141, u141⟩ := hq141
          refine cm_incN6 (pc := 144) dX5_seek_144 (by decide) rfl ?_
          refine cm_goto (tgt := 52) (pc := 147) dX5_seek_147 (by decide) ?_
          have hcg : skFold (sbOf set) (fun i => if i = k then true else F i) (k + 1) = ((skFold (sbOf set) F k).1 + 1, (if (skFold (sbOf set) F k).1 = 0 then nI k else (skFold (sbOf set) F k).2.1), tNv (sbOf set) 6 k (skFold (sbOf set) F k).2.2) := by
            show (if (fun i => if i = k then true else F i) k then ((skFold (sbOf set) (fun i => if i = k then true else F i) k).1 + 1, (if (skFold (sbOf set) (fun i => if i = k then true else F i) k).1 = 0 then nI k else (skFold (sbOf set) (fun i => if i = k then true else F i) k).2.1), tNv (sbOf set) 6 k (skFold (sbOf set) (fun i => if i = k then true else F i) k).2.2) else skFold (sbOf set) (fun i => if i = k then true else F i) k) = _
            rw [if_pos (show (fun i => if i = k then true else F i) k = true from if_pos rfl), skFold_congr (F := (fun i => if i = k then true else F i)) (F' := F) k (fun i hi => if_neg (by omega))]
          refine hst (fun i => if i = k then true else F i) H141 ⟨fun c hc => by rw [e141 c (by omega), e134 c (by omega), e124 c (by omega)]; exact hfr c hc, ⟨by rw [show cm_sf H141 48 0 = cm_sf G98 48 0 by show H141 48 = G98 48; rw [e141 _ (by decide), e134 _ (by decide), e124 _ (by decide)]]; exact hst98.1, fun c hc i hi6 => by rw [show cm_sf H141 48 c = cm_sf G98 48 c by show H141 (48 + c) = G98 (48 + c); rw [e141 _ (by omega), e134 _ (by omega), e124 _ (by omega)]]; exact hst98.2.1 c hc i hi6, fun i hi2 => by rw [show cm_sf H141 48 10 = cm_sf G98 48 10 by show H141 58 = G98 58; rw [e141 _ (by decide), e134 _ (by decide), e124 _ (by decide)]]; exact hst98.2.2 i hi2⟩, ?_, ?_, fun i hi6 => ?_⟩ (hFv true hval) _
          · rw [hcg, e141 47 (by decide), f134]
            exact if_pos rfl
          · rw [hcg, e141 47 (by decide), f134]
            simp only [upd]
            rw [if_neg (by decide), f124]
            simp only [upd, if_true]
            first | rw [if_pos hfo] | rw [if_neg hfo]
          · rw [hcg, u141]
            refine tNv_congr 6 k _ _ (fun j hj => ?_) (Nat.le_refl _) i hi6
            rw [e134 59 (by decide), e124 59 (by decide), h59]
            exact hI.2.2.2.2 j hj
        · have hfo : (skFold (sbOf set) F k).1 = 0 := by
            rcases Nat.eq_zero_or_pos (skFold (sbOf set) F k).1 with w | w
            · exact w
            · exact absurd c112 (nI_ne0 w (by have := skFold_le (sb := sbOf set) (F := F) k; omega))
          refine cm_iload6 (pc := 115) dX5_seek_115 ?_
          refine cm_goto (pc := 117) (tgt := 124) dX5_seek_117 (by decide) ?_
          refine cm_putI (pc := 124) fpX5_26 dX5_seek_124 hX.ot ?_
          refine cm_memG (fun G124 e124 f124 => ?_)
          refine cm_aload0 (pc := 127) dX5_seek_127 ?_
          refine cm_dup (pc := 128) dX5_seek_128 rfl ?_
          refine cm_getI (pc := 129) flX5_22 dX5_seek_129 hX.ot ?_
          rw [show G124 47 2 = nI (skFold (sbOf set) F k).1 by rw [f124]; simp only [upd]; rw [if_neg (by decide), h47]; exact hI.2.2.1]
          refine cm_iconst (pc := 132) (v := 1) dX5_seek_132 (by decide) ?_
          refine cm_iadd (pc := 133) dX5_seek_133 ?_
          rw [nI_1]
          refine cm_putI (pc := 134) fpX5_22 dX5_seek_134 hX.ot ?_
          refine cm_memG (fun G134 e134 f134 => ?_)
          refine cm_aload0 (pc := 137) dX5_seek_137 ?_
          refine cm_iload2 (pc := 138) dX5_seek_138 ?_
          refine cm_iload6 (pc := 139) dX5_seek_139 ?_
          refine cm_V2 (pc := 141) mX5_noteWants_v mlX5_51 dX5_seek_141 hX.ot (by omega) (Nat.le_of_ble_eq_true rfl) (Nat.le_refl _) (Nat.le_refl _) (k_noteWants (d := d + 5) hX (set := set) (way := k) (by omega)) (fun r141 h141 hq141 => ?_)
          obtain ⟨rfl, H141, rfl, e141, u141⟩ := hq141
          refine cm_incN6 (pc := 144) dX5_seek_144 (by decide) rfl ?_
          refine cm_goto (tgt := 52) (pc := 147) dX5_seek_147 (by decide) ?_
          have hcg : skFold (sbOf set) (fun i => if i = k then true else F i) (k + 1) = ((skFold (sbOf set) F k).1 + 1, (if (skFold (sbOf set) F k).1 = 0 then nI k else (skFold (sbOf set) F k).2.1), tNv (sbOf set) 6 k (skFold (sbOf set) F k).2.2) := by
            show (if (fun i => if i = k then true else F i) k then ((skFold (sbOf set) (fun i => if i = k then true else F i) k).1 + 1, (if (skFold (sbOf set) (fun i => if i = k then true else F i) k).1 = 0 then nI k else (skFold (sbOf set) (fun i => if i = k then true else F i) k).2.1), tNv (sbOf set) 6 k (skFold (sbOf set) (fun i => if i = k then true else F i) k).2.2) else skFold (sbOf set) (fun i => if i = k then true else F i) k) = _
            rw [if_pos (show (fun i => if i = k then true else F i) k = true from if_pos rfl), skFold_congr (F := (fun i => if i = k then true else F i)) (F' := F) k (fun i hi => if_neg (by omega))]
          refine hst (fun i => if i = k then true else F i) H141 ⟨fun c hc => by rw [e141 c (by omega), e134 c (by omega), e124 c (by omega)]; exact hfr c hc, ⟨by rw [show cm_sf H141 48 0 = cm_sf G98 48 0 by show H141 48 = G98 48; rw [e141 _ (by decide), e134 _ (by decide), e124 _ (by decide)]]; exact hst98.1, fun c hc i hi6 => by rw [show cm_sf H141 48 c = cm_sf G98 48 c by show H141 (48 + c) = G98 (48 + c); rw [e141 _ (by omega), e134 _ (by omega), e124 _ (by omega)]]; exact hst98.2.1 c hc i hi6, fun i hi2 => by rw [show cm_sf H141 48 10 = cm_sf G98 48 10 by show H141 58 = G98 58; rw [e141 _ (by decide), e134 _ (by decide), e124 _ (by decide)]]; exact hst98.2.2 i hi2⟩, ?_, ?_, fun i hi6 => ?_⟩ (hFv true hval) _
          · rw [hcg, e141 47 (by decide), f134]
            exact if_pos rfl
          · rw [hcg, e141 47 (by decide), f134]
            simp only [upd]
            rw [if_neg (by decide), f124]
            simp only [upd, if_true]
            first | rw [if_pos hfo] | rw [if_neg hfo]
          · rw [hcg, u141]
            refine tNv_congr 6 k _ _ (fun j hj => ?_) (Nat.le_refl _) i hi6
            rw [e134 59 (by decide), e124 59 (by decide), h59]
            exact hI.2.2.2.2 j hj
set_option maxRecDepth 20000 in
theorem l_sz (hX : cm_cls sh hr) {s n : Nat} (h : mOk (cm_sf hi 5) nb ns) (hn : n < 2147483648) (hS : cm_str sh hr s 40) (hs9 : 60 < s) (hz : hi s 1 = nI nb) : ∀ q k : Nat, k + q = 6 → ∀ W : cm_g2, ((∀ c, c < 47 ∨ 59 < c → W c = hi c) ∧ W 47 2 = 0 ∧ W 47 3 = -9 ∧ ∀ i, i < k → W 59 i = 0) → ∀ x6 x7 : Option Value, cm_g D mX5_seek (d + 7) 0 0 (fun r9 h9 => r9 = none ∧ ∃ H F, h9 = (sh, H, hl, hr) ∧ (∀ c, c < 47 ∨ 59 < c → H c = hi c) ∧ (∀ w, w < tW (sbOf set) 6 → skVal (cm_sf hi 5) nb ns n (sbOf set) (hi (s + 1)) w (F w)) ∧ H 47 2 = nI (skFold (sbOf set) F (tW (sbOf set) 6)).1 ∧ H 47 3 = (skFold (sbOf set) F (tW (sbOf set) 6)).2.1 ∧ ∀ i, i < 6 → H 59 i = (skFold (sbOf set) F (tW (sbOf set) 6)).2.2 i) 0 0 14 [some (.ref 47), some (.ref 5), some (.int set), some (.int (nI n)), some (.ref s), some (.int (nI k)), x6, x7] [] (sh, W, hl, hr) := by
  intro q
  induction q with
  | zero =>
    intro k hk W hW x6 x7
    have h1 : k = 6 := by omega
    subst h1
    refine cm_iload5 (pc := 14) dX5_seek_14 ?_
    refine cm_bipush (pc := 16) (v := 6) dX5_seek_16 (by decide) ?_
    refine cm_icmp_ge (pc := 18) (tgt := 35) dX5_seek_18 (by decide) (fun c18 => ?_) (fun q => absurd (by decide) q)
    refine cm_aload0 (pc := 35) dX5_seek_35 ?_
    refine cm_getR (pc := 36) flX5_12 dX5_seek_36 hX.ot hX.rt0 ?_
    refine cm_aload1 (pc := 39) dX5_seek_39 ?_
    refine cm_V1 (pc := 40) mX2_take_v mlX5_29 dX5_seek_40 hX.mt.1 (by omega) (Nat.le_of_ble_eq_true rfl) (Nat.le_refl _) (Nat.le_refl _) (k_take hX.mt hX.mp (by omega) (d := d + 5)) (fun r40 h40 hq40 => ?_)
    obtain ⟨rfl, H40, rfl, t40⟩ := hq40
    refine cm_iload2 (pc := 43) dX5_seek_43 ?_
    refine cm_S1 (pc := 44) mX5_howManyWays_s mlX5_33 dX5_seek_44 (by omega) (Nat.le_of_ble_eq_true rfl) (Nat.le_refl _) (Nat.le_refl _) (k_howManyWays (d := d + 5)) (fun r44 h44 hq44 => ?_)
    obtain ⟨rfl, rfl⟩ := hq44
    refine cm_istore5 (pc := 47) dX5_seek_47 (by decide) rfl ?_
    refine cm_iconst (pc := 49) (v := 0) dX5_seek_49 (by decide) ?_
    refine cm_istore6 (pc := 50) dX5_seek_50 (by decide) rfl ?_
    have hM5 : ∀ c, c ≤ 10 → cm_sf W 5 c = cm_sf hi 5 c := fun c hc => hW.1 (5 + c) (Or.inl (by omega))
    have hs := t40.eq.st
    refine l_sk hX h hn hS hs9 hz _ 0 (Nat.zero_add _) (fun _ => false) H40 ⟨fun c hc => by
      rw [t40.1 c (by omega)]
      exact hW.1 c hc, ⟨by rw [← hM5 0 (by decide)]; exact hs.1, fun c hc i hi6 => by rw [← hM5 c (by omega)]; exact hs.2.1 c hc i hi6, fun i hi2 => by rw [← hM5 10 (by decide)]; exact hs.2.2 i hi2⟩, by rw [t40.1 47 (by decide)]; exact hW.2.1, by rw [t40.1 47 (by decide)]; exact hW.2.2.1, fun i hi6 => by rw [t40.1 59 (by decide)]; exact hW.2.2.2 i hi6⟩ (fun w hw => absurd hw (Nat.not_lt_zero _)) _
  | succ q ih =>
    intro k hk W hW x6 x7
    have hst := ih (k + 1) (by omega)
    refine cm_iload5 (pc := 14) dX5_seek_14 ?_
    refine cm_bipush (pc := 16) (v := 6) dX5_seek_16 (by decide) ?_
    refine cm_icmp_ge (pc := 18) (tgt := 35) dX5_seek_18 (by decide) (fun q => absurd q (nI_ge (a := k) (b := 6) (by omega) (by omega))) (fun c18 => ?_)
    refine cm_aload0 (pc := 21) dX5_seek_21 ?_
    refine cm_getR (pc := 22) flX5_18 dX5_seek_22 hX.ot hX.rt1 ?_
    refine cm_iload5 (pc := 25) dX5_seek_25 ?_
    refine cm_iconst (pc := 27) (v := 0) dX5_seek_27 (by decide) ?_
    refine cm_iasN (pc := 28) dX5_seek_28 hX.a59 (by omega) (by decide) ?_
    refine cm_memG (fun G28 e28 f28 => ?_)
    refine cm_incN5 (pc := 29) dX5_seek_29 (by decide) rfl ?_
    refine cm_goto (pc := 32) (tgt := 14) dX5_seek_32 (by decide) ?_
    refine hst G28 ⟨fun c hc => by rw [e28 c (by omega)]; exact hW.1 c hc, by rw [e28 47 (by decide)]; exact hW.2.1, by rw [e28 47 (by decide)]; exact hW.2.2.1, fun i hi => ?_⟩ _ _
    rw [f28]
    unfold upd
    by_cases e : i = k
    · subst e; rw [if_pos rfl]
    · rw [if_neg e]; exact hW.2.2.2 i (by omega)
set_option maxRecDepth 20000 in
theorem k_seek (hX : cm_cls sh hr) {s n : Nat} (h : mOk (cm_sf hi 5) nb ns) (hn : n < 2147483648) (hS : cm_str sh hr s 40) (hs9 : 60 < s) (hz : hi s 1 = nI nb) : cm_ct D mX5_seek (d + 7) 0 0 [.ref 47, .ref 5, .int set, .int (nI n), .ref s] (sh, hi, hl, hr) (fun r9 h9 => r9 = none ∧ ∃ H F, h9 = (sh, H, hl, hr) ∧ (∀ c, c < 47 ∨ 59 < c → H c = hi c) ∧ (∀ w, w < tW (sbOf set) 6 → skVal (cm_sf hi 5) nb ns n (sbOf set) (hi (s + 1)) w (F w)) ∧ H 47 2 = nI (skFold (sbOf set) F (tW (sbOf set) 6)).1 ∧ H 47 3 = (skFold (sbOf set) F (tW (sbOf set) 6)).2.1 ∧ ∀ i, i < 6 → H 59 i = (skFold (sbOf set) F (tW (sbOf set) 6)).2.2 i) := by
  refine cm_ct_of (ls := [some (.ref 47), some (.ref 5), some (.int set), some (.int (nI n)), some (.ref s), none, none, none]) 3 (by decide +kernel) rfl rfl ?_
  refine cm_aload0 (pc := 0) dX5_seek_0 ?_
  refine cm_iconst (pc := 1) (v := 0) dX5_seek_1 (by decide) ?_
  refine cm_putI (pc := 2) fpX5_22 dX5_seek_2 hX.ot ?_
  refine cm_memG (fun G2 e2 f2 => ?_)
  refine cm_aload0 (pc := 5) dX5_seek_5 ?_
  refine cm_bipush (pc := 6) (v := -9) dX5_seek_6 (by decide) ?_
  refine cm_putI (pc := 8) fpX5_26 dX5_seek_8 hX.ot ?_
  refine cm_memG (fun G8 e8 f8 => ?_)
  refine cm_iconst (pc := 11) (v := 0) dX5_seek_11 (by decide) ?_
  refine cm_istore5 (pc := 12) dX5_seek_12 (by decide) rfl ?_
  refine l_sz hX h hn hS hs9 hz 6 0 (by omega) G8 ⟨fun c hc => by rw [e8 c (by omega), e2 c (by omega)], ?_, ?_, fun i hi => absurd hi (Nat.not_lt_zero _)⟩ _ _
  · rw [f8]; simp only [upd]; rw [if_neg (by decide), f2]; exact if_pos rfl
  · rw [f8]; exact if_pos rfl
end TR
