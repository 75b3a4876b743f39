/-! PART opsearch: best, fits, could: both sides -/
theorem perms_same : ∀ nb, nb ≤ 6 → 0 < nb → cIter nb 720 (List.range nb) = uLv nb nb [] (2 ^ nb - 1) := by decide +kernel
theorem boFold_same {V V' : List Nat → Int32 → Prop} (hV : ∀ o v v', V o v → V' o v' → v = v') : ∀ (L : List (List Nat)) (m : Int32) (b c : List Nat) (m1 : Int32) (b1 : List Nat) (m2 : Int32) (b2 : List Nat), boFold V L m b m1 b1 → boFold V' L m c m2 b2 → m1 = m2 ∧ (b1 = b2 ∨ (m1 = m ∧ b1 = b ∧ b2 = c))
  | [], m, b, c, m1, b1, m2, b2, h1, h2 => by
    obtain ⟨rfl, rfl⟩ := h1
    obtain ⟨rfl, rfl⟩ := h2
    exact ⟨rfl, Or.inr ⟨rfl, rfl, rfl⟩⟩
  | o :: L, m, b, c, m1, b1, m2, b2, h1, h2 => by
    obtain ⟨v, hv, h1⟩ := h1
    obtain ⟨v', hv', h2⟩ := h2
    have e := hV o v v' hv hv'
    subst e
    by_cases q : m < v
    · rw [if_pos q] at h1 h2
      obtain ⟨a, w⟩ := boFold_same hV L v o o m1 b1 m2 b2 h1 h2
      exact ⟨a, Or.inl (w.elim id (fun w => w.2.1.trans w.2.2.symm))⟩
    · rw [if_neg q] at h1 h2
      exact boFold_same hV L m b c m1 b1 m2 b2 h1 h2
/-- wants given anew -/
theorem mR.wants {P u g W : cm_g2} {nb ns B : Nat} {f : Nat → Int32} (h : mR P u nb ns B) (g0 : ∀ j, j < 4 → g 0 j = P 0 j) (gc : ∀ c, 1 ≤ c → c ≤ 9 → c ≠ 7 → ∀ i, i < 6 → g c i = P c i) (gt : ∀ i, i < 200 → g 10 i = P 10 i) (ew : uEqN u W nb) (g7 : ∀ i, i < nb → g 7 i = f i) (w9 : ∀ i, i < nb → W 9 i = f i) (fi : ∀ i, i < nb → 0 ≤ (f i).toInt ∧ (f i).toInt < 5) : mR g W nb ns B := by
  have hnb := h.1.1.2.1
  have hns := h.1.1.2.2.2
  refine h.mv ⟨⟨g0 0 (by decide), g0 2 (by decide), g0 3 (by decide)⟩, fun c hc => gc c (by omega) (by omega) (by omega), gt⟩ (fun j hj => ew.1 j (by omega)) (fun c hc i hi => ew.2.2.1 c (by omega) (by omega) (by omega) i hi) ?_ (fun i hi => ⟨⟨?_, ?_, ?_⟩, ?_, ?_⟩) (fun k hk => ?_) (fun i hi => ?_)
  · rw [ew.1 19 (by decide), g0 1 (by decide)]; exact h.2.2.2.1
  · rw [ew.2.2.1 8 (by decide) (by decide) (by decide) i (by omega), gc 6 (by decide) (by decide) (by decide) i (by omega)]; exact (h.2.2.2.2.1 i hi).2.1
  · rw [w9 i hi, g7 i hi]
  · rw [ew.2.2.1 10 (by decide) (by decide) (by decide) i (by omega), gc 8 (by decide) (by decide) (by decide) i (by omega)]; exact (h.2.2.2.2.1 i hi).2.2.2
  · rw [gc 6 (by decide) (by decide) (by decide) i (by omega)]; exact h.1.2.1 i hi
  · rw [g7 i hi]; exact fi i hi
  · rw [ew.2.2.1 14 (by decide) (by decide) (by decide) k (by omega), gc 4 (by decide) (by decide) (by decide) k (by omega)]; exact (h.2.2.2.2.2.1 k hk).2.2.2
  · rw [gc 6 (by decide) (by decide) (by decide) i (by omega), gc 6 (by decide) (by decide) (by decide) (i + 1) (by omega)]; exact h.1.2.2.2.1 i hi
theorem tSn_iff {f : Nat → Int32} {G : cm_g2} : ∀ q k, tSn f G q k = true ↔ ∀ i, k ≤ i → i < k + q → (f i = -9 ∨ f i = G 6 i)
  | 0, k => ⟨fun _ i h1 h2 => absurd h2 (by omega), fun _ => rfl⟩
  | q + 1, k => by
    unfold tSn
    by_cases w : f k = -9 ∨ f k = G 6 k
    · rw [if_pos w, tSn_iff q (k + 1)]
      constructor
      · intro a i h1 h2
        by_cases e : i = k
        · rw [e]; exact w
        · exact a i (by omega) (by omega)
      · intro a i h1 h2
        exact a i (by omega) (by omega)
    · rw [if_neg w]
      exact ⟨fun a => (by cases a), fun a => absurd (a k (Nat.le_refl _) (by omega)) w⟩
theorem uTk_iff {f : Nat → Int32} {V : cm_g2} : ∀ k, uTk f V k = true ↔ ∀ i, i < k → (f i = -9 ∨ f i = V 8 i)
  | 0 => ⟨fun _ i h => absurd h (Nat.not_lt_zero _), fun _ => rfl⟩
  | k + 1 => by
    unfold uTk
    rw [Bool.and_eq_true, uTk_iff k, Bool.or_eq_true, decide_eq_true_eq, decide_eq_true_eq]
    constructor
    · rintro ⟨a, b⟩ i hi
      by_cases e : i = k
      · rw [e]; exact b
      · exact a i (by omega)
    · intro a
      exact ⟨fun i hi => a i (by omega), a k (by omega)⟩
theorem tW_app {sb : Nat → Bool} : ∀ q i, tW sb (i + q) = tW sb i * uWt sb q i
  | 0, i => (Nat.mul_one _).symm
  | q + 1, i => by
    rw [show i + (q + 1) = i + 1 + q by omega, tW_app q (i + 1)]
    show tW sb i * (if sb i then 5 else 1) * _ = tW sb i * ((if sb i then 5 else 1) * _)
    rw [Nat.mul_assoc]
theorem tW_cut {sb : Nat → Bool} {nb : Nat} (h : ∀ j, nb ≤ j → j < 6 → sb j = false) : ∀ t, nb + t ≤ 6 → tW sb (nb + t) = tW sb nb
  | 0, _ => rfl
  | t + 1, ht => by
    show tW sb (nb + t) * (if sb (nb + t) then 5 else 1) = _
    rw [h (nb + t) (by omega) (by omega), if_neg (by decide), Nat.mul_one, tW_cut h t (by omega)]
theorem sb_same (set : Int32) : sbOf set = sbU set := by
  funext i
  show isI set (nI i) = uHas set (nI i)
  unfold isI uHas
  have b := bit_z set i
  generalize (set >>> (nI i &&& 31)) &&& 1 = y at b
  have z0 : (0 : Int32).toInt = 0 := by decide
  have z1 : (1 : Int32).toInt = 1 := by decide
  by_cases q : y = 0
  · subst q; decide
  · have : y = 1 := Int32.toInt_inj.mp (by
      have : ¬ y.toInt = 0 := fun w => q (Int32.toInt_inj.mp (by rw [w, z0]))
      rw [z1]
      omega)
    subst this
    decide
theorem bitC_sz : ∀ s, s < 64 → bitC (nI s) = uSz (nI s) 10 := by decide +kernel
section OP6
variable {hi u H v : cm_g2} {nb ns : Nat} {r9 r9' : Option Value}
theorem best_val {n : Nat} {o : List Nat} {x y : Int32} (R : RR hi u nb ns) (hn : n ≤ 20) (a : boVal (cP hi) nb ns n o x) (b : uOv u nb ns n o y) : x = y := by
  obtain ⟨ho, g, bg, rfl⟩ := a
  obtain ⟨-, W, wl, rfl⟩ := b
  have M : mR g W nb ns 60 := R.m.wants (f := fun i => cP hi 7 (oG o i)) bg.1 bg.2.1 bg.2.2.2 wl.1 bg.2.2.1 (fun i hi9 => by rw [wl.2 i hi9]; exact (R.b (ho i hi9)).2.2.1) (fun i hi9 => R.mo.2.2.1 _ (ho i hi9))
  have h64 := p2_64 R.mo.1.2.1
  obtain ⟨-, ⟨s, hs, s1, s2, -⟩, -⟩ := la_same (M.cg mEq.refl uPA_uEq) n (by omega)
  rw [uCB_0 (by decide), s1, (uSz_pc s (by omega)).1, s2]
theorem op_best {n r : Int32} (R : RR hi u nb ns) (hc : if isU n 20 = false ∨ isW r 6 = false then r9 = some (.int (-1)) ∧ H = hi else if hi 5 3 = 0 then r9 = some (.int (-4)) ∧ H = hi else ∃ m9 b9, (∀ c, c < 33 ∨ 45 < c → c ≠ sR r → c ≠ sR r + 1 → H c = hi c) ∧ boFold (boVal (cP hi) nb ns n.toNatClampNeg) (cIter nb 720 (List.range nb)) (-1) (List.replicate nb 0) m9 b9 ∧ r9 = some (.int m9) ∧ H (sR r) 1 = nI nb ∧ ∀ x, x < nb → H (sR r + 1) x = nI (oG b9 x)) (hu : uBest u nb ns n r r9' v) : opR r9 r9' H v := by
  obtain ⟨b1, b2, b3, -⟩ := R.ns0
  unfold uBest at hu
  rw [show isU n 20 = uIn n 0 20 from rfl, wU5, b1] at hc
  rw [b2] at hu
  by_cases h1 : uIn n 0 20 = false ∨ uIn r 0 5 = false
  · rw [if_pos h1] at hc hu
    obtain ⟨rfl, rfl⟩ := hc
    obtain ⟨rfl, rfl⟩ := hu
    exact ⟨_, rfl, rfl, nb, ns, R⟩
  · rw [if_neg h1] at hc hu
    by_cases h2 : nI nb = 0
    · rw [if_pos h2] at hc hu
      obtain ⟨rfl, rfl⟩ := hc
      obtain ⟨rfl, rfl⟩ := hu
      exact ⟨_, rfl, rfl, nb, ns, R⟩
    · rw [if_neg h2] at hc hu
      have h0 : 0 < nb := Nat.pos_of_ne_zero (fun w => h2 (by rw [w]; rfl))
      obtain ⟨k, hk, rfl, hkc⟩ := n_ex (m := 20) (by omega) (tru (fun w => h1 (Or.inl w)))
      obtain ⟨j, hj, rfl, hjc⟩ := n_ex (m := 5) (by omega) (tru (fun w => h1 (Or.inr w)))
      simp only [sR, hjc, hkc] at hc hu
      obtain ⟨m9, b9, F, f1, rfl, z, p⟩ := hc
      obtain ⟨m8, b8, f2, rfl, ev⟩ := hu
      rw [perms_same nb b3 h0] at f1
      obtain ⟨rfl, eb⟩ := boFold_same (V := boVal (cP hi) nb ns k) (V' := uOv u nb ns k) (fun o x y a b => best_val R hk a b) _ _ _ _ _ _ _ _ f1 f2
      have hne := boFold_pos (uLv_ne nb b3) f2
      have eb9 : b9 = b8 := eb.elim id (fun w => absurd w.1 hne)
      subst eb9
      refine ⟨_, rfl, rfl, nb, ns, R.rowed (j := j) (x := 0) (f := fun x => nI (oG b9 x)) (by omega) (fun c h1 h2 h3 hc => F c (by omega) h2 h3) z p ev (fun _ _ => rfl) (fun _ _ _ => rfl) ⟨?_, ?_, fun f hf => ?_⟩⟩
      · rw [F 2 (by omega) (by omega) (by omega), ev.1 0 (by decide), uPR_c (by decide)]; exact R.2.1.1
      · rw [F 2 (by omega) (by omega) (by omega), ev.1 2 (by decide), uPR_c (by decide)]; exact R.2.1.2.1
      · rw [F 60 (by omega) (by omega) (by omega), ev.2.1 1 (by decide), uPR_c (by decide)]; exact R.2.1.2.2 f hf
theorem set_w {set : Int32} (hnb : nb ≤ 6) : isW set (nI (2 ^ nb)) = uIn set 0 (nI (2 ^ nb - 1)) := by
  have h64 := p2_64 hnb
  have := wU (v := set) (n := 2 ^ nb - 1) (by omega)
  rw [show 2 ^ nb - 1 + 1 = 2 ^ nb by omega] at this
  exact this
theorem wU19 {x : Int32} : isW x 20 = uIn x 0 19 := wU (n := 19) (by decide)
theorem unl_same {s r : Nat} {p : Nat → Int32} : ∀ q k, (∀ i, k ≤ i → i < k + q → hi (s + 1) i = u 3 (40 * r + i)) → cUnl hi s q k = uUnl u r q k
  | 0, _, _ => rfl
  | q + 1, k, h => by
    unfold cUnl uUnl
    rw [unl_same (p := p) q (k + 1) (fun i h1 h2 => h i (by omega) (by omega)), h k (Nat.le_refl _) (by omega), wU19]
/-- what bars a track: both sides -/
theorem kt_same {set n r : Int32} (R : RR hi u nb ns) (h1 : uIn set 0 (nI (2 ^ nb - 1)) = true) (h2 : uIn n 0 20 = true) (h3 : uIn r 0 5 = true) : (0 ≤ (uKT u nb set n r).1 → (cRT hi nb set (sR r)).1 = 0 ∧ hi (sR r) 1 = nI nb ∧ ∃ j, j < 6 ∧ r = nI j ∧ ∀ i, i < nb → hi (61 + 2 * j + 1) i = u 3 (40 * j + i)) ∧ (¬ 0 ≤ (uKT u nb set n r).1 → ¬ (cRT hi nb set (sR r)).1 = 0 ∧ (cRT hi nb set (sR r)).1 = (uKT u nb set n r).1 ∧ RR (cRT hi nb set (sR r)).2 (uKT u nb set n r).2 nb ns ∧ ∀ c, 114 ≤ c → (cRT hi nb set (sR r)).2 c = hi c) := by
  obtain ⟨b1, b2, b3, -⟩ := R.ns0
  obtain ⟨j, hj, rfl, hjc⟩ := n_ex (m := 5) (by omega) h3
  have h64 := p2_64 b3
  have hs := uIn_zz.mp h1
  have z0 : (0 : Int32).toInt = 0 := by decide
  rw [z0, nI_toInt (by omega)] at hs
  have es : set = nI set.toInt.toNat := z_of hs.1
  have ec : bitC set = uSz set 10 := by rw [es]; exact bitC_sz _ (by omega)
  have n13 : ¬ (0 : Int32) ≤ -3 := by decide
  have n14 : ¬ (0 : Int32) ≤ -4 := by decide
  have n16 : ¬ (0 : Int32) ≤ -6 := by decide
  unfold uKT cRT
  simp only [sR, hjc]
  rw [if_neg (fun w => by rcases w with w | w | w <;> first | (rw [h1] at w; cases w) | (rw [h2] at w; cases w) | (rw [h3] at w; cases w)), b1, b2, ec]
  by_cases c1 : nI nb = 0
  · rw [if_pos c1, if_pos c1]
    exact ⟨fun w => absurd w n14, fun _ => ⟨by show ¬ (-4 : Int32) = 0; decide, rfl, R, fun _ _ => rfl⟩⟩
  · rw [if_neg c1, if_neg c1]
    by_cases c2 : uSz set 10 ≤ 5
    · rw [if_pos c2, if_pos c2]
      rcases R.1.1 j (by omega) with ⟨w1, w2⟩ | ⟨m, hm, w1, w2, w3⟩
      · rw [uAR_ms (by omega) w2, if_neg n13, if_pos w1]
        exact ⟨fun w => absurd w n13, fun _ => ⟨by show ¬ (-3 : Int32) = 0; decide, rfl, R.ref, fun c hc => kRef_c (by omega)⟩⟩
      · rw [uAR_ok (by omega) hm w2, if_pos (show (0 : Int32) ≤ 0 by decide), w1, w2, if_neg (nI_ne1 (by omega))]
        by_cases c3 : nI m = nI nb
        · have em : m = nb := (nI_eq (by omega) (by omega)).mp c3
          subst em
          rw [if_pos rfl, if_pos rfl, unl_same (r := j) (p := fun _ => 0) m 0 (fun i h1 h2 => w3 i (by omega))]
          cases hq : uUnl u j m 0 with
          | true =>
            rw [if_pos rfl, if_pos rfl]
            exact ⟨fun w => absurd w n13, fun _ => ⟨by show ¬ (-3 : Int32) = 0; decide, rfl, R.ref, fun c hc => kRef_c (by omega)⟩⟩
          | false =>
            rw [if_neg (by decide), if_neg (by decide)]
            exact ⟨fun _ => ⟨rfl, rfl, j, by omega, rfl, w3⟩, fun w => absurd (show (0 : Int32) ≤ 0 by decide) w⟩
        · rw [if_neg c3, if_neg c3]
          exact ⟨fun w => absurd w n13, fun _ => ⟨by show ¬ (-3 : Int32) = 0; decide, rfl, R.ref, fun c hc => kRef_c (by omega)⟩⟩
    · rw [if_neg c2, if_neg c2]
      exact ⟨fun w => absurd w n16, fun _ => ⟨by show ¬ (-6 : Int32) = 0; decide, rfl, R, fun _ _ => rfl⟩⟩
theorem fit_val {n j w : Nat} {sb : Nat → Bool} {f : Nat → Int32} {x y : Bool} (R : RR hi u nb ns) (hn : n ≤ 20) (hsb : ∀ j, nb ≤ j → j < 6 → sb j = false) (hf : ∀ i, i < nb → f i = u 3 (40 * j + i)) (a : skVal (cP hi) nb ns n sb f w x) (b : uFv u nb ns n sb j w y) : x = y := by
  obtain ⟨g, ⟨g0, gc, ⟨f0, hf0, g7⟩, gt⟩, rfl⟩ := a
  obtain ⟨W, wn, w9, rfl⟩ := b
  have hnb := R.mo.1.2.1
  have e6 : tGv sb 6 w = tGv sb nb w := by
    funext f1
    have := tGv_cut (w := w) (f := f1) hsb (6 - nb) (by omega)
    rw [show nb + (6 - nb) = 6 by omega] at this
    exact this
  have M : mR g W nb ns 60 := R.m.wants (f := fun i => tGv sb nb w (u 9) i) g0 gc gt wn (fun i hi9 => by
    rw [g7, e6]
    exact tGv_at nb w f0 (u 9) i (by rw [hf0 i (by omega)]; exact (R.b hi9).2.2.1.symm)) w9 (fun i hi9 => tGv_in nb w (u 9) i (by rw [(R.b hi9).2.2.1]; exact R.mo.2.2.1 i hi9))
  have M2 := (M.cg mEq.refl uPA_uEq).itw (w := fun _ => 0) (lk := -9) (fun _ => z01) n (by omega)
  rw [Bool.eq_iff_iff, tSn_iff, uTk_iff]
  constructor
  · intro q i hi9
    rw [← hf i hi9, (M2.2.2.2.2.1 i hi9).2.1]
    exact q i (by omega) (by omega)
  · intro q i h1 h2
    have := q i (by omega)
    rw [← hf i (by omega), (M2.2.2.2.2.1 i (by omega)).2.1] at this
    exact this
theorem fit_fold {n j : Nat} {set : Int32} {f : Nat → Int32} {F F' : Nat → Bool} (R : RR hi u nb ns) (hn : n ≤ 20) (hs : uIn set 0 (nI (2 ^ nb - 1)) = true) (hf : ∀ i, i < nb → f i = u 3 (40 * j + i)) (a : ∀ w, w < tW (sbOf set) 6 → skVal (cP hi) nb ns n (sbOf set) f w (F w)) (b : ∀ w, w < uWt (sbU set) nb 0 → uFv u nb ns n (sbU set) j w (F' w)) : skFold (sbOf set) F (tW (sbOf set) 6) = skFold (sbU set) F' (uWt (sbU set) nb 0) := by
  have hnb := R.mo.1.2.1
  have h64 := p2_64 hnb
  have hz := uIn_zz.mp hs
  have z0 : (0 : Int32).toInt = 0 := by decide
  rw [z0, nI_toInt (by omega)] at hz
  have es : set = nI set.toInt.toNat := z_of hz.1
  have hsb := sbU_cut (nb := nb) (s := set.toInt.toNat) hnb (by omega)
  rw [← es] at hsb
  rw [sb_same] at a ⊢
  have e1 : tW (sbU set) 6 = uWt (sbU set) nb 0 := by
    have c1 := tW_cut hsb (6 - nb) (by omega)
    have c2 := tW_app (sb := sbU set) nb 0
    rw [show nb + (6 - nb) = 6 by omega] at c1
    rw [Nat.zero_add] at c2
    rw [c1, c2]
    exact Nat.one_mul _
  rw [e1] at a ⊢
  exact skFold_congr _ (fun w hw => fit_val R hn hsb hf (a w hw) (b w hw))
theorem op_fits {set n r : Int32} (R : RR hi u nb ns) (hc : if isW set (nI (2 ^ nb)) = false ∨ isU n 20 = false ∨ isW r 6 = false then r9 = some (.int (-1)) ∧ H = hi else if (cRT hi nb set (sR r)).1 = 0 then ∃ F, (∀ c, c ≠ 2 → c < 47 ∨ 59 < c → H c = hi c) ∧ (∀ w, w < tW (sbOf set) 6 → skVal (cP hi) nb ns n.toNatClampNeg (sbOf set) (hi (sR r + 1)) w (F w)) ∧ r9 = some (.int (nI (skFold (sbOf set) F (tW (sbOf set) 6)).1)) ∧ H 2 = cUps hi (skFold (sbOf set) F (tW (sbOf set) 6)).2.1 else r9 = some (.int (cRT hi nb set (sR r)).1) ∧ H = (cRT hi nb set (sR r)).2) (hu : if 0 ≤ (uKT u nb set n r).1 then ∃ F V, uFits u nb ns n.toNatClampNeg set r.toNatClampNeg F V ∧ r9' = some (.int (nI (skFold (sbU set) F (uWt (sbU set) nb 0)).1)) ∧ v = uAsk V (skFold (sbU set) F (uWt (sbU set) nb 0)).2.1 else r9' = some (.int (uKT u nb set n r).1) ∧ v = (uKT u nb set n r).2) : opR r9 r9' H v ∧ ∀ c, 114 ≤ c → H c = hi c := by
  have b3 := R.mo.1.2.1
  rw [set_w b3, show isU n 20 = uIn n 0 20 from rfl, wU5] at hc
  by_cases h1 : uIn set 0 (nI (2 ^ nb - 1)) = false ∨ uIn n 0 20 = false ∨ uIn r 0 5 = false
  · rw [if_pos h1] at hc
    have e9 : uKT u nb set n r = (-1, u) := by unfold uKT; rw [if_pos h1]
    rw [e9, if_neg (show ¬ (0 : Int32) ≤ -1 by decide)] at hu
    obtain ⟨rfl, rfl⟩ := hc
    obtain ⟨rfl, rfl⟩ := hu
    exact ⟨⟨_, rfl, rfl, nb, ns, R⟩, fun _ _ => rfl⟩
  · rw [if_neg h1] at hc
    have p1 := tru (fun w => h1 (Or.inl w))
    have p2 := tru (fun w => h1 (Or.inr (Or.inl w)))
    have p3 := tru (fun w => h1 (Or.inr (Or.inr w)))
    have K := kt_same R p1 p2 p3
    by_cases h2 : 0 ≤ (uKT u nb set n r).1
    · obtain ⟨k1, k2, j, hj, rfl, k3⟩ := K.1 h2
      have hjc : (nI j).toNatClampNeg = j := nI_clamp (by omega)
      rw [if_pos k1] at hc
      rw [if_pos h2] at hu
      obtain ⟨k, hk, rfl, hkc⟩ := n_ex (m := 20) (by omega) p2
      simp only [sR, hjc, hkc] at hc hu
      obtain ⟨F, Fr, hF, rfl, e2⟩ := hc
      obtain ⟨F', V, hV, rfl, rfl⟩ := hu
      have ef := fit_fold R hk p1 k3 hF hV.2.1
      rw [ef] at e2 ⊢
      exact ⟨⟨_, rfl, rfl, nb, ns, R.aside e2 (fun c hc => Fr c (by omega) (by omega)) hV.1⟩, fun c hc => Fr c (by omega) (by omega)⟩
    · obtain ⟨k1, k2, k3, k4⟩ := K.2 h2
      rw [if_neg k1] at hc
      rw [if_neg h2] at hu
      obtain ⟨rfl, rfl⟩ := hc
      obtain ⟨rfl, rfl⟩ := hu
      exact ⟨⟨_, rfl, by rw [k2], nb, ns, k3⟩, k4⟩
theorem op_could {set n r i : Int32} (R : RR hi u nb ns) (hc : if (isW set (nI (2 ^ nb)) = false ∨ isU n 20 = false ∨ isW r 6 = false) ∨ isW i 6 = false ∨ isI set i = false then r9 = some (.int (-1)) ∧ H = hi else if (cRT hi nb set (sR r)).1 = 0 then ∃ F, (∀ c, c ≠ 2 → c < 47 ∨ 59 < c → H c = hi c) ∧ (∀ w, w < tW (sbOf set) 6 → skVal (cP hi) nb ns n.toNatClampNeg (sbOf set) (hi (sR r + 1)) w (F w)) ∧ r9 = some (.int ((skFold (sbOf set) F (tW (sbOf set) 6)).2.2 i.toNatClampNeg)) ∧ H 2 = hi 2 else r9 = some (.int (cRT hi nb set (sR r)).1) ∧ H = (cRT hi nb set (sR r)).2) (hu : if uIn i 0 (u 0 9 - 1) = false ∨ uHas set i = false then r9' = some (.int (-1)) ∧ v = u else if 0 ≤ (uKT u nb set n r).1 then ∃ F, uFits u nb ns n.toNatClampNeg set r.toNatClampNeg F v ∧ r9' = some (.int ((skFold (sbU set) F (uWt (sbU set) nb 0)).2.2 i.toNatClampNeg)) else r9' = some (.int (uKT u nb set n r).1) ∧ v = (uKT u nb set n r).2) : opR r9 r9' H v ∧ ∀ c, 114 ≤ c → H c = hi c := by
  obtain ⟨b1, b2, b3, -⟩ := R.ns0
  rw [set_w b3, show isU n 20 = uIn n 0 20 from rfl, wU5, wU5] at hc
  rw [b2] at hu
  by_cases h1 : uIn set 0 (nI (2 ^ nb - 1)) = false ∨ uIn n 0 20 = false ∨ uIn r 0 5 = false
  · rw [if_pos (Or.inl h1)] at hc
    have e9 : uKT u nb set n r = (-1, u) := by unfold uKT; rw [if_pos h1]
    rw [e9, if_neg (show ¬ (0 : Int32) ≤ -1 by decide)] at hu
    obtain ⟨rfl, rfl⟩ := hc
    have : r9' = some (.int (-1)) ∧ v = u := by
      split at hu
      · exact hu
      · exact hu
    obtain ⟨rfl, rfl⟩ := this
    exact ⟨⟨_, rfl, rfl, nb, ns, R⟩, fun _ _ => rfl⟩
  · have p1 := tru (fun w => h1 (Or.inl w))
    have p2 := tru (fun w => h1 (Or.inr (Or.inl w)))
    have p3 := tru (fun w => h1 (Or.inr (Or.inr w)))
    have h64 := p2_64 b3
    have hz := uIn_zz.mp p1
    have z0 : (0 : Int32).toInt = 0 := by decide
    rw [z0, nI_toInt (by omega)] at hz
    have es : set = nI set.toInt.toNat := z_of hz.1
    have ei : (uIn i 0 5 = false ∨ isI set i = false) ↔ (uIn i 0 (nI nb - 1) = false ∨ uHas set i = false) := by
      by_cases q : uIn i 0 5 = true
      · obtain ⟨x, hx, rfl⟩ := uIn_ex 5 q
        have e1 : isI set (nI x) = uHas set (nI x) := congrFun (sb_same set) x
        have q5 : ¬ uIn (nI x) 0 5 = false := by rw [q]; decide
        rw [e1]
        by_cases qx : x < nb
        · have q9 : ¬ uIn (nI x) 0 (nI nb - 1) = false := by
            rw [← wUm (by omega), Bool.not_eq_false, isW_z, nI_toInt (by omega), nI_toInt (by omega)]
            omega
          exact ⟨fun w => Or.inr (w.resolve_left q5), fun w => Or.inr (w.resolve_left q9)⟩
        · have q9 : uIn (nI x) 0 (nI nb - 1) = false := by
            rw [← wUm (by omega), ← Bool.not_eq_true, isW_z, nI_toInt (by omega), nI_toInt (by omega)]
            omega
          have q8 : uHas set (nI x) = false := by
            have := sbU_cut (nb := nb) (s := set.toInt.toNat) b3 (by omega) x (by omega) (by omega)
            rw [← es] at this
            exact this
          exact ⟨fun _ => Or.inl q9, fun _ => Or.inr q8⟩
      · have q5 : uIn i 0 5 = false := by simpa using q
        have q9 : uIn i 0 (nI nb - 1) = false := by
          rw [← Bool.not_eq_true]
          intro w
          obtain ⟨x, hx, rfl⟩ := uIn_ix w (by omega)
          rw [in5 (by omega)] at q5
          cases q5
        exact ⟨fun _ => Or.inl q9, fun _ => Or.inl q5⟩
    by_cases h3 : uIn i 0 (nI nb - 1) = false ∨ uHas set i = false
    · rw [if_pos (Or.inr (ei.mpr h3))] at hc
      rw [if_pos h3] at hu
      obtain ⟨rfl, rfl⟩ := hc
      obtain ⟨rfl, rfl⟩ := hu
      exact ⟨⟨_, rfl, rfl, nb, ns, R⟩, fun _ _ => rfl⟩
    · rw [if_neg (fun w => w.elim h1 (fun w => h3 (ei.mp w)))] at hc
      rw [if_neg h3] at hu
      have K := kt_same R p1 p2 p3
      by_cases h2 : 0 ≤ (uKT u nb set n r).1
      · obtain ⟨k1, k2, j, hj, rfl, k3⟩ := K.1 h2
        have hjc : (nI j).toNatClampNeg = j := nI_clamp (by omega)
        rw [if_pos k1] at hc
        rw [if_pos h2] at hu
        obtain ⟨k, hk, rfl, hkc⟩ := n_ex (m := 20) (by omega) p2
        simp only [sR, hjc, hkc] at hc hu
        obtain ⟨F, Fr, hF, rfl, e2⟩ := hc
        obtain ⟨F', hV, rfl⟩ := hu
        have ef := fit_fold R hk p1 k3 hF hV.2.1
        rw [ef]
        exact ⟨⟨_, rfl, rfl, nb, ns, R.still (fun c hc => by
          by_cases q : c = 2
          · rw [q, e2]
          · exact Fr c q (by omega)) hV.1⟩, fun c hc => Fr c (by omega) (by omega)⟩
      · obtain ⟨k1, k2, k3, k4⟩ := K.2 h2
        rw [if_neg k1] at hc
        rw [if_neg h2] at hu
        obtain ⟨rfl, rfl⟩ := hc
        obtain ⟨rfl, rfl⟩ := hu
        exact ⟨⟨_, rfl, by rw [k2], nb, ns, k3⟩, k4⟩
end OP6
