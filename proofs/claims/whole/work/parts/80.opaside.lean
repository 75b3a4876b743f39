/-! PART opaside: minutes aside: when, bought, winds: both sides -/
def opR (r9 r9' : Option Value) (H v : cm_g2) : Prop := ∃ y, r9 = some y ∧ r9' = some y ∧ ∃ nb ns, RR H v nb ns
theorem uPA_uEq {u : cm_g2} : uEq u (uPA u) := by
  have e := uPA_eq (u := u)
  exact ⟨fun j hj => e.2.1 j (by omega), fun c hc => e.1 c (by omega) (by omega), fun c h1 h2 i _ => by rw [e.1 c (by omega) (by omega)]⟩
theorem mHere_g {g g' : cm_g2} {at_ gd : Int32} (h1 : g' 1 = g 1) (h2 : g' 2 = g 2) : ∀ n k, mHere g' at_ gd n k = mHere g at_ gd n k
  | 0, _ => rfl
  | n + 1, k => by
    unfold mHere
    rw [h1, h2, mHere_g h1 h2 n (k + 1)]
theorem last27 {g u : cm_g2} {nb ns B j : Nat} {mv wind : Int32} (h : mR g u nb ns B) (hmv : -50 ≤ mv.toInt ∧ mv.toInt ≤ 50) (hs : uSun u + wind = mv) (h25 : u 0 25 = 0) (h26 : u 0 26 = 0) : ∀ i, i ≤ nb → j < i → ¬ (mSell g nb ns mv i).1 7 j = g 7 j → ∃ k, mHere g (g 6 j) (g 7 j) ns 0 = some k ∧ uBuys u nb ns wind (nI j) i 0 27 = nI k
  | 0, _, hj, _ => absurd hj (Nat.not_lt_zero _)
  | i + 1, hi9, hj, hn => by
    obtain ⟨ih, -, -, hrest⟩ := sale_same (lk := nI j) h hmv hs h25 h26 i (by omega)
    have il := last27 (j := j) h hmv hs h25 h26 i (by omega)
    have hnb := h.1.1.2.1
    have hs2 : uSun (uBuys u nb ns wind (nI j) i) + wind = mv := by
      have k1 := uSun_eq ih
      have k2 := uSun_eq h
      have k3 := (mSell_keep g nb ns mv i).1
      rw [k1]
      rw [k2] at hs
      unfold mSun at hs ⊢
      rw [k3]
      exact hs
    have c1 : (mSell g nb ns mv i).1 1 = g 1 := mSell_c (by decide) i
    have c2 : (mSell g nb ns mv i).1 2 = g 2 := mSell_c (by decide) i
    have c6 : (mSell g nb ns mv i).1 6 = g 6 := mSell_c (by decide) i
    have hn2 : ¬ (mSell1 (mSell g nb ns mv i).1 nb ns mv i).1 7 j = g 7 j := hn
    show ∃ k, _ ∧ uBuy1 (uBuys u nb ns wind (nI j) i) nb ns wind (nI j) i 0 27 = nI k
    generalize (mSell g nb ns mv i).1 = G at ih il hrest c1 c2 c6 hn2
    generalize uBuys u nb ns wind (nI j) i = U at ih il hs2 ⊢
    rcases buy1_cases (lk := nI j) (i := i) ih (by omega) hmv hs2 with ⟨e1, e2⟩ | ⟨k, hk, hn4, hh, e1, e2⟩
    · rw [e1] at hn2
      rw [e2]
      by_cases q : j = i
      · exact absurd (hrest j (by omega)) hn2
      · exact il (by omega) hn2
    · rw [e1] at hn2
      rw [e2]
      have w27 : uSold U (nI j) i k 0 27 = if nI i = nI j then nI k else U 0 27 := by simp [uSold, va_up, upd]
      rw [w27]
      by_cases q : j = i
      · subst q
        rw [if_pos rfl]
        refine ⟨k, ?_, rfl⟩
        rw [← mHere_g c1 c2, ← c6, ← hrest j (Nat.le_refl _)]
        exact hh
      · rw [if_neg (fun w => q ((nI_eq (by omega) (by omega)).mp w).symm)]
        refine il (by omega) (fun w => hn2 ?_)
        show mSold G i k 7 j = _
        unfold mSold
        rw [va_up_self, pk_un q]
        exact w
theorem pass27 {g u : cm_g2} {nb ns B j : Nat} {wind : Int32} (h : mR g u nb ns B) (hB : B ≤ 100000) (hw : -1 ≤ wind.toInt ∧ wind.toInt ≤ 1) (hj : j < nb) (hn : ¬ (mPass g nb ns wind).1 7 j = g 7 j) : ∃ k, mHere (mPass g nb ns wind).1 ((mPass g nb ns wind).1 6 j) (g 7 j) ns 0 = some k ∧ uPass u nb ns wind (nI j) 0 27 = nI k := by
  have h1 := (h.richs nb (Nat.le_refl _)).plains nb (Nat.le_refl _)
  have h2 := h1.tick hB
  have hsun := mSun_z h2.2.2.2.1.2.1
  have hmv : -50 ≤ (mSun (mTick (mPlains (mRichs g nb nb) nb nb)) + wind).toInt ∧ (mSun (mTick (mPlains (mRichs g nb nb) nb nb)) + wind).toInt ≤ 50 := by
    rw [zadd (by omega)]
    omega
  have k7 : mTick (mPlains (mRichs g nb nb) nb nb) 7 = g 7 := by
    unfold mTick
    rw [va_up_ne _ _ (by decide), mPlains_c (by decide), mRichs_c (by decide)]
  have h3 := last27 (j := j) h2 hmv (by rw [uSun_eq h2]) (by simp [uTick, va_up, upd]) (by simp [uTick, va_up, upd]) nb (Nat.le_refl _) hj (by rw [k7]; exact hn)
  obtain ⟨k, e1, e2⟩ := h3
  refine ⟨k, ?_, e2⟩
  have c1 : (mPass g nb ns wind).1 1 = mTick (mPlains (mRichs g nb nb) nb nb) 1 := mSell_c (by decide) nb
  have c2 : (mPass g nb ns wind).1 2 = mTick (mPlains (mRichs g nb nb) nb nb) 2 := mSell_c (by decide) nb
  have c6 : (mPass g nb ns wind).1 6 = mTick (mPlains (mRichs g nb nb) nb nb) 6 := mSell_c (by decide) nb
  rw [mHere_g c1 c2, c6, ← k7]
  exact e1
theorem RR.pa {hi u g : cm_g2} {nb ns : Nat} (R : RR hi u nb ns) (e : mEq g (cP hi)) : mR g (uPA u) nb ns 60 := R.m.cg e uPA_uEq
theorem b0_same {g u : cm_g2} {nb ns j k : Nat} (h : mR g (uPA u) nb ns 60) (hj : j < nb) (hk : k ≤ 1000) : uB0 u nb ns j (k + 1) = true ↔ ¬ (mIt g nb ns (k + 1)).1 7 j = (mIt g nb ns k).1 7 j := by
  have hnb := h.1.1.2.1
  have hm := h.itw (w := fun _ => 0) (lk := nI j) (fun _ => z01) k (by omega)
  obtain ⟨-, ⟨n, hn, h25, -, hb⟩, -⟩ := pass_same (wind := 0) (lk := nI j) hm (by omega) z01
  have h64 := p2_64 hnb
  unfold uB0
  show uHas (uPass _ nb ns 0 (nI j) 0 25) (nI j) = true ↔ _
  rw [h25, uHas_bit n (by omega) j (by omega), hb j (by omega)]
  exact ⟨fun w => w.2, fun w => ⟨hj, w⟩⟩
theorem fs_none {b : Nat → Bool} : ∀ q k, (∀ m, k < m → m ≤ k + q → b m = false) → uFs b q k = none
  | 0, _, _ => rfl
  | q + 1, k, h => by
    unfold uFs
    rw [if_neg (by rw [h (k + 1) (by omega) (by omega)]; decide)]
    exact fs_none q (k + 1) (fun m h1 h2 => h m (by omega) (by omega))
theorem fs_same {g u : cm_g2} {nb ns j : Nat} (h : mR g (uPA u) nb ns 60) (hj : j < nb) : ∀ q k, k + q ≤ 1000 → ¬ (mIt g nb ns k).1 7 j = 4 → cFs g nb ns j q k = uFs (uB0 u nb ns j) q k
  | 0, _, _, _ => rfl
  | q + 1, k, hk, h4 => by
    unfold cFs uFs
    have e := b0_same (k := k) h hj (by omega)
    have hw := mPass_w (g := (mIt g nb ns k).1) (nb := nb) (ns := ns) (j := j) (w := 0)
    by_cases q4 : (mIt g nb ns (k + 1)).1 7 j = 4
    · rw [if_pos q4, if_pos (e.mpr (fun w => h4 (by rw [← w]; exact q4)))]
    · have q5 : (mIt g nb ns (k + 1)).1 7 j = (mIt g nb ns k).1 7 j := hw.resolve_right q4
      rw [if_neg q4, if_neg (fun w => e.mp w q5)]
      exact fs_same h hj q (k + 1) (by omega) q4
theorem when_same {g u : cm_g2} {nb ns j : Nat} (h : mR g (uPA u) nb ns 60) (hj : j < nb) : (if g 7 j = 4 then none else cFs g nb ns j 60 0) = uFs (uB0 u nb ns j) 60 0 := by
  by_cases q : g 7 j = 4
  · rw [if_pos q]
    refine (fs_none 60 0 (fun m h1 h2 => ?_)).symm
    cases hb : uB0 u nb ns j m with
    | false => rfl
    | true =>
      obtain ⟨k, rfl⟩ : ∃ k, m = k + 1 := ⟨m - 1, by omega⟩
      have := (b0_same (k := k) h hj (by omega)).mp hb
      rw [mItW_4 q, mItW_4 q] at this
      exact absurd rfl this
  · rw [if_neg q]
    exact fs_same h hj 60 0 (by omega) q
section OP3
variable {hi u H v : cm_g2} {nb ns : Nat} {r9 r9' : Option Value}
theorem fr33.c (F : fr33 hi H) : ∀ c, (5 ≤ c ∧ c ≤ 15) ∨ c = 17 ∨ c = 18 ∨ (60 ≤ c ∧ c ≤ 113) → H c = hi c := fun c hc => F c (by omega) (by omega)
theorem fr33.still (F : fr33 hi H) (h2 : H 2 = hi 2) : ∀ c, c = 2 ∨ (5 ≤ c ∧ c ≤ 15) ∨ c = 17 ∨ c = 18 ∨ (60 ≤ c ∧ c ≤ 113) → H c = hi c := fun c hc => by
  by_cases q : c = 2
  · rw [q, h2]
  · exact F c q (by omega)
theorem op_when {i : Int32} (R : RR hi u nb ns) (hc : if isW i (hi 5 3) = false then r9 = some (.int (-1)) ∧ H = hi else ∃ g, mEq g (cP hi) ∧ fr33 hi H ∧ (match (if hi 12 i.toNatClampNeg = 4 then none else cFs g nb ns i.toNatClampNeg 60 0) with | none => r9 = some (.int (-9)) ∧ H 2 = hi 2 | some m => r9 = some (.int (nI m)) ∧ H 2 = cUps hi (cm_oi (mHere (mIt g nb ns m).1 ((mIt g nb ns m).1 6 i.toNatClampNeg) (hi 12 i.toNatClampNeg) ns 0)))) (hu : if uIn i 0 (u 0 9 - 1) = false then r9' = some (.int (-1)) ∧ v = u else uWhen u nb ns i.toNatClampNeg r9' v) : opR r9 r9' H v := by
  obtain ⟨b1, b2, b3, -⟩ := R.ns0
  rw [b1, wUm (by omega)] at hc
  rw [b2] at hu
  by_cases h1 : uIn i 0 (nI nb - 1) = false
  · rw [if_pos h1] at hc hu
    obtain ⟨rfl, rfl⟩ := hc
    obtain ⟨rfl, rfl⟩ := hu
    exact ⟨_, rfl, rfl, nb, ns, R⟩
  · rw [if_neg h1] at hc hu
    obtain ⟨j, hj, rfl⟩ := uIn_ix (tru h1) (by omega)
    have hjc : (nI j).toNatClampNeg = j := nI_clamp (by omega)
    rw [hjc] at hc hu
    obtain ⟨g, eg, F, hm⟩ := hc
    have M := R.pa eg
    have e7 : g 7 j = hi 12 j := eg.2.1 7 (by decide) (by decide) j (by omega)
    rw [← e7, when_same M hj] at hm
    unfold uWhen at hu
    cases hq : uFs (uB0 u nb ns j) 60 0 with
    | none =>
      rw [hq] at hm hu
      obtain ⟨rfl, h2⟩ := hm
      obtain ⟨rfl, ev⟩ := hu
      exact ⟨_, rfl, rfl, nb, ns, R.still (F.still h2) ev⟩
    | some m =>
      rw [hq] at hm hu
      obtain ⟨rfl, h2⟩ := hm
      obtain ⟨rfl, v', ev, rfl⟩ := hu
      obtain ⟨m1, m2, hb⟩ := uFs_hit hq
      obtain ⟨k, rfl⟩ : ∃ k, m = k + 1 := ⟨m - 1, by omega⟩
      have hch := (b0_same (k := k) M hj (by omega)).mp hb
      have hmk := M.itw (w := fun _ => 0) (lk := nI j) (fun _ => z01) k (by omega)
      obtain ⟨s, s1, s2⟩ := pass27 (wind := 0) hmk (by omega) z01 hj hch
      have hk7 : (mIt g nb ns k).1 7 j = g 7 j := by
        rcases mItW_w (g := g) (nb := nb) (ns := ns) (j := j) (w := fun _ => 0) k with w | w
        · exact w
        · rcases mPass_w (g := (mIt g nb ns k).1) (nb := nb) (ns := ns) (j := j) (w := 0) with w2 | w2
          · exact absurd w2 hch
          · exact absurd (w2.trans w.symm) hch
      rw [hk7] at s1
      rw [show mHere (mIt g nb ns (k + 1)).1 ((mIt g nb ns (k + 1)).1 6 j) (g 7 j) ns 0 = some s from s1] at h2
      rw [show uItW (uPA u) nb ns (fun _ => 0) (nI j) (k + 1) 0 27 = nI s from s2]
      exact ⟨_, rfl, rfl, nb, ns, R.aside h2 F.c ev⟩
/-- looking ahead: the set of who bought, what they paid -/
theorem la_same {g : cm_g2} {u : cm_g2} (h : mR g (uPA u) nb ns 60) : ∀ m, m ≤ 1000 → mR (mIt g nb ns m).1 (uLA u nb ns m) nb ns (60 + m) ∧ (∃ n, n < 2 ^ nb ∧ uLA u nb ns m 0 32 = nI n ∧ pc6 n = (mIt g nb ns m).2 ∧ ∀ j, j < 6 → (n.testBit j = true ↔ j < nb ∧ ¬ (mIt g nb ns m).1 7 j = g 7 j)) ∧ sumP ((mIt g nb ns m).1 8) nb = sumP (g 8) nb + uLA u nb ns m 0 33
  | 0, _ => by
    refine ⟨h.cg mEq.refl ⟨fun j hj => ?_, fun c hc => va_up_ne _ _ (by omega), fun c h1 h2 i _ => by show va_up (uPA u) 0 _ c i = _; rw [va_up_ne _ _ (by omega)]⟩, ⟨0, Nat.pos_of_ne_zero (by simp), ?_, (by show pc6 0 = 0; decide), fun j hj => by simp [mItW]⟩, ?_⟩
    · show va_up (uPA u) 0 _ 0 j = _
      rw [va_up_self, pk_un (by omega), pk_un (by omega)]
    · show va_up (uPA u) 0 _ 0 32 = _
      rw [va_up_self, pk_un (by decide), pk_us]; rfl
    · show sumP (g 8) nb = sumP (g 8) nb + va_up (uPA u) 0 _ 0 33
      rw [va_up_self, pk_us, Int32.add_zero]
  | m + 1, hm => by
    obtain ⟨ih, ⟨n, hn, h32, hpc, hb⟩, hsum⟩ := la_same h m (by omega)
    have hnb := h.1.1.2.1
    have h64 := p2_64 hnb
    obtain ⟨p1, ⟨p, hp, h25, hpp, hpb⟩, psum⟩ := pass_same (wind := 0) (lk := -9) ih (by omega) z01
    have hpe : ∀ c, c ≠ 0 → uLA u nb ns (m + 1) c = uPass (uLA u nb ns m) nb ns 0 (-9) c := fun c hc => va_up_ne _ _ hc
    have h0 : ∀ j, j ≠ 32 → j ≠ 33 → uLA u nb ns (m + 1) 0 j = uPass (uLA u nb ns m) nb ns 0 (-9) 0 j := fun j h1 h2 => by
      show (va_up _ 0 _ : cm_g2) 0 j = _
      rw [va_up_self, pk_un h2, pk_un h1]
    have hdis := pc6_dis n (by omega) p (by omega) (bit_sep n (by omega) p (by omega) (fun j hj hnj => by
      cases hq : p.testBit j with
      | false => rfl
      | true =>
        have a1 := (hb j hj).mp hnj
        have a2 := (hpb j hj).mp hq
        rcases mItW_w (g := g) (nb := nb) (ns := ns) (j := j) (w := fun _ => 0) m with w | w
        · exact absurd w a1.2
        · rcases mPass_w (g := (mIt g nb ns m).1) (nb := nb) (ns := ns) (j := j) (w := 0) with w2 | w2
          · exact absurd w2 a2.2
          · exact absurd (w2.trans w.symm) a2.2))
    refine ⟨p1.cg mEq.refl ⟨fun j hj => h0 j (by omega) (by omega), fun c hc => hpe c (by omega), fun c h1 h2 i _ => by rw [hpe c (by omega)]⟩, ⟨n ||| p, Nat.or_lt_two_pow hn hp, ?_, ?_, fun j hj => ?_⟩, ?_⟩
    · show (va_up _ 0 _ : cm_g2) 0 32 = _
      rw [va_up_self, pk_un (by decide), pk_us, uPass_0 (by decide), h32, h25]
      exact hdis.2.1
    · rw [hdis.1, hpc, hpp]
      rfl
    · rw [Nat.testBit_or, Bool.or_eq_true, hb j hj, hpb j hj]
      have hw := mPass_w (g := (mIt g nb ns m).1) (nb := nb) (ns := ns) (j := j) (w := 0)
      have hw1 := mItW_w (g := g) (nb := nb) (ns := ns) (j := j) (w := fun _ => 0) m
      show _ ↔ j < nb ∧ ¬ (mPass (mIt g nb ns m).1 nb ns 0).1 7 j = g 7 j
      constructor
      · rintro (⟨a, b⟩ | ⟨a, b⟩)
        · refine ⟨a, fun w => b ?_⟩
          rcases hw with w2 | w2
          · rw [← w2]; exact w
          · rcases hw1 with w3 | w3
            · exact w3
            · rw [w3, ← w2]; exact w
        · refine ⟨a, fun w => b ?_⟩
          rcases hw1 with w3 | w3
          · rw [w, w3]
          · rcases hw with w2 | w2
            · exact w2
            · rw [w2, w3]
      · rintro ⟨a, b⟩
        by_cases w : (mIt g nb ns m).1 7 j = g 7 j
        · exact Or.inr ⟨a, fun w2 => b (w2.trans w)⟩
        · exact Or.inl ⟨a, w⟩
    · show sumP ((mPass (mIt g nb ns m).1 nb ns 0).1 8) nb = _ + (va_up _ 0 _ : cm_g2) 0 33
      rw [psum, hsum, va_up_self, pk_us, show uPass (uLA u nb ns m) nb ns 0 (-9) 0 33 = uLA u nb ns m 0 33 from uPass_0 (by decide), Int32.add_assoc]
theorem isUm {n : Int32} {m : Nat} (h : m < 1000) : isU n (nI m) = uIn n 0 (nI m) := rfl
theorem sub_self_add {x y : Int32} : x + y - x = y := by rw [Int32.add_comm, Int32.add_sub_cancel]
theorem uCB_0 {v : cm_g2} {j : Nat} (h : j ≠ 19) : uCB v 0 j = v 0 j := by
  unfold uCB
  rw [va_up_self, pk_un h]
theorem n_ex {n : Int32} {m : Nat} (hm : m < 1000) (h : uIn n 0 (nI m) = true) : ∃ k, k ≤ m ∧ n = nI k ∧ (nI k).toNatClampNeg = k := by
  obtain ⟨k, h1, h2⟩ := uIn_ex m h rfl (by omega)
  exact ⟨k, h1, h2, nI_clamp (by omega)⟩
theorem op_bought {n : Int32} (R : RR hi u nb ns) (hc : if isU n 60 = false then r9 = some (.int (-1)) ∧ H = hi else ∃ g, mEq g (cP hi) ∧ fr33 hi H ∧ r9 = some (.int (nI (mIt g nb ns n.toNatClampNeg).2)) ∧ H 2 = cUps hi (sumP ((mIt g nb ns n.toNatClampNeg).1 8) nb - sumP (hi 13) nb)) : opR r9 (some (.int (uBought u nb ns n).1)) H (uBought u nb ns n).2 := by
  unfold uBought
  rw [show isU n 60 = uIn n 0 60 from rfl] at hc
  by_cases h1 : uIn n 0 60 = false
  · rw [if_pos h1] at hc ⊢
    obtain ⟨rfl, rfl⟩ := hc
    exact ⟨_, rfl, rfl, nb, ns, R⟩
  · rw [if_neg h1] at hc ⊢
    obtain ⟨k, hk, rfl, hkc⟩ := n_ex (m := 60) (by omega) (tru h1)
    rw [hkc] at hc ⊢
    obtain ⟨g, eg, F, rfl, h2⟩ := hc
    have hnb := R.mo.1.2.1
    have h64 := p2_64 hnb
    obtain ⟨-, ⟨s, hs, s1, s2, -⟩, ssum⟩ := la_same (R.pa eg) k (by omega)
    have es : sumP (g 8) nb = sumP (hi 13) nb := sumP_cg nb (fun i hi9 => eg.2.1 8 (by decide) (by decide) i (by omega))
    rw [ssum, es, sub_self_add] at h2
    refine ⟨_, rfl, ?_, nb, ns, ?_⟩
    · dsimp only
      rw [uCB_0 (by decide), s1, (uSz_pc s (by omega)).1, s2]
    · dsimp only
      rw [uCB_0 (by decide)]
      exact R.aside h2 F.c (uLA_back k)
theorem lot_same {seed : Int64} : ∀ m, uLot seed m = cLot seed m
  | 0 => rfl
  | m + 1 => by
    unfold uLot cLot
    rw [lot_same m, Int64.mul_comm 48271]
theorem wind_same {seed : Int64} : uWind seed = cWind seed := by
  funext m
  unfold uWind cWind
  rw [lot_same]
theorem lot_ex {s : Nat} (h : s < 2147483647) : ∀ m, ∃ k, k < 2147483647 ∧ cLot (lN s) m = lN k
  | 0 => ⟨s, h, rfl⟩
  | m + 1 => by
    obtain ⟨k, hk, e⟩ := lot_ex h m
    refine ⟨k * 48271 % 2147483647, Nat.mod_lt _ (by decide), ?_⟩
    show cLot (lN s) m * 48271 - cLot (lN s) m * 48271 / 2147483647 * 2147483647 = _
    rw [e, show (48271 : Int64) = lN 48271 from rfl, show (2147483647 : Int64) = lN 2147483647 from rfl, lN_mul]
    exact pk_lRem (by omega) (by decide) (by decide)
theorem wind_in {s m : Nat} (h : s < 2147483647) : -1 ≤ (cWind (lN s) m).toInt ∧ (cWind (lN s) m).toInt ≤ 1 := by
  obtain ⟨k, hk, e⟩ := lot_ex h (m + 1)
  unfold cWind
  rw [e, show (3 : Int64) = lN 3 from rfl, pk_lRem (by omega) (by decide) (by decide), lN_i]
  have z1 : (1 : Int32).toInt = 1 := by decide
  have : k % 3 < 3 := Nat.mod_lt _ (by decide)
  rw [zsub (by rw [nI_toInt (by omega), z1]; omega), nI_toInt (by omega), z1]
  omega
theorem itw_sum {g : cm_g2} {u : cm_g2} {w : Nat → Int32} (h : mR g u nb ns 60) (hw : ∀ k, -1 ≤ (w k).toInt ∧ (w k).toInt ≤ 1) : ∀ m, m ≤ 1000 → uWc (uItW u nb ns w (-9)) m = nI (mItW g nb ns w m).2 ∧ sumP ((mItW g nb ns w m).1 8) nb = sumP (g 8) nb + uWs (uItW u nb ns w (-9)) m
  | 0, _ => ⟨rfl, by show sumP (g 8) nb = sumP (g 8) nb + 0; rw [Int32.add_zero]⟩
  | m + 1, hm => by
    obtain ⟨i1, i2⟩ := itw_sum h hw m (by omega)
    have hnb := h.1.1.2.1
    have h64 := p2_64 hnb
    have hmk := h.itw (lk := -9) hw m (by omega)
    obtain ⟨-, ⟨p, hp, h25, hpp, -⟩, psum⟩ := pass_same (wind := w m) (lk := -9) hmk (by omega) (hw m)
    refine ⟨?_, ?_⟩
    · show uWc (uItW u nb ns w (-9)) m + uSz (uPass (uItW u nb ns w (-9) m) nb ns (w m) (-9) 0 25) 10 = nI ((mItW g nb ns w m).2 + (mPass (mItW g nb ns w m).1 nb ns (w m)).2)
      rw [i1, h25, (uSz_pc p (by omega)).1, hpp, nI_add]
    · show sumP ((mPass (mItW g nb ns w m).1 nb ns (w m)).1 8) nb = _ + (uWs (uItW u nb ns w (-9)) m + uPass (uItW u nb ns w (-9) m) nb ns (w m) (-9) 0 26)
      rw [psum, i2, Int32.add_assoc]
theorem fa_wide9 (a b : Int32) : a.toInt64 < b.toInt64 ↔ a < b := by
  rw [Int64.lt_iff_toInt_lt, Int32.lt_iff_toInt_lt, Int32.toInt_toInt64, Int32.toInt_toInt64]
theorem op_winds {n seed : Int32} (R : RR hi u nb ns) (hc : if n < 1 ∨ 60 < n ∨ seed < 1 ∨ ¬ lg_cmp seed.toInt64 2147483647 < 0 then r9 = some (.int (-1)) ∧ H = hi else if hi 5 3 = 0 then r9 = some (.int (-4)) ∧ H = hi else ∃ g, mEq g (cP hi) ∧ fr33 hi H ∧ r9 = some (.int (nI (mItW g nb ns (cWind seed.toInt64) n.toNatClampNeg).2)) ∧ H 2 = cUps hi (sumP ((mItW g nb ns (cWind seed.toInt64) n.toNatClampNeg).1 8) nb - sumP (hi 13) nb)) (hu : uWinds u nb ns n seed r9' v) : opR r9 r9' H v := by
  obtain ⟨b1, b2, b3, -⟩ := R.ns0
  unfold uWinds at hu
  rw [b1] at hc
  rw [b2] at hu
  have z1 : (1 : Int32).toInt = 1 := by decide
  have z60 : (60 : Int32).toInt = 60 := by decide
  have zM : (2147483646 : Int32).toInt = 2147483646 := by decide
  have ev : (n < 1 ∨ 60 < n ∨ seed < 1 ∨ ¬ lg_cmp seed.toInt64 2147483647 < 0) ↔ (uIn n 1 60 = false ∨ uIn seed 1 2147483646 = false) := by
    rw [← Bool.not_eq_true, ← Bool.not_eq_true, uIn_zz, uIn_zz, lg_cmp_lt, show (2147483647 : Int64) = (2147483647 : Int32).toInt64 from rfl, fa_wide9, Int32.lt_iff_toInt_lt, Int32.lt_iff_toInt_lt, Int32.lt_iff_toInt_lt, Int32.lt_iff_toInt_lt, z1, z60, zM, show (2147483647 : Int32).toInt = 2147483647 by decide]
    omega
  by_cases h1 : uIn n 1 60 = false ∨ uIn seed 1 2147483646 = false
  · rw [if_pos (ev.mpr h1)] at hc
    rw [if_pos h1] at hu
    obtain ⟨rfl, rfl⟩ := hc
    obtain ⟨rfl, rfl⟩ := hu
    exact ⟨_, rfl, rfl, nb, ns, R⟩
  · rw [if_neg (fun w => h1 (ev.mp w))] at hc
    rw [if_neg h1] at hu
    by_cases h2 : nI nb = 0
    · rw [if_pos h2] at hc hu
      obtain ⟨rfl, rfl⟩ := hc
      obtain ⟨rfl, rfl⟩ := hu
      exact ⟨_, rfl, rfl, nb, ns, R⟩
    · rw [if_neg h2] at hc hu
      obtain ⟨g, eg, F, rfl, e2⟩ := hc
      obtain ⟨rfl, v', ev', rfl⟩ := hu
      have hn := uIn_zz.mp (tru (fun w => h1 (Or.inl w)))
      have hs := uIn_zz.mp (tru (fun w => h1 (Or.inr w)))
      rw [z1, z60] at hn
      rw [z1, zM] at hs
      have wn : n.toNatClampNeg = n.toInt.toNat := rfl
      have es : seed.toInt64 = lN seed.toInt.toNat := by
        have e9 : seed = nI seed.toInt.toNat := z_of (by omega)
        conv => lhs; rw [e9]
        exact nI_l (by omega)
      rw [es] at e2 ⊢
      have M := R.pa eg
      have hw : ∀ k, -1 ≤ (cWind (lN seed.toInt.toNat) k).toInt ∧ (cWind (lN seed.toInt.toNat) k).toInt ≤ 1 := fun k => wind_in (by omega)
      obtain ⟨i1, i2⟩ := itw_sum M hw n.toNatClampNeg (by omega)
      have e8 : sumP (g 8) nb = sumP (hi 13) nb := sumP_cg nb (fun i hi9 => eg.2.1 8 (by decide) (by decide) i (by omega))
      rw [i2, e8, sub_self_add] at e2
      refine ⟨_, rfl, ?_, nb, ns, ?_⟩
      · show some (Value.int (uWc (uItW (uPA u) nb ns (uWind seed.toInt64) (-9)) n.toNatClampNeg)) = _
        rw [wind_same, es, i1]
      · show RR H (uAsk v' (uWs (uItW (uPA u) nb ns (uWind seed.toInt64) (-9)) n.toNatClampNeg)) nb ns
        rw [wind_same, es]
        exact R.aside e2 F.c ev'
end OP3
