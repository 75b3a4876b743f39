/-! PART umarket: the reference: buyers in texts, whole texts, markets -/
theorem pKind_z (x : Int32) : pKind x = 4 ∨ ¬ pKind x = 4 := by by_cases h : pKind x = 4 <;> simp [h]
def uTl (c : Nat → Int32) (pos : Nat) (A : pA) (k x : Int32) : Except Nat (Nat × pA) := if c pos = 45 then .ok (pos + 1, (A.1, A.2.1, (A.2.2.1 + 1, pSet A.2.2.2 A.2.2.1 (k, x, 4)))) else if pBt c pos 48 51 = false then .error pos else .ok (pos + 1, (A.1, A.2.1, (A.2.2.1 + 1, pSet A.2.2.2 A.2.2.1 (k, x, c pos - 48))))
theorem pBuyer_tl {c : Nat → Int32} {pos : Nat} {A : pA} (h0 : ¬ (pKind (c pos) = -9 ∨ 6 ≤ A.2.2.1)) (h1 : pBt c (pos + 1) 65 84 = true) (h2 : pCan A (pKind (c pos)) (c (pos + 1) - 65) = true) : pBuyer c pos A = uTl c (pos + 2) A (pKind (c pos)) (c (pos + 1) - 65) := by
  unfold pBuyer uTl
  rw [if_neg h0, if_neg (by rw [h1]; decide), if_neg (by rw [h2]; decide)]
section UM
variable {D : cm_D} {d : Nat} {sh : List cm_Sh} {hi u : cm_g2} {hl : Nat → Nat → Int64} {hr : Nat → Nat → Option Nat} {e nb ns t n pos : Nat} {f : Nat → Int32} {A : pA}
set_option maxRecDepth 20000 in
set_option maxHeartbeats 1000000 in
theorem t_rb2 (hE : cm_mdl sh hr e) {kd x : Int32} {x5 x6 : Option Value} (ht : t < 4) (hx : uTx u t n f) (hn : n ≤ 80) (hp : u 0 21 = nI pos) (hle : pos + 1 ≤ n) (hA : uRep A u) (h6 : A.2.2.1 < 6) (hk : u 7 (6 + A.2.2.1) = kd) : cm_g D mX7_readsBuyer (d + 3) 0 0 (fun r9 h9 => ∃ v, h9 = (sh, cm_us hi e v, hl, hr) ∧ uFr u v ∧ uOut n v r9 (uTl (pC f n) (pos + 1) A kd x)) 0 0 152 [some (.ref e), some (.int (nI t)), some (.int kd), some (.int (nI (6 + A.2.2.1))), some (.int x), x5, x6] [] (sh, cm_us hi e u, hl, hr) := by
  refine cm_aload0 (pc := 152) dX7_readsBuyer_152 ?_
  refine cm_getR (pc := 153) flX7_31 dX7_readsBuyer_153 hE.1 hE.r12 ?_
  refine cm_iload3 (pc := 156) dX7_readsBuyer_156 ?_
  refine cm_iload4 (pc := 157) dX7_readsBuyer_157 ?_
  refine mk_putE (pc := 159) (6 + A.2.2.1) dX7_readsBuyer_159 hE.a8 rfl (by omega) (by decide) ?_
  refine cm_mkG (fun G159 e159 f159 => ?_)
  have K159 : uFr u G159 := uFr.fc (by decide) (by omega) e159 f159
  have x159 := hx.fr K159
  have p159 : G159 0 21 = nI (pos) := by rw [e159 0 (by decide)]; exact hp
  refine cm_aload0 (pc := 160) dX7_readsBuyer_160 ?_
  refine cm_dup (pc := 161) dX7_readsBuyer_161 rfl ?_
  refine mk_fld (pc := 162) flX7_118 dX7_readsBuyer_162 hE.1 ?_
  rw [p159]
  refine cm_iconst (pc := 165) (v := 1) dX7_readsBuyer_165 (by decide) ?_
  refine cm_iadd (pc := 166) dX7_readsBuyer_166 ?_
  rw [nI_1]
  refine mk_set (pc := 167) fpX7_118 dX7_readsBuyer_167 hE.1 ?_
  refine cm_mkG (fun G167 e167 f167 => ?_)
  have K167 : uFr G159 G167 := uFr.f0 (Or.inl rfl) e167 f167
  have x167 := x159.fr K167
  have p167 : G167 0 21 = nI (pos + 1) := by rw [f167]; exact pk_us
  refine cm_aload0 (pc := 170) dX7_readsBuyer_170 ?_
  refine cm_iload1 (pc := 171) dX7_readsBuyer_171 ?_
  refine cm_V1 (pc := 172) mX7_here_v mlX7_121 dX7_readsBuyer_172 hE.1 (by omega) (Nat.le_of_ble_eq_true rfl) (Nat.le_refl _) (Nat.le_refl _) (r_here (d := d + 2) hE ht x167.1 hn x167.2 p167 hle) (fun r172 h172 hq172 => ?_)
  obtain ⟨rfl, rfl⟩ := hq172
  refine cm_bipush (pc := 175) (v := 45) dX7_readsBuyer_175 (by decide) ?_
  refine cm_icmp_eq (pc := 177) (tgt := 194) dX7_readsBuyer_177 (by decide) (fun c177 => ?_) (fun c177 => ?_)
  · have q45 : pC f n (pos + 1) = 45 := (pD_eq (by decide) (by decide)).mp c177
    refine cm_aload0 (pc := 194) dX7_readsBuyer_194 ?_
    refine cm_getR (pc := 195) flX7_34 dX7_readsBuyer_195 hE.1 hE.r13 ?_
    refine cm_iload3 (pc := 198) dX7_readsBuyer_198 ?_
    refine cm_aload0 (pc := 199) dX7_readsBuyer_199 ?_
    refine cm_iload1 (pc := 200) dX7_readsBuyer_200 ?_
    refine cm_V1 (pc := 201) mX7_here_v mlX7_121 dX7_readsBuyer_201 hE.1 (by omega) (Nat.le_of_ble_eq_true rfl) (Nat.le_refl _) (Nat.le_refl _) (r_here (d := d + 2) hE ht x167.1 hn x167.2 p167 hle) (fun r201 h201 hq201 => ?_)
    obtain ⟨rfl, rfl⟩ := hq201
    refine cm_bipush (pc := 204) (v := 45) dX7_readsBuyer_204 (by decide) ?_
    refine cm_icmp_ne (pc := 206) (tgt := 213) dX7_readsBuyer_206 (by decide) (fun c206 => ?_) (fun c206 => ?_)
    · exact absurd c177 c206
    · refine cm_iconst (pc := 209) (v := 4) dX7_readsBuyer_209 (by decide) ?_
      refine cm_goto (pc := 210) (tgt := 221) dX7_readsBuyer_210 (by decide) ?_
      refine mk_putE (pc := 221) (6 + A.2.2.1) dX7_readsBuyer_221 hE.a9 rfl (by omega) (by decide) ?_
      refine cm_mkG (fun G221 e221 f221 => ?_)
      have K221 : uFr G167 G221 := uFr.fc (by decide) (by omega) e221 f221
      have x221 := x167.fr K221
      have p221 : G221 0 21 = nI (pos + 1) := by rw [e221 0 (by decide)]; exact p167
      refine cm_aload0 (pc := 222) dX7_readsBuyer_222 ?_
      refine cm_dup (pc := 223) dX7_readsBuyer_223 rfl ?_
      refine mk_fld (pc := 224) flX7_118 dX7_readsBuyer_224 hE.1 ?_
      rw [p221]
      refine cm_iconst (pc := 227) (v := 1) dX7_readsBuyer_227 (by decide) ?_
      refine cm_iadd (pc := 228) dX7_readsBuyer_228 ?_
      rw [nI_1]
      refine mk_set (pc := 229) fpX7_118 dX7_readsBuyer_229 hE.1 ?_
      refine cm_mkG (fun G229 e229 f229 => ?_)
      have K229 : uFr G221 G229 := uFr.f0 (Or.inl rfl) e229 f229
      have x229 := x221.fr K229
      have p229 : G229 0 21 = nI (pos + 1 + 1) := by rw [f229]; exact pk_us
      refine cm_aload0 (pc := 232) dX7_readsBuyer_232 ?_
      refine cm_dup (pc := 233) dX7_readsBuyer_233 rfl ?_
      refine mk_fld (pc := 234) flX7_130 dX7_readsBuyer_234 hE.1 ?_
      rw [show G229 0 23 = nI A.2.2.1 by rw [f229, pk_un (by decide), e221 _ (by decide), f167, pk_un (by decide), e159 _ (by decide)]; exact hA.1.2.1]
      refine cm_iconst (pc := 237) (v := 1) dX7_readsBuyer_237 (by decide) ?_
      refine cm_iadd (pc := 238) dX7_readsBuyer_238 ?_
      rw [nI_1]
      refine mk_set (pc := 239) fpX7_130 dX7_readsBuyer_239 hE.1 ?_
      refine cm_mkG (fun G239 e239 f239 => ?_)
      refine cm_iconst (pc := 242) (v := 1) dX7_readsBuyer_242 (by decide) ?_
      have hlt2 := pC_eq q45 (by decide)
      exact cm_zret (pc := 243) dX7_readsBuyer_243 rfl rfl ⟨G239, rfl, (((K159.trans K167).trans K221).trans K229).trans (uFr.f0 (Or.inr (Or.inr (Or.inl rfl))) e239 f239), by
        unfold uTl
        rw [if_pos q45]
        refine ⟨rfl, by rw [f239, pk_un (by decide)]; exact p229, by show pos + 1 + 1 ≤ n; omega, ⟨⟨?_, ?_, ?_, hA.1.2.2.2.1, by show A.2.2.1 + 1 ≤ 6; omega⟩, fun k hk => ?_, fun i hi => ?_⟩⟩
        · rw [f239, pk_un (by decide), f229, pk_un (by decide), e221 _ (by decide), f167, pk_un (by decide), e159 _ (by decide)]; exact hA.1.1
        · rw [f239, pk_us]
        · rw [f239, pk_un (by decide), f229, pk_un (by decide), e221 _ (by decide), f167, pk_un (by decide), e159 _ (by decide)]; exact hA.1.2.2.1
        · rw [e239 _ (by decide), e239 _ (by decide), e239 _ (by decide), e229 _ (by decide), e229 _ (by decide), e229 _ (by decide), e221 _ (by decide), e221 _ (by decide), e221 _ (by decide), e167 _ (by decide), e167 _ (by decide), e167 _ (by decide), e159 _ (by decide), e159 _ (by decide), e159 _ (by decide)]; exact hA.2.1 k hk
        · rw [e239 _ (by decide), e239 _ (by decide), e239 _ (by decide), e229 _ (by decide), e229 _ (by decide), e229 _ (by decide), e221 7 (by decide), e221 8 (by decide), f221, e167 7 (by decide), e167 8 (by decide), e167 9 (by decide), e159 7 (by decide), f159, e159 9 (by decide)]
          have hi2 : i < A.2.2.1 + 1 := hi
          show _ = (pSet A.2.2.2 A.2.2.1 _ i).1 ∧ _ = (pSet A.2.2.2 A.2.2.1 _ i).2.1 ∧ _ = (pSet A.2.2.2 A.2.2.1 _ i).2.2
          unfold pSet upd
          by_cases q9 : i = A.2.2.1
          · subst q9; simp only [if_true]; exact ⟨hk, by trivial, by trivial⟩
          · rw [if_neg q9, if_neg (by omega), if_neg (by omega)]; exact hA.2.2 i (by omega)⟩
  · have q45 : ¬ pC f n (pos + 1) = 45 := fun w => c177 ((pD_eq (by decide) (by decide)).mpr w)
    refine cm_aload0 (pc := 180) dX7_readsBuyer_180 ?_
    refine cm_iload1 (pc := 181) dX7_readsBuyer_181 ?_
    refine cm_bipush (pc := 182) (v := 48) dX7_readsBuyer_182 (by decide) ?_
    refine cm_bipush (pc := 184) (v := 51) dX7_readsBuyer_184 (by decide) ?_
    refine cm_V3 (pc := 186) mX7_isHere_v mlX7_124 dX7_readsBuyer_186 hE.1 (by omega) (Nat.le_of_ble_eq_true rfl) (Nat.le_refl _) (Nat.le_refl _) (r_isHere (d := d + 1) hE ht x167.1 hn x167.2 p167 hle) (fun r186 h186 hq186 => ?_)
    obtain ⟨rfl, rfl⟩ := hq186
    rw [pD_bt (by decide)]
    refine cm_ifneB (pc := 189) (tgt := 194) dX7_readsBuyer_189 (by decide) (fun c189 => ?_) (fun c189 => ?_)
    · refine cm_aload0 (pc := 194) dX7_readsBuyer_194 ?_
      refine cm_getR (pc := 195) flX7_34 dX7_readsBuyer_195 hE.1 hE.r13 ?_
      refine cm_iload3 (pc := 198) dX7_readsBuyer_198 ?_
      refine cm_aload0 (pc := 199) dX7_readsBuyer_199 ?_
      refine cm_iload1 (pc := 200) dX7_readsBuyer_200 ?_
      refine cm_V1 (pc := 201) mX7_here_v mlX7_121 dX7_readsBuyer_201 hE.1 (by omega) (Nat.le_of_ble_eq_true rfl) (Nat.le_refl _) (Nat.le_refl _) (r_here (d := d + 2) hE ht x167.1 hn x167.2 p167 hle) (fun r201 h201 hq201 => ?_)
      obtain ⟨rfl, rfl⟩ := hq201
      refine cm_bipush (pc := 204) (v := 45) dX7_readsBuyer_204 (by decide) ?_
      refine cm_icmp_ne (pc := 206) (tgt := 213) dX7_readsBuyer_206 (by decide) (fun c206 => ?_) (fun c206 => ?_)
      · refine cm_aload0 (pc := 213) dX7_readsBuyer_213 ?_
        refine cm_iload1 (pc := 214) dX7_readsBuyer_214 ?_
        refine cm_V1 (pc := 215) mX7_here_v mlX7_121 dX7_readsBuyer_215 hE.1 (by omega) (Nat.le_of_ble_eq_true rfl) (Nat.le_refl _) (Nat.le_refl _) (r_here (d := d + 2) hE ht x167.1 hn x167.2 p167 hle) (fun r215 h215 hq215 => ?_)
        obtain ⟨rfl, rfl⟩ := hq215
        rw [pD_in (pC_in c189 (by decide))]
        refine cm_bipush (pc := 218) (v := 48) dX7_readsBuyer_218 (by decide) ?_
        refine cm_isub (pc := 220) dX7_readsBuyer_220 ?_
        refine mk_putE (pc := 221) (6 + A.2.2.1) dX7_readsBuyer_221 hE.a9 rfl (by omega) (by decide) ?_
        refine cm_mkG (fun G221 e221 f221 => ?_)
        have K221 : uFr G167 G221 := uFr.fc (by decide) (by omega) e221 f221
        have x221 := x167.fr K221
        have p221 : G221 0 21 = nI (pos + 1) := by rw [e221 0 (by decide)]; exact p167
        refine cm_aload0 (pc := 222) dX7_readsBuyer_222 ?_
        refine cm_dup (pc := 223) dX7_readsBuyer_223 rfl ?_
        refine mk_fld (pc := 224) flX7_118 dX7_readsBuyer_224 hE.1 ?_
        rw [p221]
        refine cm_iconst (pc := 227) (v := 1) dX7_readsBuyer_227 (by decide) ?_
        refine cm_iadd (pc := 228) dX7_readsBuyer_228 ?_
        rw [nI_1]
        refine mk_set (pc := 229) fpX7_118 dX7_readsBuyer_229 hE.1 ?_
        refine cm_mkG (fun G229 e229 f229 => ?_)
        have K229 : uFr G221 G229 := uFr.f0 (Or.inl rfl) e229 f229
        have x229 := x221.fr K229
        have p229 : G229 0 21 = nI (pos + 1 + 1) := by rw [f229]; exact pk_us
        refine cm_aload0 (pc := 232) dX7_readsBuyer_232 ?_
        refine cm_dup (pc := 233) dX7_readsBuyer_233 rfl ?_
        refine mk_fld (pc := 234) flX7_130 dX7_readsBuyer_234 hE.1 ?_
        rw [show G229 0 23 = nI A.2.2.1 by rw [f229, pk_un (by decide), e221 _ (by decide), f167, pk_un (by decide), e159 _ (by decide)]; exact hA.1.2.1]
        refine cm_iconst (pc := 237) (v := 1) dX7_readsBuyer_237 (by decide) ?_
        refine cm_iadd (pc := 238) dX7_readsBuyer_238 ?_
        rw [nI_1]
        refine mk_set (pc := 239) fpX7_130 dX7_readsBuyer_239 hE.1 ?_
        refine cm_mkG (fun G239 e239 f239 => ?_)
        refine cm_iconst (pc := 242) (v := 1) dX7_readsBuyer_242 (by decide) ?_
        have hlt2 := pC_in c189 (by decide)
        exact cm_zret (pc := 243) dX7_readsBuyer_243 rfl rfl ⟨G239, rfl, (((K159.trans K167).trans K221).trans K229).trans (uFr.f0 (Or.inr (Or.inr (Or.inl rfl))) e239 f239), by
          unfold uTl
          rw [if_neg q45, if_neg (by rw [c189]; decide)]
          refine ⟨rfl, by rw [f239, pk_un (by decide)]; exact p229, by show pos + 1 + 1 ≤ n; omega, ⟨⟨?_, ?_, ?_, hA.1.2.2.2.1, by show A.2.2.1 + 1 ≤ 6; omega⟩, fun k hk => ?_, fun i hi => ?_⟩⟩
          · rw [f239, pk_un (by decide), f229, pk_un (by decide), e221 _ (by decide), f167, pk_un (by decide), e159 _ (by decide)]; exact hA.1.1
          · rw [f239, pk_us]
          · rw [f239, pk_un (by decide), f229, pk_un (by decide), e221 _ (by decide), f167, pk_un (by decide), e159 _ (by decide)]; exact hA.1.2.2.1
          · rw [e239 _ (by decide), e239 _ (by decide), e239 _ (by decide), e229 _ (by decide), e229 _ (by decide), e229 _ (by decide), e221 _ (by decide), e221 _ (by decide), e221 _ (by decide), e167 _ (by decide), e167 _ (by decide), e167 _ (by decide), e159 _ (by decide), e159 _ (by decide), e159 _ (by decide)]; exact hA.2.1 k hk
          · rw [e239 _ (by decide), e239 _ (by decide), e239 _ (by decide), e229 _ (by decide), e229 _ (by decide), e229 _ (by decide), e221 7 (by decide), e221 8 (by decide), f221, e167 7 (by decide), e167 8 (by decide), e167 9 (by decide), e159 7 (by decide), f159, e159 9 (by decide)]
            have hi2 : i < A.2.2.1 + 1 := hi
            show _ = (pSet A.2.2.2 A.2.2.1 _ i).1 ∧ _ = (pSet A.2.2.2 A.2.2.1 _ i).2.1 ∧ _ = (pSet A.2.2.2 A.2.2.1 _ i).2.2
            unfold pSet upd
            by_cases q9 : i = A.2.2.1
            · subst q9; simp only [if_true]; exact ⟨hk, by trivial, by trivial⟩
            · rw [if_neg q9, if_neg (by omega), if_neg (by omega)]; exact hA.2.2 i (by omega)⟩
      · exact absurd c206 c177
    · refine cm_iconst (pc := 192) (v := 0) dX7_readsBuyer_192 (by decide) ?_
      exact cm_zret (pc := 193) dX7_readsBuyer_193 rfl rfl ⟨G167, rfl, K159.trans K167, by unfold uTl; rw [if_neg q45, if_pos c189]; exact ⟨rfl, p167, hle⟩⟩
set_option maxRecDepth 20000 in
theorem t_rb1 (hE : cm_mdl sh hr e) {kd x far : Int32} {L : Bool} {Z : Except Nat (Nat × pA)} (ht : t < 4) (hx : uTx u t n f) (hn : n ≤ 80) (hp : u 0 21 = nI pos) (hle : pos + 1 ≤ n) (hA : uRep A u) (h6 : A.2.2.1 < 6) (hk : u 7 (6 + A.2.2.1) = kd) (hyes : (¬ far < 1 ∧ (far ≤ A.1 ∨ L = true)) → Z = uTl (pC f n) (pos + 1) A kd x) (hno : ¬ (¬ far < 1 ∧ (far ≤ A.1 ∨ L = true)) → Z = .error pos) : cm_g D mX7_readsBuyer (d + 3) 0 0 (fun r9 h9 => ∃ v, h9 = (sh, cm_us hi e v, hl, hr) ∧ uFr u v ∧ uOut n v r9 (Z)) 0 0 130 [some (.ref e), some (.int (nI t)), some (.int kd), some (.int (nI (6 + A.2.2.1))), some (.int x), some (.int far), some (.int (cm_bi L))] [] (sh, cm_us hi e u, hl, hr) := by
  refine cm_iload5 (pc := 130) dX7_readsBuyer_130 ?_
  refine cm_iconst (pc := 132) (v := 1) dX7_readsBuyer_132 (by decide) ?_
  refine cm_icmp_lt (pc := 133) (tgt := 150) dX7_readsBuyer_133 (by decide) (fun c133 => ?_) (fun c133 => ?_)
  · refine cm_iconst (pc := 150) (v := 0) dX7_readsBuyer_150 (by decide) ?_
    exact cm_zret (pc := 151) dX7_readsBuyer_151 rfl rfl ⟨u, rfl, uFr.refl, by rw [hno (fun w => w.1 c133)]; exact ⟨rfl, hp, by omega⟩⟩
  · refine cm_iload5 (pc := 136) dX7_readsBuyer_136 ?_
    refine cm_aload0 (pc := 138) dX7_readsBuyer_138 ?_
    refine mk_fld (pc := 139) flX7_127 dX7_readsBuyer_139 hE.1 ?_
    rw [hA.1.1]
    refine cm_icmp_le (pc := 142) (tgt := 152) dX7_readsBuyer_142 (by decide) (fun c142 => ?_) (fun c142 => ?_)
    · first
        | (rw [hyes ⟨c133, Or.inl c142⟩]; exact t_rb2 hE ht hx hn hp hle hA h6 hk)
        | (rw [hyes ⟨c133, Or.inr c147⟩]; exact t_rb2 hE ht hx hn hp hle hA h6 hk)
    · refine cm_iload6 (pc := 145) dX7_readsBuyer_145 ?_
      refine cm_ifneB (pc := 147) (tgt := 152) dX7_readsBuyer_147 (by decide) (fun c147 => ?_) (fun c147 => ?_)
      · first
          | (rw [hyes ⟨c133, Or.inl c142⟩]; exact t_rb2 hE ht hx hn hp hle hA h6 hk)
          | (rw [hyes ⟨c133, Or.inr c147⟩]; exact t_rb2 hE ht hx hn hp hle hA h6 hk)
      · refine cm_iconst (pc := 150) (v := 0) dX7_readsBuyer_150 (by decide) ?_
        exact cm_zret (pc := 151) dX7_readsBuyer_151 rfl rfl ⟨u, rfl, uFr.refl, by rw [hno (fun w => w.2.elim (fun w => c142 w) (fun w => by rw [c147] at w; cases w))]; exact ⟨rfl, hp, by omega⟩⟩
set_option maxHeartbeats 2000000 in
set_option maxRecDepth 20000 in
theorem r_readsBuyer (hE : cm_mdl sh hr e) (ht : t < 4) (hx : uTx u t n f) (hn : n ≤ 80) (hp : u 0 21 = nI pos) (hlt : pos < n) (hA : uRep A u) (hok : aOk A) (h1A : 1 ≤ A.1.toInt) : cm_ct D mX7_readsBuyer (d + 3) 0 0 [.ref e, .int (nI t)] (sh, cm_us hi e u, hl, hr) (fun r9 h9 => ∃ v, h9 = (sh, cm_us hi e v, hl, hr) ∧ uFr u v ∧ uOut n v r9 (pBuyer (pC f n) pos A)) := by
  refine cm_ct_of (ls := [some (.ref e), some (.int (nI t)), none, none, none, none, none]) 5 (by decide +kernel) rfl rfl ?_
  refine cm_aload0 (pc := 0) dX7_readsBuyer_0 ?_
  refine cm_iload1 (pc := 1) dX7_readsBuyer_1 ?_
  refine cm_V1 (pc := 2) mX7_here_v mlX7_121 dX7_readsBuyer_2 hE.1 (by omega) (Nat.le_of_ble_eq_true rfl) (Nat.le_refl _) (Nat.le_refl _) (r_here (d := d + 2) hE ht hx.1 hn hx.2 hp (by omega)) (fun r2 h2 hq2 => ?_)
  obtain ⟨rfl, rfl⟩ := hq2
  rw [pD_in hlt]
  refine cm_S1 (pc := 5) mX7_kindOf_s mlX7_136 dX7_readsBuyer_5 (by omega) (Nat.le_of_ble_eq_true rfl) (Nat.le_refl _) (Nat.le_refl _) (r_kindOf (d := d + 2)) (fun r5 h5 hq5 => ?_)
  obtain ⟨rfl, rfl⟩ := hq5
  refine cm_istore2 (pc := 8) dX7_readsBuyer_8 (by decide) rfl ?_
  refine cm_iload2 (pc := 9) dX7_readsBuyer_9 ?_
  refine cm_bipush (pc := 10) (v := -9) dX7_readsBuyer_10 (by decide) ?_
  refine cm_icmp_eq (pc := 12) (tgt := 24) dX7_readsBuyer_12 (by decide) (fun c12 => ?_) (fun c12 => ?_)
  · refine cm_iconst (pc := 24) (v := 0) dX7_readsBuyer_24 (by decide) ?_
    exact cm_zret (pc := 25) dX7_readsBuyer_25 rfl rfl ⟨u, rfl, uFr.refl, by unfold pBuyer; rw [if_pos (Or.inl c12)]; exact ⟨rfl, hp, by omega⟩⟩
  · refine cm_aload0 (pc := 15) dX7_readsBuyer_15 ?_
    refine mk_fld (pc := 16) flX7_130 dX7_readsBuyer_16 hE.1 ?_
    rw [hA.1.2.1]
    refine cm_bipush (pc := 19) (v := 6) dX7_readsBuyer_19 (by decide) ?_
    refine cm_icmp_ne (pc := 21) (tgt := 26) dX7_readsBuyer_21 (by decide) (fun c21 => ?_) (fun c21 => ?_)
    · have h6 : A.2.2.1 < 6 := by
        have h1 := hA.1.2.2.2.2
        have h2 : ¬ A.2.2.1 = 6 := fun w => c21 (by rw [w]; rfl)
        omega
      have h09 : ¬ (pKind (pC f n pos) = -9 ∨ 6 ≤ A.2.2.1) := fun w => w.elim c12 (fun w => by omega)
      refine cm_bipush (pc := 26) (v := 6) dX7_readsBuyer_26 (by decide) ?_
      refine cm_aload0 (pc := 28) dX7_readsBuyer_28 ?_
      refine mk_fld (pc := 29) flX7_130 dX7_readsBuyer_29 hE.1 ?_
      rw [hA.1.2.1]
      refine cm_iadd (pc := 32) dX7_readsBuyer_32 ?_
      rw [(show (6 : Int32) + nI A.2.2.1 = nI (6 + A.2.2.1) by rw [show (6 : Int32) = nI 6 from rfl, nI_add])]
      refine cm_istore3 (pc := 33) dX7_readsBuyer_33 (by decide) rfl ?_
      refine cm_aload0 (pc := 34) dX7_readsBuyer_34 ?_
      refine cm_getR (pc := 35) flX7_28 dX7_readsBuyer_35 hE.1 hE.r11 ?_
      refine cm_iload3 (pc := 38) dX7_readsBuyer_38 ?_
      refine cm_iload2 (pc := 39) dX7_readsBuyer_39 ?_
      refine mk_putE (pc := 40) (6 + A.2.2.1) dX7_readsBuyer_40 hE.a7 rfl (by omega) (by decide) ?_
      refine cm_mkG (fun G40 e40 f40 => ?_)
      have K40 : uFr u G40 := uFr.fc (by decide) (by omega) e40 f40
      have x40 := hx.fr K40
      have p40 : G40 0 21 = nI (pos) := by rw [e40 0 (by decide)]; exact hp
      refine cm_aload0 (pc := 41) dX7_readsBuyer_41 ?_
      refine cm_dup (pc := 42) dX7_readsBuyer_42 rfl ?_
      refine mk_fld (pc := 43) flX7_118 dX7_readsBuyer_43 hE.1 ?_
      rw [p40]
      refine cm_iconst (pc := 46) (v := 1) dX7_readsBuyer_46 (by decide) ?_
      refine cm_iadd (pc := 47) dX7_readsBuyer_47 ?_
      rw [nI_1]
      refine mk_set (pc := 48) fpX7_118 dX7_readsBuyer_48 hE.1 ?_
      refine cm_mkG (fun G48 e48 f48 => ?_)
      have K48 : uFr G40 G48 := uFr.f0 (Or.inl rfl) e48 f48
      have x48 := x40.fr K48
      have p48 : G48 0 21 = nI (pos + 1) := by rw [f48]; exact pk_us
      have hA48 : uRep A G48 := by
        refine ⟨⟨by rw [f48, pk_un (by decide), e40 _ (by decide)]; exact hA.1.1, by rw [f48, pk_un (by decide), e40 _ (by decide)]; exact hA.1.2.1, by rw [f48, pk_un (by decide), e40 _ (by decide)]; exact hA.1.2.2.1, hA.1.2.2.2⟩, fun k hk => ?_, fun i hi => ?_⟩
        · rw [e48 _ (by decide), e48 _ (by decide), e48 _ (by decide), e40 _ (by decide), e40 _ (by decide), e40 _ (by decide)]; exact hA.2.1 k hk
        · rw [e48 _ (by decide), e48 _ (by decide), e48 _ (by decide), f40, e40 8 (by decide), e40 9 (by decide), pk_un (show 6 + i ≠ 6 + A.2.2.1 by omega)]; exact hA.2.2 i hi
      refine cm_aload0 (pc := 51) dX7_readsBuyer_51 ?_
      refine cm_iload1 (pc := 52) dX7_readsBuyer_52 ?_
      refine cm_bipush (pc := 53) (v := 65) dX7_readsBuyer_53 (by decide) ?_
      refine cm_bipush (pc := 55) (v := 84) dX7_readsBuyer_55 (by decide) ?_
      refine cm_V3 (pc := 57) mX7_isHere_v mlX7_124 dX7_readsBuyer_57 hE.1 (by omega) (Nat.le_of_ble_eq_true rfl) (Nat.le_refl _) (Nat.le_refl _) (r_isHere (d := d + 1) hE ht x48.1 hn x48.2 p48 (by omega)) (fun r57 h57 hq57 => ?_)
      obtain ⟨rfl, rfl⟩ := hq57
      rw [pD_bt (by decide)]
      refine cm_ifneB (pc := 60) (tgt := 65) dX7_readsBuyer_60 (by decide) (fun c60 => ?_) (fun c60 => ?_)
      · refine cm_aload0 (pc := 65) dX7_readsBuyer_65 ?_
        refine cm_iload1 (pc := 66) dX7_readsBuyer_66 ?_
        have L1 := pC_in c60 (by decide)
        refine cm_V1 (pc := 67) mX7_here_v mlX7_121 dX7_readsBuyer_67 hE.1 (by omega) (Nat.le_of_ble_eq_true rfl) (Nat.le_refl _) (Nat.le_refl _) (r_here (d := d + 2) hE ht x48.1 hn x48.2 p48 (by omega)) (fun r67 h67 hq67 => ?_)
        obtain ⟨rfl, rfl⟩ := hq67
        rw [pD_in L1]
        refine cm_bipush (pc := 70) (v := 65) dX7_readsBuyer_70 (by decide) ?_
        refine cm_isub (pc := 72) dX7_readsBuyer_72 ?_
        refine cm_istore4 (pc := 73) dX7_readsBuyer_73 (by decide) rfl ?_
        refine cm_aload0 (pc := 75) dX7_readsBuyer_75 ?_
        refine mk_fld (pc := 76) flX7_130 dX7_readsBuyer_76 hE.1 ?_
        rw [hA48.1.2.1]
        refine cm_if_ne (pc := 79) (tgt := 86) dX7_readsBuyer_79 (by decide) (fun c79 => ?_) (fun c79 => ?_)
        · have h01 : 0 < A.2.2.1 := by
            rcases Nat.eq_zero_or_pos A.2.2.1 with w | w
            · rw [w] at c79; exact absurd rfl c79
            · exact w
          refine cm_iload4 (pc := 86) dX7_readsBuyer_86 ?_
          refine cm_aload0 (pc := 88) dX7_readsBuyer_88 ?_
          refine cm_getR (pc := 89) flX7_31 dX7_readsBuyer_89 hE.1 hE.r12 ?_
          refine cm_iload3 (pc := 92) dX7_readsBuyer_92 ?_
          refine cm_iconst (pc := 93) (v := 1) dX7_readsBuyer_93 (by decide) ?_
          refine cm_isub (pc := 94) dX7_readsBuyer_94 ?_
          rw [show nI (6 + A.2.2.1) - 1 = nI (6 + (A.2.2.1 - 1)) by
            have := nI_pred (6 + (A.2.2.1 - 1))
            rw [show 6 + (A.2.2.1 - 1) + 1 = 6 + A.2.2.1 by omega] at this
            exact this]
          refine mk_getE (pc := 95) (6 + (A.2.2.1 - 1)) dX7_readsBuyer_95 hE.a8 rfl (by omega) (by decide) ?_
          rw [(hA48.2.2 (A.2.2.1 - 1) (by omega)).2.1]
          refine cm_isub (pc := 96) dX7_readsBuyer_96 ?_
          refine cm_istore5 (pc := 97) dX7_readsBuyer_97 (by decide) rfl ?_
          refine cm_aload0 (pc := 99) dX7_readsBuyer_99 ?_
          refine mk_fld (pc := 100) flX7_130 dX7_readsBuyer_100 hE.1 ?_
          rw [hA48.1.2.1]
          refine cm_if_le (pc := 103) (tgt := 127) dX7_readsBuyer_103 (by decide) (fun c103 => ?_) (fun c103 => ?_)
          · exact absurd (show nI A.2.2.1 ≤ 0 from c103) (nI_nle h01 (by omega))
          · refine cm_iload2 (pc := 106) dX7_readsBuyer_106 ?_
            refine cm_iconst (pc := 107) (v := 4) dX7_readsBuyer_107 (by decide) ?_
            refine cm_icmp_eq (pc := 108) (tgt := 123) dX7_readsBuyer_108 (by decide) (fun c108 => ?_) (fun c108 => ?_)
            · refine cm_iconst (pc := 123) (v := 1) dX7_readsBuyer_123 (by decide) ?_
              refine cm_goto (pc := 124) (tgt := 128) dX7_readsBuyer_124 (by decide) ?_
              refine cm_istore6 (pc := 128) dX7_readsBuyer_128 (by decide) rfl ?_
              have hg := pBt_s c60 (by decide) (by decide)
              have e65 : (65 : Int32).toInt = 65 := by decide
              have e84 : (84 : Int32).toInt = 84 := by decide
              rw [e65, e84] at hg
              have hs := (hok.2.1 (A.2.2.1 - 1) (by omega)).1
              have hcan : pCan A (pKind (pC f n pos)) (pC f n (pos + 1) - 65) = true ↔ (¬ pC f n (pos + 1) - 65 - (A.2.2.2 (A.2.2.1 - 1)).2.1 < 1 ∧ (pC f n (pos + 1) - 65 - (A.2.2.2 (A.2.2.1 - 1)).2.1 ≤ A.1 ∨ true = true)) := by
                unfold pCan
                rw [if_neg (by omega), if_pos (Or.inr c108)]
                generalize pC f n (pos + 1) - 65 = X at *
                generalize (A.2.2.2 (A.2.2.1 - 1)).2.1 = S at *
                simp only [Bool.and_eq_true, Bool.not_eq_true', decide_eq_false_iff_not, Int32.lt_iff_toInt_lt, Int32.le_iff_toInt_le, zsub (show -2147483648 ≤ X.toInt - S.toInt ∧ X.toInt - S.toInt < 2147483648 by omega)]
                have e1 : (1 : Int32).toInt = 1 := by decide
                have z0 : (0 : Int32).toInt = 0 := by decide
                have e20 : (20 : Int32).toInt = 20 := by decide
                simp only [e1, z0, e20]
                have := hok.2.2.2.1
                constructor
                · intro w; simp <;> omega
                · intro w; simp at w; omega
              have k9 := K40.trans K48
              refine cm_g_imp (fun r9 h9 q => ?_) (t_rb1 (D := D) (d := d) (sh := sh) (hi := hi) (hl := hl) (hr := hr) hE (L := true) ht x48 hn p48 L1 hA48 h6 (show G48 7 (6 + A.2.2.1) = pKind (pC f n pos) by rw [e48 7 (by decide), f40]; exact pk_us) (Z := pBuyer (pC f n) pos A) (fun w => pBuyer_tl h09 c60 (hcan.mpr w)) (fun w => by
                unfold pBuyer
                rw [if_neg h09, if_neg (by rw [c60]; decide), if_pos (by
                  cases hq : pCan A (pKind (pC f n pos)) (pC f n (pos + 1) - 65) with
                  | false => rfl
                  | true => exact absurd (hcan.mp hq) w)]))
              obtain ⟨v, q1, q2, q3⟩ := q
              exact ⟨v, q1, k9.trans q2, q3⟩
            · refine cm_aload0 (pc := 111) dX7_readsBuyer_111 ?_
              refine cm_getR (pc := 112) flX7_28 dX7_readsBuyer_112 hE.1 hE.r11 ?_
              refine cm_iload3 (pc := 115) dX7_readsBuyer_115 ?_
              refine cm_iconst (pc := 116) (v := 1) dX7_readsBuyer_116 (by decide) ?_
              refine cm_isub (pc := 117) dX7_readsBuyer_117 ?_
              rw [show nI (6 + A.2.2.1) - 1 = nI (6 + (A.2.2.1 - 1)) by
                have := nI_pred (6 + (A.2.2.1 - 1))
                rw [show 6 + (A.2.2.1 - 1) + 1 = 6 + A.2.2.1 by omega] at this
                exact this]
              refine mk_getE (pc := 118) (6 + (A.2.2.1 - 1)) dX7_readsBuyer_118 hE.a7 rfl (by omega) (by decide) ?_
              rw [(hA48.2.2 (A.2.2.1 - 1) (by omega)).1]
              refine cm_iconst (pc := 119) (v := 4) dX7_readsBuyer_119 (by decide) ?_
              refine cm_icmp_ne (pc := 120) (tgt := 127) dX7_readsBuyer_120 (by decide) (fun c120 => ?_) (fun c120 => ?_)
              · refine cm_iconst (pc := 127) (v := 0) dX7_readsBuyer_127 (by decide) ?_
                refine cm_istore6 (pc := 128) dX7_readsBuyer_128 (by decide) rfl ?_
                have hg := pBt_s c60 (by decide) (by decide)
                have e65 : (65 : Int32).toInt = 65 := by decide
                have e84 : (84 : Int32).toInt = 84 := by decide
                rw [e65, e84] at hg
                have hs := (hok.2.1 (A.2.2.1 - 1) (by omega)).1
                have hcan : pCan A (pKind (pC f n pos)) (pC f n (pos + 1) - 65) = true ↔ (¬ pC f n (pos + 1) - 65 - (A.2.2.2 (A.2.2.1 - 1)).2.1 < 1 ∧ (pC f n (pos + 1) - 65 - (A.2.2.2 (A.2.2.1 - 1)).2.1 ≤ A.1 ∨ false = true)) := by
                  unfold pCan
                  rw [if_neg (by omega), if_neg (fun w => w.elim (fun w => c120 w) (fun w => c108 w))]
                  generalize pC f n (pos + 1) - 65 = X at *
                  generalize (A.2.2.2 (A.2.2.1 - 1)).2.1 = S at *
                  simp only [Bool.and_eq_true, Bool.not_eq_true', decide_eq_false_iff_not, Int32.lt_iff_toInt_lt, Int32.le_iff_toInt_le, zsub (show -2147483648 ≤ X.toInt - S.toInt ∧ X.toInt - S.toInt < 2147483648 by omega)]
                  have e1 : (1 : Int32).toInt = 1 := by decide
                  have z0 : (0 : Int32).toInt = 0 := by decide
                  have e20 : (20 : Int32).toInt = 20 := by decide
                  simp only [e1, z0, e20]
                  have := hok.2.2.2.1
                  constructor
                  · intro w; simp <;> omega
                  · intro w; simp at w; omega
                have k9 := K40.trans K48
                refine cm_g_imp (fun r9 h9 q => ?_) (t_rb1 (D := D) (d := d) (sh := sh) (hi := hi) (hl := hl) (hr := hr) hE (L := false) ht x48 hn p48 L1 hA48 h6 (show G48 7 (6 + A.2.2.1) = pKind (pC f n pos) by rw [e48 7 (by decide), f40]; exact pk_us) (Z := pBuyer (pC f n) pos A) (fun w => pBuyer_tl h09 c60 (hcan.mpr w)) (fun w => by
                  unfold pBuyer
                  rw [if_neg h09, if_neg (by rw [c60]; decide), if_pos (by
                    cases hq : pCan A (pKind (pC f n pos)) (pC f n (pos + 1) - 65) with
                    | false => rfl
                    | true => exact absurd (hcan.mp hq) w)]))
                obtain ⟨v, q1, q2, q3⟩ := q
                exact ⟨v, q1, k9.trans q2, q3⟩
              · refine cm_iconst (pc := 123) (v := 1) dX7_readsBuyer_123 (by decide) ?_
                refine cm_goto (pc := 124) (tgt := 128) dX7_readsBuyer_124 (by decide) ?_
                refine cm_istore6 (pc := 128) dX7_readsBuyer_128 (by decide) rfl ?_
                have hg := pBt_s c60 (by decide) (by decide)
                have e65 : (65 : Int32).toInt = 65 := by decide
                have e84 : (84 : Int32).toInt = 84 := by decide
                rw [e65, e84] at hg
                have hs := (hok.2.1 (A.2.2.1 - 1) (by omega)).1
                have hcan : pCan A (pKind (pC f n pos)) (pC f n (pos + 1) - 65) = true ↔ (¬ pC f n (pos + 1) - 65 - (A.2.2.2 (A.2.2.1 - 1)).2.1 < 1 ∧ (pC f n (pos + 1) - 65 - (A.2.2.2 (A.2.2.1 - 1)).2.1 ≤ A.1 ∨ true = true)) := by
                  unfold pCan
                  rw [if_neg (by omega), if_pos (Or.inl c120)]
                  generalize pC f n (pos + 1) - 65 = X at *
                  generalize (A.2.2.2 (A.2.2.1 - 1)).2.1 = S at *
                  simp only [Bool.and_eq_true, Bool.not_eq_true', decide_eq_false_iff_not, Int32.lt_iff_toInt_lt, Int32.le_iff_toInt_le, zsub (show -2147483648 ≤ X.toInt - S.toInt ∧ X.toInt - S.toInt < 2147483648 by omega)]
                  have e1 : (1 : Int32).toInt = 1 := by decide
                  have z0 : (0 : Int32).toInt = 0 := by decide
                  have e20 : (20 : Int32).toInt = 20 := by decide
                  simp only [e1, z0, e20]
                  have := hok.2.2.2.1
                  constructor
                  · intro w; simp <;> omega
                  · intro w; simp at w; omega
                have k9 := K40.trans K48
                refine cm_g_imp (fun r9 h9 q => ?_) (t_rb1 (D := D) (d := d) (sh := sh) (hi := hi) (hl := hl) (hr := hr) hE (L := true) ht x48 hn p48 L1 hA48 h6 (show G48 7 (6 + A.2.2.1) = pKind (pC f n pos) by rw [e48 7 (by decide), f40]; exact pk_us) (Z := pBuyer (pC f n) pos A) (fun w => pBuyer_tl h09 c60 (hcan.mpr w)) (fun w => by
                  unfold pBuyer
                  rw [if_neg h09, if_neg (by rw [c60]; decide), if_pos (by
                    cases hq : pCan A (pKind (pC f n pos)) (pC f n (pos + 1) - 65) with
                    | false => rfl
                    | true => exact absurd (hcan.mp hq) w)]))
                obtain ⟨v, q1, q2, q3⟩ := q
                exact ⟨v, q1, k9.trans q2, q3⟩
        · have h00 : A.2.2.1 = 0 := by
            rcases Nat.eq_zero_or_pos A.2.2.1 with w | w
            · exact w
            · exact absurd c79 (nI_ne0 w (by omega))
          refine cm_iconst (pc := 82) (v := 1) dX7_readsBuyer_82 (by decide) ?_
          refine cm_goto (pc := 83) (tgt := 97) dX7_readsBuyer_83 (by decide) ?_
          refine cm_istore5 (pc := 97) dX7_readsBuyer_97 (by decide) rfl ?_
          refine cm_aload0 (pc := 99) dX7_readsBuyer_99 ?_
          refine mk_fld (pc := 100) flX7_130 dX7_readsBuyer_100 hE.1 ?_
          rw [hA48.1.2.1]
          refine cm_if_le (pc := 103) (tgt := 127) dX7_readsBuyer_103 (by decide) (fun c103 => ?_) (fun c103 => ?_)
          · refine cm_iconst (pc := 127) (v := 0) dX7_readsBuyer_127 (by decide) ?_
            refine cm_istore6 (pc := 128) dX7_readsBuyer_128 (by decide) rfl ?_
            have hcan : pCan A (pKind (pC f n pos)) (pC f n (pos + 1) - 65) = true ↔ (¬ (1 : Int32) < 1 ∧ ((1 : Int32) ≤ A.1 ∨ false = true)) := by
              unfold pCan
              rw [if_pos h00]
              have e1 : (1 : Int32).toInt = 1 := by decide
              exact ⟨fun _ => ⟨by decide, Or.inl (by rw [Int32.le_iff_toInt_le, e1]; exact h1A)⟩, fun _ => rfl⟩
            have k9 := K40.trans K48
            refine cm_g_imp (fun r9 h9 q => ?_) (t_rb1 (D := D) (d := d) (sh := sh) (hi := hi) (hl := hl) (hr := hr) hE (L := false) ht x48 hn p48 L1 hA48 h6 (show G48 7 (6 + A.2.2.1) = pKind (pC f n pos) by rw [e48 7 (by decide), f40]; exact pk_us) (Z := pBuyer (pC f n) pos A) (fun w => pBuyer_tl h09 c60 (hcan.mpr w)) (fun w => by
              unfold pBuyer
              rw [if_neg h09, if_neg (by rw [c60]; decide), if_pos (by
                cases hq : pCan A (pKind (pC f n pos)) (pC f n (pos + 1) - 65) with
                | false => rfl
                | true => exact absurd (hcan.mp hq) w)]))
            obtain ⟨v, q1, q2, q3⟩ := q
            exact ⟨v, q1, k9.trans q2, q3⟩
          · exact absurd (by rw [h00]; decide) c103
      · refine cm_iconst (pc := 63) (v := 0) dX7_readsBuyer_63 (by decide) ?_
        exact cm_zret (pc := 64) dX7_readsBuyer_64 rfl rfl ⟨G48, rfl, K40.trans K48, by unfold pBuyer; rw [if_neg h09, if_pos c60]; exact ⟨rfl, p48, by omega⟩⟩
    · refine cm_iconst (pc := 24) (v := 0) dX7_readsBuyer_24 (by decide) ?_
      exact cm_zret (pc := 25) dX7_readsBuyer_25 rfl rfl ⟨u, rfl, uFr.refl, by unfold pBuyer; rw [if_pos (Or.inr (by have := nI_6 c21 (by have := hA.1.2.2.2.2; omega); omega))]; exact ⟨rfl, hp, by omega⟩⟩
theorem pRun_end {c : Nat → Int32} {n f pos : Nat} {A : pA} (h : n ≤ pos) : pRun c n f pos A = if A.1 = 0 then .error n else .ok A := by
  have hp : ¬ pos < n := by omega
  cases f with
  | zero => rfl
  | succ f => simp [pRun, hp]
set_option maxRecDepth 20000 in
set_option maxHeartbeats 2000000 in
theorem l_goes (hE : cm_mdl sh hr e) {Z : Except Nat pA} (ht : t < 4) (hn : n ≤ 80) : ∀ q (pos : Nat) (A : pA) (w9 : cm_g2), n ≤ pos + q → uFr u w9 → uTx w9 t n f → w9 0 21 = nI pos → pos ≤ n → uRep A w9 → aOk A → (A.1 = 0 ∨ 1 ≤ A.1.toInt) → Z = pRun (pC f n) n q pos A → cm_g D mX7_goesOn (d + 5) 0 0 (fun r9 h9 => ∃ v, h9 = (sh, cm_us hi e v, hl, hr) ∧ uFr u v ∧ (match Z with | .error q => r9 = some (.int (nI q)) ∧ q ≤ n | .ok B => r9 = some (.int (-9)) ∧ uRep B v)) 0 0 20 [some (.ref e), some (.int (nI t))] [] (sh, cm_us hi e w9, hl, hr) := by
  intro q
  induction q with
  | zero =>
    intro pos A w9 hq hfr hx hp hpn hA hok hA1 hZ
    refine cm_aload0 (pc := 20) dX7_goesOn_20 ?_
    refine mk_fld (pc := 21) flX7_118 dX7_goesOn_21 hE.1 ?_
    rw [hp]
    refine cm_aload0 (pc := 24) dX7_goesOn_24 ?_
    refine cm_getR (pc := 25) flX7_22 dX7_goesOn_25 hE.1 hE.r6 ?_
    refine cm_iload1 (pc := 28) dX7_goesOn_28 ?_
    refine mk_get (pc := 29) dX7_goesOn_29 hE.a5 (by omega) (by decide) ?_
    rw [hx.1]
    refine cm_geN (pc := 30) (tgt := 108) dX7_goesOn_30 (by decide) (by omega) (by omega) (fun c30 => ?_) (fun c30 => ?_)
    · refine cm_aload0 (pc := 108) dX7_goesOn_108 ?_
      refine mk_fld (pc := 109) flX7_127 dX7_goesOn_109 hE.1 ?_
      rw [hA.1.1]
      refine cm_if_ne (pc := 112) (tgt := 124) dX7_goesOn_112 (by decide) (fun c112 => ?_) (fun c112 => ?_)
      · have hr0 : ¬ A.1 = 0 := c112
        have hZ2 : Z = .ok A := by rw [hZ, pRun_end (by omega), if_neg hr0]
        refine cm_bipush (pc := 124) (v := -9) dX7_goesOn_124 (by decide) ?_
        exact cm_iret (pc := 126) dX7_goesOn_126 rfl ⟨w9, rfl, hfr, by rw [hZ2]; exact ⟨rfl, hA⟩⟩
      · have hr0 : A.1 = 0 := c112
        have hZ2 : Z = .error n := by rw [hZ, pRun_end (by omega), if_pos hr0]
        refine cm_aload0 (pc := 115) dX7_goesOn_115 ?_
        refine cm_getR (pc := 116) flX7_22 dX7_goesOn_116 hE.1 hE.r6 ?_
        refine cm_iload1 (pc := 119) dX7_goesOn_119 ?_
        refine mk_get (pc := 120) dX7_goesOn_120 hE.a5 (by omega) (by decide) ?_
        rw [hx.1]
        refine cm_goto (pc := 121) (tgt := 126) dX7_goesOn_121 (by decide) ?_
        exact cm_iret (pc := 126) dX7_goesOn_126 rfl ⟨w9, rfl, hfr, by rw [hZ2]; exact ⟨rfl, Nat.le_refl _⟩⟩
    · exact absurd c30 (by omega)
  | succ q ih =>
    intro pos A w9 hq hfr hx hp hpn hA hok hA1 hZ
    by_cases hend : n ≤ pos
    · have hst := 0
      refine cm_aload0 (pc := 20) dX7_goesOn_20 ?_
      refine mk_fld (pc := 21) flX7_118 dX7_goesOn_21 hE.1 ?_
      rw [hp]
      refine cm_aload0 (pc := 24) dX7_goesOn_24 ?_
      refine cm_getR (pc := 25) flX7_22 dX7_goesOn_25 hE.1 hE.r6 ?_
      refine cm_iload1 (pc := 28) dX7_goesOn_28 ?_
      refine mk_get (pc := 29) dX7_goesOn_29 hE.a5 (by omega) (by decide) ?_
      rw [hx.1]
      refine cm_geN (pc := 30) (tgt := 108) dX7_goesOn_30 (by decide) (by omega) (by omega) (fun c30 => ?_) (fun c30 => ?_)
      · refine cm_aload0 (pc := 108) dX7_goesOn_108 ?_
        refine mk_fld (pc := 109) flX7_127 dX7_goesOn_109 hE.1 ?_
        rw [hA.1.1]
        refine cm_if_ne (pc := 112) (tgt := 124) dX7_goesOn_112 (by decide) (fun c112 => ?_) (fun c112 => ?_)
        · have hr0 : ¬ A.1 = 0 := c112
          have hZ2 : Z = .ok A := by rw [hZ, pRun_end (by omega), if_neg hr0]
          refine cm_bipush (pc := 124) (v := -9) dX7_goesOn_124 (by decide) ?_
          exact cm_iret (pc := 126) dX7_goesOn_126 rfl ⟨w9, rfl, hfr, by rw [hZ2]; exact ⟨rfl, hA⟩⟩
        · have hr0 : A.1 = 0 := c112
          have hZ2 : Z = .error n := by rw [hZ, pRun_end (by omega), if_pos hr0]
          refine cm_aload0 (pc := 115) dX7_goesOn_115 ?_
          refine cm_getR (pc := 116) flX7_22 dX7_goesOn_116 hE.1 hE.r6 ?_
          refine cm_iload1 (pc := 119) dX7_goesOn_119 ?_
          refine mk_get (pc := 120) dX7_goesOn_120 hE.a5 (by omega) (by decide) ?_
          rw [hx.1]
          refine cm_goto (pc := 121) (tgt := 126) dX7_goesOn_121 (by decide) ?_
          exact cm_iret (pc := 126) dX7_goesOn_126 rfl ⟨w9, rfl, hfr, by rw [hZ2]; exact ⟨rfl, Nat.le_refl _⟩⟩
      · exact absurd c30 (by omega)
    · have hst := 0
      refine cm_aload0 (pc := 20) dX7_goesOn_20 ?_
      refine mk_fld (pc := 21) flX7_118 dX7_goesOn_21 hE.1 ?_
      rw [hp]
      refine cm_aload0 (pc := 24) dX7_goesOn_24 ?_
      refine cm_getR (pc := 25) flX7_22 dX7_goesOn_25 hE.1 hE.r6 ?_
      refine cm_iload1 (pc := 28) dX7_goesOn_28 ?_
      refine mk_get (pc := 29) dX7_goesOn_29 hE.a5 (by omega) (by decide) ?_
      rw [hx.1]
      refine cm_geN (pc := 30) (tgt := 108) dX7_goesOn_30 (by decide) (by omega) (by omega) (fun c30 => ?_) (fun c30 => ?_)
      · exact absurd c30 (by omega)
      · refine cm_aload0 (pc := 33) dX7_goesOn_33 ?_
        refine cm_iload1 (pc := 34) dX7_goesOn_34 ?_
        refine cm_V1 (pc := 35) mX7_here_v mlX7_121 dX7_goesOn_35 hE.1 (by omega) (Nat.le_of_ble_eq_true rfl) (Nat.le_refl _) (Nat.le_refl _) (r_here (d := d + 4) hE ht hx.1 hn hx.2 hp hpn) (fun r35 h35 hq35 => ?_)
        obtain ⟨rfl, rfl⟩ := hq35
        rw [pD_in c30]
        refine cm_bipush (pc := 38) (v := 32) dX7_goesOn_38 (by decide) ?_
        refine cm_icmp_ne (pc := 40) (tgt := 56) dX7_goesOn_40 (by decide) (fun c40 => ?_) (fun c40 => ?_)
        · refine cm_aload0 (pc := 56) dX7_goesOn_56 ?_
          refine mk_fld (pc := 57) flX7_127 dX7_goesOn_57 hE.1 ?_
          rw [hA.1.1]
          refine cm_if_ne (pc := 60) (tgt := 74) dX7_goesOn_60 (by decide) (fun c60 => ?_) (fun c60 => ?_)
          · have hr0 : ¬ A.1 = 0 := c60
            refine cm_aload0 (pc := 74) dX7_goesOn_74 ?_
            refine cm_iload1 (pc := 75) dX7_goesOn_75 ?_
            refine cm_V1 (pc := 76) mX7_here_v mlX7_121 dX7_goesOn_76 hE.1 (by omega) (Nat.le_of_ble_eq_true rfl) (Nat.le_refl _) (Nat.le_refl _) (r_here (d := d + 4) hE ht hx.1 hn hx.2 hp hpn) (fun r76 h76 hq76 => ?_)
            obtain ⟨rfl, rfl⟩ := hq76
            rw [pD_in c30]
            refine cm_bipush (pc := 79) (v := 111) dX7_goesOn_79 (by decide) ?_
            refine cm_icmp_ne (pc := 81) (tgt := 95) dX7_goesOn_81 (by decide) (fun c81 => ?_) (fun c81 => ?_)
            · refine cm_aload0 (pc := 95) dX7_goesOn_95 ?_
              refine cm_iload1 (pc := 96) dX7_goesOn_96 ?_
              refine cm_V1 (pc := 97) mX7_readsBuyer_v mlX7_145 dX7_goesOn_97 hE.1 (by omega) (Nat.le_of_ble_eq_true rfl) (Nat.le_refl _) (Nat.le_refl _) (r_readsBuyer (d := d + 1) hE ht hx hn hp c30 hA hok (hA1.elim (fun w => absurd w hr0) (fun w => w))) (fun r97 h97 hq97 => ?_)
              obtain ⟨v97, rfl, V9, U97⟩ := hq97
              have hlt : pos < n := c30
              have hc32 : ¬ pC f n pos = 32 := c40
              cases hq9 : pBuyer (pC f n) pos A with
              | error q9 =>
                rw [hq9] at U97
                obtain ⟨rfl, U1, U2⟩ := U97
                have hstep : pRun (pC f n) n (q + 1) pos A = .error q9 := by
                  conv => lhs; unfold pRun
                  rw [if_pos hlt, if_neg hc32, if_neg hr0, show pItem (pC f n) pos A = pBuyer (pC f n) pos A from if_neg c81, hq9]
                refine cm_ifneB (pc := 100) (tgt := 20) dX7_goesOn_100 (by decide) (fun c => by cases c) (fun _ => ?_)
                refine cm_aload0 (pc := 103) dX7_goesOn_103 ?_
                refine mk_fld (pc := 104) flX7_118 dX7_goesOn_104 hE.1 ?_
                rw [U1]
                exact cm_iret (pc := 107) dX7_goesOn_107 rfl ⟨v97, rfl, hfr.trans V9, by rw [hZ, hstep]; exact ⟨rfl, U2⟩⟩
              | ok x9 =>
                rw [hq9] at U97
                obtain ⟨rfl, U1, U2, U3⟩ := U97
                have hstep : pRun (pC f n) n (q + 1) pos A = pRun (pC f n) n q x9.1 x9.2 := by
                  conv => lhs; unfold pRun
                  rw [if_pos hlt, if_neg hc32, if_neg hr0, show pItem (pC f n) pos A = pBuyer (pC f n) pos A from if_neg c81, hq9]
                refine cm_ifneB (pc := 100) (tgt := 20) dX7_goesOn_100 (by decide) (fun _ => ?_) (fun c => by cases c)
                have hadv := pBuyer_adv hq9
                exact ih x9.1 x9.2 v97 (by omega) (hfr.trans V9) (hx.fr V9) U1 U2 U3 (pBuyer_ok hq9 hok) (hA1.elim (fun w => absurd w hr0) (fun w => Or.inr (by rw [hadv.2]; exact w))) (by rw [hZ, hstep])
            · refine cm_aload0 (pc := 84) dX7_goesOn_84 ?_
              refine cm_iload1 (pc := 85) dX7_goesOn_85 ?_
              refine cm_V1 (pc := 86) mX7_readsStall_v mlX7_142 dX7_goesOn_86 hE.1 (by omega) (Nat.le_of_ble_eq_true rfl) (Nat.le_refl _) (Nat.le_refl _) (r_readsStall (d := d + 1) hE ht hx hn hp c30 hA) (fun r86 h86 hq86 => ?_)
              obtain ⟨v86, rfl, V9, U86⟩ := hq86
              have hlt : pos < n := c30
              have hc32 : ¬ pC f n pos = 32 := c40
              cases hq9 : pStall (pC f n) pos A with
              | error q9 =>
                rw [hq9] at U86
                obtain ⟨rfl, U1, U2⟩ := U86
                have hstep : pRun (pC f n) n (q + 1) pos A = .error q9 := by
                  conv => lhs; unfold pRun
                  rw [if_pos hlt, if_neg hc32, if_neg hr0, show pItem (pC f n) pos A = pStall (pC f n) pos A from if_pos c81, hq9]
                refine cm_ifneB (pc := 89) (tgt := 20) dX7_goesOn_89 (by decide) (fun c => by cases c) (fun _ => ?_)
                refine cm_goto (pc := 92) (tgt := 103) dX7_goesOn_92 (by decide) ?_
                refine cm_aload0 (pc := 103) dX7_goesOn_103 ?_
                refine mk_fld (pc := 104) flX7_118 dX7_goesOn_104 hE.1 ?_
                rw [U1]
                exact cm_iret (pc := 107) dX7_goesOn_107 rfl ⟨v86, rfl, hfr.trans V9, by rw [hZ, hstep]; exact ⟨rfl, U2⟩⟩
              | ok x9 =>
                rw [hq9] at U86
                obtain ⟨rfl, U1, U2, U3⟩ := U86
                have hstep : pRun (pC f n) n (q + 1) pos A = pRun (pC f n) n q x9.1 x9.2 := by
                  conv => lhs; unfold pRun
                  rw [if_pos hlt, if_neg hc32, if_neg hr0, show pItem (pC f n) pos A = pStall (pC f n) pos A from if_pos c81, hq9]
                refine cm_ifneB (pc := 89) (tgt := 20) dX7_goesOn_89 (by decide) (fun _ => ?_) (fun c => by cases c)
                have hadv := pStall_adv hq9
                exact ih x9.1 x9.2 v86 (by omega) (hfr.trans V9) (hx.fr V9) U1 U2 U3 (pStall_ok hq9 hok) (hA1.elim (fun w => absurd w hr0) (fun w => Or.inr (by rw [hadv.2]; exact w))) (by rw [hZ, hstep])
          · refine cm_aload0 (pc := 63) dX7_goesOn_63 ?_
            refine cm_iload1 (pc := 64) dX7_goesOn_64 ?_
            refine cm_V1 (pc := 65) mX7_readsHead_v mlX7_139 dX7_goesOn_65 hE.1 (by omega) (Nat.le_of_ble_eq_true rfl) (Nat.le_refl _) (Nat.le_refl _) (r_readsHead (d := d + 2) hE ht hx hn hp c30 hA) (fun r65 h65 hq65 => ?_)
            obtain ⟨v65, rfl, V9, U65⟩ := hq65
            have hlt : pos < n := c30
            have hc32 : ¬ pC f n pos = 32 := c40
            cases hq9 : pHead (pC f n) pos A with
            | error q9 =>
              rw [hq9] at U65
              obtain ⟨rfl, U1, U2⟩ := U65
              have hstep : pRun (pC f n) n (q + 1) pos A = .error q9 := by
                conv => lhs; unfold pRun
                rw [if_pos hlt, if_neg hc32, if_pos c60, hq9]
              refine cm_ifneB (pc := 68) (tgt := 20) dX7_goesOn_68 (by decide) (fun c => by cases c) (fun _ => ?_)
              refine cm_goto (pc := 71) (tgt := 103) dX7_goesOn_71 (by decide) ?_
              refine cm_aload0 (pc := 103) dX7_goesOn_103 ?_
              refine mk_fld (pc := 104) flX7_118 dX7_goesOn_104 hE.1 ?_
              rw [U1]
              exact cm_iret (pc := 107) dX7_goesOn_107 rfl ⟨v65, rfl, hfr.trans V9, by rw [hZ, hstep]; exact ⟨rfl, U2⟩⟩
            | ok x9 =>
              rw [hq9] at U65
              obtain ⟨rfl, U1, U2, U3⟩ := U65
              have hstep : pRun (pC f n) n (q + 1) pos A = pRun (pC f n) n q x9.1 x9.2 := by
                conv => lhs; unfold pRun
                rw [if_pos hlt, if_neg hc32, if_pos c60, hq9]
              refine cm_ifneB (pc := 68) (tgt := 20) dX7_goesOn_68 (by decide) (fun _ => ?_) (fun c => by cases c)
              have hadv := pHead_adv hq9
              exact ih x9.1 x9.2 v65 (by omega) (hfr.trans V9) (hx.fr V9) U1 U2 U3 (pHead_ok hq9 hok) (Or.inr (by omega)) (by rw [hZ, hstep])
        · refine cm_aload0 (pc := 43) dX7_goesOn_43 ?_
          refine cm_dup (pc := 44) dX7_goesOn_44 rfl ?_
          refine mk_fld (pc := 45) flX7_118 dX7_goesOn_45 hE.1 ?_
          rw [hp]
          refine cm_iconst (pc := 48) (v := 1) dX7_goesOn_48 (by decide) ?_
          refine cm_iadd (pc := 49) dX7_goesOn_49 ?_
          rw [nI_1]
          refine mk_set (pc := 50) fpX7_118 dX7_goesOn_50 hE.1 ?_
          refine cm_mkG (fun G50 e50 f50 => ?_)
          refine cm_goto (pc := 53) (tgt := 20) dX7_goesOn_53 (by decide) ?_
          have hstep : pRun (pC f n) n (q + 1) pos A = pRun (pC f n) n q (pos + 1) A := by
            conv => lhs; unfold pRun
            rw [if_pos c30, if_pos c40]
          have V9 : uFr w9 G50 := uFr.f0 (Or.inl rfl) e50 f50
          exact ih (pos + 1) A G50 (by omega) (hfr.trans V9) (hx.fr V9) (by rw [f50]; exact pk_us) (by omega) ⟨⟨by rw [f50, pk_un (by decide)]; exact hA.1.1, by rw [f50, pk_un (by decide)]; exact hA.1.2.1, by rw [f50, pk_un (by decide)]; exact hA.1.2.2.1, hA.1.2.2.2⟩, fun k hk => by rw [e50 _ (by decide), e50 _ (by decide), e50 _ (by decide)]; exact hA.2.1 k hk, fun i hi => by rw [e50 _ (by decide), e50 _ (by decide), e50 _ (by decide)]; exact hA.2.2 i hi⟩ hok hA1 (by rw [hZ, hstep])
set_option maxRecDepth 20000 in
theorem r_goesOn (hE : cm_mdl sh hr e) (ht : t < 4) (hx : uTx u t n f) (hn : n ≤ 80) : cm_ct D mX7_goesOn (d + 5) 0 0 [.ref e, .int (nI t)] (sh, cm_us hi e u, hl, hr) (fun r9 h9 => ∃ v, h9 = (sh, cm_us hi e v, hl, hr) ∧ uFr u v ∧ (match pRun (pC f n) n n 0 pA0 with | .error q => r9 = some (.int (nI q)) ∧ q ≤ n | .ok B => r9 = some (.int (-9)) ∧ uRep B v)) := by
  refine cm_ct_of (ls := [some (.ref e), some (.int (nI t))]) 0 (by decide +kernel) rfl rfl ?_
  refine cm_aload0 (pc := 0) dX7_goesOn_0 ?_
  refine cm_iconst (pc := 1) (v := 0) dX7_goesOn_1 (by decide) ?_
  refine mk_set (pc := 2) fpX7_118 dX7_goesOn_2 hE.1 ?_
  refine cm_mkG (fun G2 e2 f2 => ?_)
  refine cm_aload0 (pc := 5) dX7_goesOn_5 ?_
  refine cm_iconst (pc := 6) (v := 0) dX7_goesOn_6 (by decide) ?_
  refine mk_set (pc := 7) fpX7_127 dX7_goesOn_7 hE.1 ?_
  refine cm_mkG (fun G7 e7 f7 => ?_)
  refine cm_aload0 (pc := 10) dX7_goesOn_10 ?_
  refine cm_iconst (pc := 11) (v := 0) dX7_goesOn_11 (by decide) ?_
  refine mk_set (pc := 12) fpX7_130 dX7_goesOn_12 hE.1 ?_
  refine cm_mkG (fun G12 e12 f12 => ?_)
  refine cm_aload0 (pc := 15) dX7_goesOn_15 ?_
  refine cm_iconst (pc := 16) (v := 0) dX7_goesOn_16 (by decide) ?_
  refine mk_set (pc := 17) fpX7_133 dX7_goesOn_17 hE.1 ?_
  refine cm_mkG (fun G17 e17 f17 => ?_)
  have V9 : uFr u G17 := (((uFr.f0 (Or.inl rfl) e2 f2).trans (uFr.f0 (Or.inr (Or.inl rfl)) e7 f7)).trans (uFr.f0 (Or.inr (Or.inr (Or.inl rfl))) e12 f12)).trans (uFr.f0 (Or.inr (Or.inr (Or.inr rfl))) e17 f17)
  exact l_goes hE ht hn n 0 pA0 G17 (by omega) V9 (hx.fr V9) (by rw [f17, pk_un (by decide), f12, pk_un (by decide), f7, pk_un (by decide), f2, pk_us]; rfl) (Nat.zero_le _) ⟨⟨by rw [f17, pk_un (by decide), f12, pk_un (by decide), f7, pk_us]; rfl, by rw [f17, pk_un (by decide), f12, pk_us]; rfl, by rw [f17, pk_us]; rfl, Nat.zero_le _, Nat.zero_le _⟩, fun k hk => absurd hk (Nat.not_lt_zero _), fun k hk => absurd hk (Nat.not_lt_zero _)⟩ pA0_ok (Or.inl rfl) rfl
end UM
