/-! PART ucalls4: the reference's calls: kept markets, what will be -/
def uKp (u : cm_g2) (j : Nat) : cm_g2 := va_up (uWr (va_up u 16 (upd (u 16) (32 * j) (u 0 19))) 16 (32 * j + 1)) 16 (fun x => if 32 * j + 25 ≤ x ∧ x < 32 * j + 25 + 6 then u 13 (x - (32 * j + 25)) else uWr (va_up u 16 (upd (u 16) (32 * j) (u 0 19))) 16 (32 * j + 1) 16 x)
def uKeep (u : cm_g2) (k : Int32) : Int32 × cm_g2 := if uIn k 0 2 = false then (-1, u) else if u 0 9 = 0 then (-4, u) else (u 0 19, uKp u k.toNatClampNeg)
def uLd (u : cm_g2) (j : Nat) : cm_g2 := va_up (uRd (va_up u 0 (upd (upd (u 0) 19 (u 16 (32 * j))) 20 (u 16 (32 * j)))) 16 (32 * j + 1)) 13 (fun i => if i < 6 then u 16 (32 * j + 25 + i) else u 13 i)
def uOnK (u : cm_g2) (k : Int32) : Int32 × cm_g2 := if uIn k 0 2 = false then (-1, u) else if u 16 (32 * k.toNatClampNeg) = -9 then (-3, uMeet u 1) else (u 16 (32 * k.toNatClampNeg), uLd u k.toNatClampNeg)
theorem va_up_own {u : cm_g2} {c : Nat} : va_up u c (u c) = u := by
  funext x
  by_cases q : x = c
  · subst q; rw [va_up_self]
  · rw [va_up_ne _ _ q]
section U4
variable {D : cm_D} {d : Nat} {sh : List cm_Sh} {hi u : cm_g2} {hl : Nat → Nat → Int64} {hr : Nat → Nat → Option Nat} {e nb ns : Nat}
set_option maxRecDepth 20000 in
theorem l_rkeep (hE : cm_mdl sh hr e) {j : Nat} (hj : j < 3) {V : cm_g2} (v13 : V 13 = u 13) (v0 : V 0 = u 0) : ∀ q k : Nat, k + q = 6 → cm_g D mX7_keep (d + 1) 0 0 (fun r9 h9 => r9 = some (.int (u 0 19)) ∧ h9 = (sh, cm_us hi e (va_up V 16 (fun x => if 32 * j + 25 ≤ x ∧ x < 32 * j + 25 + 6 then u 13 (x - (32 * j + 25)) else V 16 x)), hl, hr)) 0 0 49 [some (.ref e), some (.int (nI j)), some (.int (nI (32 * j))), some (.int (nI k))] [] (sh, cm_us hi e (va_up V 16 (fun x => if 32 * j + 25 ≤ x ∧ x < 32 * j + 25 + k then u 13 (x - (32 * j + 25)) else V 16 x)), hl, hr) := by
  intro q
  induction q with
  | zero =>
    intro k hk
    have h1 : k = 6 := by omega
    subst h1
    refine cm_iload3 (pc := 49) dX7_keep_49 ?_
    refine cm_bipush (pc := 50) (v := 6) dX7_keep_50 (by decide) ?_
    refine cm_icmp_ge (pc := 52) (tgt := 78) dX7_keep_52 (by decide) (fun c52 => ?_) (fun q => absurd (by decide) q)
    refine cm_aload0 (pc := 78) dX7_keep_78 ?_
    refine mk_fld (pc := 79) flX7_160 dX7_keep_79 hE.1 ?_
    rw [show va_up V 16 (fun x => if 32 * j + 25 ≤ x ∧ x < 32 * j + 25 + 6 then u 13 (x - (32 * j + 25)) else V 16 x) 0 = u 0 by rw [va_up_ne _ _ (by decide), v0]]
    exact cm_iret (pc := 82) dX7_keep_82 rfl ⟨rfl, rfl⟩
  | succ q ih =>
    intro k hk
    have hst := ih (k + 1) (by omega)
    refine cm_iload3 (pc := 49) dX7_keep_49 ?_
    refine cm_bipush (pc := 50) (v := 6) dX7_keep_50 (by decide) ?_
    refine cm_icmp_ge (pc := 52) (tgt := 78) dX7_keep_52 (by decide) (fun q => absurd q (nI_ge (a := k) (b := 6) (by omega) (by omega))) (fun c52 => ?_)
    refine cm_aload0 (pc := 55) dX7_keep_55 ?_
    refine cm_getR (pc := 56) flX7_55 dX7_keep_56 hE.1 hE.r29 ?_
    refine cm_iload2 (pc := 59) dX7_keep_59 ?_
    refine cm_bipush (pc := 60) (v := 25) dX7_keep_60 (by decide) ?_
    refine cm_iadd (pc := 62) dX7_keep_62 ?_
    rw [show nI (32 * j) + 25 = nI (32 * j + 25) by rw [show (25 : Int32) = nI 25 from rfl, nI_add]]
    refine cm_iload3 (pc := 63) dX7_keep_63 ?_
    refine cm_iadd (pc := 64) dX7_keep_64 ?_
    rw [nI_add]
    refine cm_aload0 (pc := 65) dX7_keep_65 ?_
    refine cm_getR (pc := 66) flX7_46 dX7_keep_66 hE.1 hE.r17 ?_
    refine cm_iload3 (pc := 69) dX7_keep_69 ?_
    refine mk_get (pc := 70) dX7_keep_70 hE.a13 (by omega) (by decide) ?_
    rw [show va_up V 16 (fun x => if 32 * j + 25 ≤ x ∧ x < 32 * j + 25 + k then u 13 (x - (32 * j + 25)) else V 16 x) 13 k = u 13 k by rw [va_up_ne _ _ (by decide), v13]]
    refine mk_putE (pc := 71) (32 * j + 25 + k) dX7_keep_71 hE.a16 rfl (by omega) (by decide) ?_
    rw [show va_up (va_up V 16 (fun x => if 32 * j + 25 ≤ x ∧ x < 32 * j + 25 + k then u 13 (x - (32 * j + 25)) else V 16 x)) 16 (upd ((va_up V 16 (fun x => if 32 * j + 25 ≤ x ∧ x < 32 * j + 25 + k then u 13 (x - (32 * j + 25)) else V 16 x)) 16) (32 * j + 25 + k) (u 13 k)) = va_up V 16 (fun x => if 32 * j + 25 ≤ x ∧ x < 32 * j + 25 + (k + 1) then u 13 (x - (32 * j + 25)) else V 16 x) by
      rw [va_up_self, bx_uu]
      congr 1
      funext x
      unfold upd
      show (if x = 32 * j + 25 + k then u 13 k else if 32 * j + 25 ≤ x ∧ x < 32 * j + 25 + k then u 13 (x - (32 * j + 25)) else V 16 x) = _
      by_cases q9 : x = 32 * j + 25 + k
      · subst q9; rw [if_pos rfl, if_pos (by omega), show 32 * j + 25 + k - (32 * j + 25) = k by omega]
      · rw [if_neg q9]
        by_cases q8 : 32 * j + 25 ≤ x ∧ x < 32 * j + 25 + k
        · rw [if_pos q8, if_pos (by omega)]
        · rw [if_neg q8, if_neg (by omega)]]
    refine cm_incN3 (pc := 72) dX7_keep_72 (by decide) rfl ?_
    refine cm_goto (pc := 75) (tgt := 49) dX7_keep_75 (by decide) ?_
    exact hst
end U4
