/-! PART steps: the reference: wish, steps, who goes along -/
theorem uStep_yes {u : cm_g2} {nb i : Nat} {way : Int32} (h : uIn (u 8 i + way) 0 19 = true ∧ (i = 0 ∨ uHeld u (i - 1) (u 8 (i - 1)) (u 8 i + way) = true) ∧ (i + 1 = nb ∨ uHeld u i (u 8 i + way) (u 8 (i + 1)) = true)) : uStep u nb i way = va_up u 8 (upd (u 8) i (u 8 i + way)) := if_pos h
theorem uStep_no {u : cm_g2} {nb i : Nat} {way : Int32} (h : ¬ (uIn (u 8 i + way) 0 19 = true ∧ (i = 0 ∨ uHeld u (i - 1) (u 8 (i - 1)) (u 8 i + way) = true) ∧ (i + 1 = nb ∨ uHeld u i (u 8 i + way) (u 8 (i + 1)) = true))) : uStep u nb i way = u := if_neg h
section MD3
variable {D : cm_D} {d : Nat} {sh : List cm_Sh} {hi u : cm_g2} {hl : Nat → Nat → Int64} {hr : Nat → Nat → Option Nat} {e nb ns : Nat}
set_option maxRecDepth 20000 in
theorem r_wishOf (hE : cm_mdl sh hr e) {i : Nat} (h : uOk u nb ns) (hi6 : i < nb) : cm_ct D mX7_wishOf (d + 2) 0 0 [.ref e, .int (nI i)] (sh, cm_us hi e u, hl, hr) (fun r9 h9 => r9 = some (.int (uWish u ns i)) ∧ h9 = (sh, cm_us hi e u, hl, hr)) := by
  have h0 := h.1
  refine cm_ct_of (ls := [some (.ref e), some (.int (nI i)), none, none, none]) 3 (by decide +kernel) rfl rfl ?_
  refine cm_aload0 (pc := 0) dX7_wishOf_0 ?_
  refine cm_iload1 (pc := 1) dX7_wishOf_1 ?_
  refine cm_iconst (pc := 2) (v := 2) dX7_wishOf_2 (by decide) ?_
  refine cm_V2 (pc := 3) mX7_isA_v mlX7_185 dX7_wishOf_3 hE.1 (by omega) (Nat.le_of_ble_eq_true rfl) (Nat.le_refl _) (Nat.le_refl _) (r_isA hE (d := d + 1) (i := i) (by omega)) (fun r3 h3 hq3 => ?_)
  obtain ⟨rfl, rfl⟩ := hq3
  refine cm_ifeqB (pc := 6) (tgt := 11) dX7_wishOf_6 (by decide) (fun c6 => ?_) (fun c6 => ?_)
  · refine cm_aload0 (pc := 11) dX7_wishOf_11 ?_
    refine cm_getR (pc := 12) flX7_34 dX7_wishOf_12 hE.1 hE.r13 ?_
    refine cm_iload1 (pc := 15) dX7_wishOf_15 ?_
    refine mk_get (pc := 16) dX7_wishOf_16 hE.a9 (by omega) (by decide) ?_
    refine cm_iconst (pc := 17) (v := 4) dX7_wishOf_17 (by decide) ?_
    refine cm_icmp_ne (pc := 18) (tgt := 26) dX7_wishOf_18 (by decide) (fun c18 => ?_) (fun c18 => ?_)
    · refine cm_aload0 (pc := 26) dX7_wishOf_26 ?_
      refine cm_getR (pc := 27) flX7_34 dX7_wishOf_27 hE.1 hE.r13 ?_
      refine cm_iload1 (pc := 30) dX7_wishOf_30 ?_
      refine mk_get (pc := 31) dX7_wishOf_31 hE.a9 (by omega) (by decide) ?_
      refine cm_istore2 (pc := 32) dX7_wishOf_32 (by decide) rfl ?_
      refine cm_aload0 (pc := 33) dX7_wishOf_33 ?_
      refine cm_iload1 (pc := 34) dX7_wishOf_34 ?_
      refine cm_iload2 (pc := 35) dX7_wishOf_35 ?_
      refine cm_aload0 (pc := 36) dX7_wishOf_36 ?_
      refine cm_getR (pc := 37) flX7_28 dX7_wishOf_37 hE.1 hE.r11 ?_
      refine cm_iload1 (pc := 40) dX7_wishOf_40 ?_
      refine mk_get (pc := 41) dX7_wishOf_41 hE.a7 (by omega) (by decide) ?_
      refine cm_iconst (pc := 42) (v := 3) dX7_wishOf_42 (by decide) ?_
      refine cm_icmp_ne (pc := 43) (tgt := 50) dX7_wishOf_43 (by decide) (fun c43 => ?_) (fun c43 => ?_)
      · refine cm_iload2 (pc := 50) dX7_wishOf_50 ?_
        refine cm_V3 (pc := 51) mX7_nearest_v mlX7_181 dX7_wishOf_51 hE.1 (by omega) (Nat.le_of_ble_eq_true rfl) (Nat.le_refl _) (Nat.le_refl _) (r_nearest hE (d := d) (i := i) h hi6) (fun r51 h51 hq51 => ?_)
        obtain ⟨rfl, rfl⟩ := hq51
        generalize hn : uNear u i _ _ ns = o9
        refine cm_istore3 (pc := 54) dX7_wishOf_54 (by decide) rfl ?_
        refine cm_iload3 (pc := 55) dX7_wishOf_55 ?_
        refine cm_bipush (pc := 56) (v := -9) dX7_wishOf_56 (by decide) ?_
        cases o9 with
        | none =>
          refine cm_icmp_ne (tgt := 65) (pc := 58) dX7_wishOf_58 (by decide) (fun q => absurd rfl q) (fun _ => ?_)
          refine cm_iconst (pc := 61) (v := 0) dX7_wishOf_61 (by decide) ?_
          refine cm_goto (pc := 62) (tgt := 78) dX7_wishOf_62 (by decide) ?_
          refine cm_istore4 (pc := 78) dX7_wishOf_78 (by decide) rfl ?_
          refine cm_iload4 (pc := 80) dX7_wishOf_80 ?_
          refine cm_if_le (pc := 82) (tgt := 89) dX7_wishOf_82 (by decide) (fun c82 => ?_) (fun q => absurd (by decide) q)
          refine cm_iload4 (pc := 89) dX7_wishOf_89 ?_
          refine cm_if_ge (pc := 91) (tgt := 98) dX7_wishOf_91 (by decide) (fun c91 => ?_) (fun q => absurd (by decide) q)
          refine cm_iconst (pc := 98) (v := 0) dX7_wishOf_98 (by decide) ?_
          exact cm_iret (pc := 99) dX7_wishOf_99 rfl ⟨by simp [uWish, uWant, *], rfl⟩
        | some k =>
        have hk6 := uNear_lt hn
        have hkn : ¬ cm_oi (some k) = -9 := cm_oi_ne (by omega)
        refine cm_icmp_ne (pc := 58) (tgt := 65) dX7_wishOf_58 (by decide) (fun c58 => ?_) (fun q => absurd q hkn)
        refine cm_aload0 (pc := 65) dX7_wishOf_65 ?_
        refine cm_getR (pc := 66) flX7_40 dX7_wishOf_66 hE.1 hE.r15 ?_
        refine cm_iload3 (pc := 69) dX7_wishOf_69 ?_
        refine mk_getE (pc := 70) (k) dX7_wishOf_70 hE.a11 rfl (by omega) (by decide) ?_
        refine cm_aload0 (pc := 71) dX7_wishOf_71 ?_
        refine cm_getR (pc := 72) flX7_31 dX7_wishOf_72 hE.1 hE.r12 ?_
        refine cm_iload1 (pc := 75) dX7_wishOf_75 ?_
        refine mk_get (pc := 76) dX7_wishOf_76 hE.a8 (by omega) (by decide) ?_
        refine cm_isub (pc := 77) dX7_wishOf_77 ?_
        refine cm_istore4 (pc := 78) dX7_wishOf_78 (by decide) rfl ?_
        refine cm_iload4 (pc := 80) dX7_wishOf_80 ?_
        refine cm_if_le (pc := 82) (tgt := 89) dX7_wishOf_82 (by decide) (fun c82 => ?_) (fun c82 => ?_)
        · refine cm_iload4 (pc := 89) dX7_wishOf_89 ?_
          refine cm_if_ge (pc := 91) (tgt := 98) dX7_wishOf_91 (by decide) (fun c91 => ?_) (fun c91 => ?_)
          · refine cm_iconst (pc := 98) (v := 0) dX7_wishOf_98 (by decide) ?_
            exact cm_iret (pc := 99) dX7_wishOf_99 rfl ⟨by simp [uWish, uWant, uSgn, *], rfl⟩
          · refine cm_iconst (pc := 94) (v := -1) dX7_wishOf_94 (by decide) ?_
            refine cm_goto (pc := 95) (tgt := 99) dX7_wishOf_95 (by decide) ?_
            exact cm_iret (pc := 99) dX7_wishOf_99 rfl ⟨by simp [uWish, uWant, uSgn, *], rfl⟩
        · refine cm_iconst (pc := 85) (v := 1) dX7_wishOf_85 (by decide) ?_
          refine cm_goto (pc := 86) (tgt := 99) dX7_wishOf_86 (by decide) ?_
          exact cm_iret (pc := 99) dX7_wishOf_99 rfl ⟨by simp [uWish, uWant, uSgn, *], rfl⟩
      · refine cm_iconst (pc := 46) (v := 3) dX7_wishOf_46 (by decide) ?_
        refine cm_goto (pc := 47) (tgt := 51) dX7_wishOf_47 (by decide) ?_
        refine cm_V3 (pc := 51) mX7_nearest_v mlX7_181 dX7_wishOf_51 hE.1 (by omega) (Nat.le_of_ble_eq_true rfl) (Nat.le_refl _) (Nat.le_refl _) (r_nearest hE (d := d) (i := i) h hi6) (fun r51 h51 hq51 => ?_)
        obtain ⟨rfl, rfl⟩ := hq51
        generalize hn : uNear u i _ _ ns = o9
        refine cm_istore3 (pc := 54) dX7_wishOf_54 (by decide) rfl ?_
        refine cm_iload3 (pc := 55) dX7_wishOf_55 ?_
        refine cm_bipush (pc := 56) (v := -9) dX7_wishOf_56 (by decide) ?_
        cases o9 with
        | none =>
          refine cm_icmp_ne (tgt := 65) (pc := 58) dX7_wishOf_58 (by decide) (fun q => absurd rfl q) (fun _ => ?_)
          refine cm_iconst (pc := 61) (v := 0) dX7_wishOf_61 (by decide) ?_
          refine cm_goto (pc := 62) (tgt := 78) dX7_wishOf_62 (by decide) ?_
          refine cm_istore4 (pc := 78) dX7_wishOf_78 (by decide) rfl ?_
          refine cm_iload4 (pc := 80) dX7_wishOf_80 ?_
          refine cm_if_le (pc := 82) (tgt := 89) dX7_wishOf_82 (by decide) (fun c82 => ?_) (fun q => absurd (by decide) q)
          refine cm_iload4 (pc := 89) dX7_wishOf_89 ?_
          refine cm_if_ge (pc := 91) (tgt := 98) dX7_wishOf_91 (by decide) (fun c91 => ?_) (fun q => absurd (by decide) q)
          refine cm_iconst (pc := 98) (v := 0) dX7_wishOf_98 (by decide) ?_
          exact cm_iret (pc := 99) dX7_wishOf_99 rfl ⟨by simp [uWish, uWant, *], rfl⟩
        | some k =>
        have hk6 := uNear_lt hn
        have hkn : ¬ cm_oi (some k) = -9 := cm_oi_ne (by omega)
        refine cm_icmp_ne (pc := 58) (tgt := 65) dX7_wishOf_58 (by decide) (fun c58 => ?_) (fun q => absurd q hkn)
        refine cm_aload0 (pc := 65) dX7_wishOf_65 ?_
        refine cm_getR (pc := 66) flX7_40 dX7_wishOf_66 hE.1 hE.r15 ?_
        refine cm_iload3 (pc := 69) dX7_wishOf_69 ?_
        refine mk_getE (pc := 70) (k) dX7_wishOf_70 hE.a11 rfl (by omega) (by decide) ?_
        refine cm_aload0 (pc := 71) dX7_wishOf_71 ?_
        refine cm_getR (pc := 72) flX7_31 dX7_wishOf_72 hE.1 hE.r12 ?_
        refine cm_iload1 (pc := 75) dX7_wishOf_75 ?_
        refine mk_get (pc := 76) dX7_wishOf_76 hE.a8 (by omega) (by decide) ?_
        refine cm_isub (pc := 77) dX7_wishOf_77 ?_
        refine cm_istore4 (pc := 78) dX7_wishOf_78 (by decide) rfl ?_
        refine cm_iload4 (pc := 80) dX7_wishOf_80 ?_
        refine cm_if_le (pc := 82) (tgt := 89) dX7_wishOf_82 (by decide) (fun c82 => ?_) (fun c82 => ?_)
        · refine cm_iload4 (pc := 89) dX7_wishOf_89 ?_
          refine cm_if_ge (pc := 91) (tgt := 98) dX7_wishOf_91 (by decide) (fun c91 => ?_) (fun c91 => ?_)
          · refine cm_iconst (pc := 98) (v := 0) dX7_wishOf_98 (by decide) ?_
            exact cm_iret (pc := 99) dX7_wishOf_99 rfl ⟨by simp [uWish, uWant, uSgn, *], rfl⟩
          · refine cm_iconst (pc := 94) (v := -1) dX7_wishOf_94 (by decide) ?_
            refine cm_goto (pc := 95) (tgt := 99) dX7_wishOf_95 (by decide) ?_
            exact cm_iret (pc := 99) dX7_wishOf_99 rfl ⟨by simp [uWish, uWant, uSgn, *], rfl⟩
        · refine cm_iconst (pc := 85) (v := 1) dX7_wishOf_85 (by decide) ?_
          refine cm_goto (pc := 86) (tgt := 99) dX7_wishOf_86 (by decide) ?_
          exact cm_iret (pc := 99) dX7_wishOf_99 rfl ⟨by simp [uWish, uWant, uSgn, *], rfl⟩
    · refine cm_bipush (pc := 21) (v := -9) dX7_wishOf_21 (by decide) ?_
      refine cm_goto (pc := 23) (tgt := 32) dX7_wishOf_23 (by decide) ?_
      refine cm_istore2 (pc := 32) dX7_wishOf_32 (by decide) rfl ?_
      refine cm_aload0 (pc := 33) dX7_wishOf_33 ?_
      refine cm_iload1 (pc := 34) dX7_wishOf_34 ?_
      refine cm_iload2 (pc := 35) dX7_wishOf_35 ?_
      refine cm_aload0 (pc := 36) dX7_wishOf_36 ?_
      refine cm_getR (pc := 37) flX7_28 dX7_wishOf_37 hE.1 hE.r11 ?_
      refine cm_iload1 (pc := 40) dX7_wishOf_40 ?_
      refine mk_get (pc := 41) dX7_wishOf_41 hE.a7 (by omega) (by decide) ?_
      refine cm_iconst (pc := 42) (v := 3) dX7_wishOf_42 (by decide) ?_
      refine cm_icmp_ne (pc := 43) (tgt := 50) dX7_wishOf_43 (by decide) (fun c43 => ?_) (fun c43 => ?_)
      · refine cm_iload2 (pc := 50) dX7_wishOf_50 ?_
        refine cm_V3 (pc := 51) mX7_nearest_v mlX7_181 dX7_wishOf_51 hE.1 (by omega) (Nat.le_of_ble_eq_true rfl) (Nat.le_refl _) (Nat.le_refl _) (r_nearest hE (d := d) (i := i) h hi6) (fun r51 h51 hq51 => ?_)
        obtain ⟨rfl, rfl⟩ := hq51
        generalize hn : uNear u i _ _ ns = o9
        refine cm_istore3 (pc := 54) dX7_wishOf_54 (by decide) rfl ?_
        refine cm_iload3 (pc := 55) dX7_wishOf_55 ?_
        refine cm_bipush (pc := 56) (v := -9) dX7_wishOf_56 (by decide) ?_
        cases o9 with
        | none =>
          refine cm_icmp_ne (tgt := 65) (pc := 58) dX7_wishOf_58 (by decide) (fun q => absurd rfl q) (fun _ => ?_)
          refine cm_iconst (pc := 61) (v := 0) dX7_wishOf_61 (by decide) ?_
          refine cm_goto (pc := 62) (tgt := 78) dX7_wishOf_62 (by decide) ?_
          refine cm_istore4 (pc := 78) dX7_wishOf_78 (by decide) rfl ?_
          refine cm_iload4 (pc := 80) dX7_wishOf_80 ?_
          refine cm_if_le (pc := 82) (tgt := 89) dX7_wishOf_82 (by decide) (fun c82 => ?_) (fun q => absurd (by decide) q)
          refine cm_iload4 (pc := 89) dX7_wishOf_89 ?_
          refine cm_if_ge (pc := 91) (tgt := 98) dX7_wishOf_91 (by decide) (fun c91 => ?_) (fun q => absurd (by decide) q)
          refine cm_iconst (pc := 98) (v := 0) dX7_wishOf_98 (by decide) ?_
          exact cm_iret (pc := 99) dX7_wishOf_99 rfl ⟨by simp [uWish, uWant, *], rfl⟩
        | some k =>
        have hk6 := uNear_lt hn
        have hkn : ¬ cm_oi (some k) = -9 := cm_oi_ne (by omega)
        refine cm_icmp_ne (pc := 58) (tgt := 65) dX7_wishOf_58 (by decide) (fun c58 => ?_) (fun q => absurd q hkn)
        refine cm_aload0 (pc := 65) dX7_wishOf_65 ?_
        refine cm_getR (pc := 66) flX7_40 dX7_wishOf_66 hE.1 hE.r15 ?_
        refine cm_iload3 (pc := 69) dX7_wishOf_69 ?_
        refine mk_getE (pc := 70) (k) dX7_wishOf_70 hE.a11 rfl (by omega) (by decide) ?_
        refine cm_aload0 (pc := 71) dX7_wishOf_71 ?_
        refine cm_getR (pc := 72) flX7_31 dX7_wishOf_72 hE.1 hE.r12 ?_
        refine cm_iload1 (pc := 75) dX7_wishOf_75 ?_
        refine mk_get (pc := 76) dX7_wishOf_76 hE.a8 (by omega) (by decide) ?_
        refine cm_isub (pc := 77) dX7_wishOf_77 ?_
        refine cm_istore4 (pc := 78) dX7_wishOf_78 (by decide) rfl ?_
        refine cm_iload4 (pc := 80) dX7_wishOf_80 ?_
        refine cm_if_le (pc := 82) (tgt := 89) dX7_wishOf_82 (by decide) (fun c82 => ?_) (fun c82 => ?_)
        · refine cm_iload4 (pc := 89) dX7_wishOf_89 ?_
          refine cm_if_ge (pc := 91) (tgt := 98) dX7_wishOf_91 (by decide) (fun c91 => ?_) (fun c91 => ?_)
          · refine cm_iconst (pc := 98) (v := 0) dX7_wishOf_98 (by decide) ?_
            exact cm_iret (pc := 99) dX7_wishOf_99 rfl ⟨by simp [uWish, uWant, uSgn, *], rfl⟩
          · refine cm_iconst (pc := 94) (v := -1) dX7_wishOf_94 (by decide) ?_
            refine cm_goto (pc := 95) (tgt := 99) dX7_wishOf_95 (by decide) ?_
            exact cm_iret (pc := 99) dX7_wishOf_99 rfl ⟨by simp [uWish, uWant, uSgn, *], rfl⟩
        · refine cm_iconst (pc := 85) (v := 1) dX7_wishOf_85 (by decide) ?_
          refine cm_goto (pc := 86) (tgt := 99) dX7_wishOf_86 (by decide) ?_
          exact cm_iret (pc := 99) dX7_wishOf_99 rfl ⟨by simp [uWish, uWant, uSgn, *], rfl⟩
      · refine cm_iconst (pc := 46) (v := 3) dX7_wishOf_46 (by decide) ?_
        refine cm_goto (pc := 47) (tgt := 51) dX7_wishOf_47 (by decide) ?_
        refine cm_V3 (pc := 51) mX7_nearest_v mlX7_181 dX7_wishOf_51 hE.1 (by omega) (Nat.le_of_ble_eq_true rfl) (Nat.le_refl _) (Nat.le_refl _) (r_nearest hE (d := d) (i := i) h hi6) (fun r51 h51 hq51 => ?_)
        obtain ⟨rfl, rfl⟩ := hq51
        generalize hn : uNear u i _ _ ns = o9
        refine cm_istore3 (pc := 54) dX7_wishOf_54 (by decide) rfl ?_
        refine cm_iload3 (pc := 55) dX7_wishOf_55 ?_
        refine cm_bipush (pc := 56) (v := -9) dX7_wishOf_56 (by decide) ?_
        cases o9 with
        | none =>
          refine cm_icmp_ne (tgt := 65) (pc := 58) dX7_wishOf_58 (by decide) (fun q => absurd rfl q) (fun _ => ?_)
          refine cm_iconst (pc := 61) (v := 0) dX7_wishOf_61 (by decide) ?_
          refine cm_goto (pc := 62) (tgt := 78) dX7_wishOf_62 (by decide) ?_
          refine cm_istore4 (pc := 78) dX7_wishOf_78 (by decide) rfl ?_
          refine cm_iload4 (pc := 80) dX7_wishOf_80 ?_
          refine cm_if_le (pc := 82) (tgt := 89) dX7_wishOf_82 (by decide) (fun c82 => ?_) (fun q => absurd (by decide) q)
          refine cm_iload4 (pc := 89) dX7_wishOf_89 ?_
          refine cm_if_ge (pc := 91) (tgt := 98) dX7_wishOf_91 (by decide) (fun c91 => ?_) (fun q => absurd (by decide) q)
          refine cm_iconst (pc := 98) (v := 0) dX7_wishOf_98 (by decide) ?_
          exact cm_iret (pc := 99) dX7_wishOf_99 rfl ⟨by simp [uWish, uWant, *], rfl⟩
        | some k =>
        have hk6 := uNear_lt hn
        have hkn : ¬ cm_oi (some k) = -9 := cm_oi_ne (by omega)
        refine cm_icmp_ne (pc := 58) (tgt := 65) dX7_wishOf_58 (by decide) (fun c58 => ?_) (fun q => absurd q hkn)
        refine cm_aload0 (pc := 65) dX7_wishOf_65 ?_
        refine cm_getR (pc := 66) flX7_40 dX7_wishOf_66 hE.1 hE.r15 ?_
        refine cm_iload3 (pc := 69) dX7_wishOf_69 ?_
        refine mk_getE (pc := 70) (k) dX7_wishOf_70 hE.a11 rfl (by omega) (by decide) ?_
        refine cm_aload0 (pc := 71) dX7_wishOf_71 ?_
        refine cm_getR (pc := 72) flX7_31 dX7_wishOf_72 hE.1 hE.r12 ?_
        refine cm_iload1 (pc := 75) dX7_wishOf_75 ?_
        refine mk_get (pc := 76) dX7_wishOf_76 hE.a8 (by omega) (by decide) ?_
        refine cm_isub (pc := 77) dX7_wishOf_77 ?_
        refine cm_istore4 (pc := 78) dX7_wishOf_78 (by decide) rfl ?_
        refine cm_iload4 (pc := 80) dX7_wishOf_80 ?_
        refine cm_if_le (pc := 82) (tgt := 89) dX7_wishOf_82 (by decide) (fun c82 => ?_) (fun c82 => ?_)
        · refine cm_iload4 (pc := 89) dX7_wishOf_89 ?_
          refine cm_if_ge (pc := 91) (tgt := 98) dX7_wishOf_91 (by decide) (fun c91 => ?_) (fun c91 => ?_)
          · refine cm_iconst (pc := 98) (v := 0) dX7_wishOf_98 (by decide) ?_
            exact cm_iret (pc := 99) dX7_wishOf_99 rfl ⟨by simp [uWish, uWant, uSgn, *], rfl⟩
          · refine cm_iconst (pc := 94) (v := -1) dX7_wishOf_94 (by decide) ?_
            refine cm_goto (pc := 95) (tgt := 99) dX7_wishOf_95 (by decide) ?_
            exact cm_iret (pc := 99) dX7_wishOf_99 rfl ⟨by simp [uWish, uWant, uSgn, *], rfl⟩
        · refine cm_iconst (pc := 85) (v := 1) dX7_wishOf_85 (by decide) ?_
          refine cm_goto (pc := 86) (tgt := 99) dX7_wishOf_86 (by decide) ?_
          exact cm_iret (pc := 99) dX7_wishOf_99 rfl ⟨by simp [uWish, uWant, uSgn, *], rfl⟩
  · refine cm_iconst (pc := 9) (v := 0) dX7_wishOf_9 (by decide) ?_
    exact cm_iret (pc := 10) dX7_wishOf_10 rfl ⟨by simp [uWish, uWant, uSgn, *], rfl⟩
set_option maxRecDepth 20000 in
theorem t_plain3 (hE : cm_mdl sh hr e) {i : Nat} {way : Int32} {A B : Bool} {x5 : Option Value} (h : uOk u nb ns) (hi6 : i < nb) (hA : A = true ↔ i = 0 ∨ uHeld u (i - 1) (u 8 (i - 1)) (u 8 i + way) = true) (hB : B = true ↔ i + 1 = nb ∨ uHeld u i (u 8 i + way) (u 8 (i + 1)) = true) : cm_g D mX7_stepPlain (d + 2) 0 0 (fun r9 h9 => r9 = none ∧ h9 = (sh, cm_us hi e (uStep u nb i way), hl, hr)) 0 0 71 [some (.ref e), some (.int (nI i)), some (.int way), some (.int (u 8 i + way)), some (.int (cm_bi A)), x5] [.int (cm_bi B)] (sh, cm_us hi e u, hl, hr) := by
  have h0 := h.1
  refine cm_istore5 (pc := 71) dX7_stepPlain_71 (by decide) rfl ?_
  refine cm_iload3 (pc := 73) dX7_stepPlain_73 ?_
  refine cm_S1 (pc := 74) mX7_isSpot_s mlX7_204 dX7_stepPlain_74 (by omega) (Nat.le_of_ble_eq_true rfl) (Nat.le_refl _) (Nat.le_refl _) (r_isSpot (d := d)) (fun r74 h74 hq74 => ?_)
  obtain ⟨rfl, rfl⟩ := hq74
  refine cm_ifeqB (pc := 77) (tgt := 97) dX7_stepPlain_77 (by decide) (fun c77 => ?_) (fun c77 => ?_)
  · exact cm_vret (pc := 97) dX7_stepPlain_97 rfl ⟨rfl, by rw [uStep_no (fun q => absurd q.1 (by rw [c77]; decide))]⟩
  · refine cm_iload4 (pc := 80) dX7_stepPlain_80 ?_
    refine cm_ifeqB (pc := 82) (tgt := 97) dX7_stepPlain_82 (by decide) (fun c82 => ?_) (fun c82 => ?_)
    · exact cm_vret (pc := 97) dX7_stepPlain_97 rfl ⟨rfl, by rw [uStep_no (fun q => absurd (hA.mpr q.2.1) (by rw [c82]; decide))]⟩
    · refine cm_iload5 (pc := 85) dX7_stepPlain_85 ?_
      refine cm_ifeqB (pc := 87) (tgt := 97) dX7_stepPlain_87 (by decide) (fun c87 => ?_) (fun c87 => ?_)
      · exact cm_vret (pc := 97) dX7_stepPlain_97 rfl ⟨rfl, by rw [uStep_no (fun q => absurd (hB.mpr q.2.2) (by rw [c87]; decide))]⟩
      · refine cm_aload0 (pc := 90) dX7_stepPlain_90 ?_
        refine cm_getR (pc := 91) flX7_31 dX7_stepPlain_91 hE.1 hE.r12 ?_
        refine cm_iload1 (pc := 94) dX7_stepPlain_94 ?_
        refine cm_iload3 (pc := 95) dX7_stepPlain_95 ?_
        refine mk_put (pc := 96) dX7_stepPlain_96 hE.a8 (by omega) (by decide) ?_
        exact cm_vret (pc := 97) dX7_stepPlain_97 rfl ⟨rfl, by rw [uStep_yes ⟨c77, hA.mp c82, hB.mp c87⟩]⟩
set_option maxRecDepth 20000 in
theorem t_plain2 (hE : cm_mdl sh hr e) {i : Nat} {way : Int32} {A : Bool} {x4 x5 : Option Value} (h : uOk u nb ns) (hi6 : i < nb) (hA : A = true ↔ i = 0 ∨ uHeld u (i - 1) (u 8 (i - 1)) (u 8 i + way) = true) : cm_g D mX7_stepPlain (d + 2) 0 0 (fun r9 h9 => r9 = none ∧ h9 = (sh, cm_us hi e (uStep u nb i way), hl, hr)) 0 0 37 [some (.ref e), some (.int (nI i)), some (.int way), some (.int (u 8 i + way)), x4, x5] [.int (cm_bi A)] (sh, cm_us hi e u, hl, hr) := by
  have h0 := h.1
  refine cm_istore4 (pc := 37) dX7_stepPlain_37 (by decide) rfl ?_
  refine cm_iload1 (pc := 39) dX7_stepPlain_39 ?_
  refine cm_aload0 (pc := 40) dX7_stepPlain_40 ?_
  refine mk_fld (pc := 41) flX7_151 dX7_stepPlain_41 hE.1 ?_
  rw [h.1.1]
  refine cm_iconst (pc := 44) (v := 1) dX7_stepPlain_44 (by decide) ?_
  refine cm_isub (pc := 45) dX7_stepPlain_45 ?_
  rw [show nI nb - 1 = nI (nb - 1) from pk_sub (b := 1) (by omega)]
  refine cm_eqN (pc := 46) (tgt := 66) dX7_stepPlain_46 (by decide) (by omega) (by omega) (fun c46 => ?_) (fun c46 => ?_)
  · refine cm_iconst (pc := 66) (v := 1) dX7_stepPlain_66 (by decide) ?_
    refine cm_goto (pc := 67) (tgt := 71) dX7_stepPlain_67 (by decide) ?_
    first
      | exact t_plain3 hE (A := A) (B := true) h hi6 hA (by simp [*]; omega)
      | exact t_plain3 hE (A := A) (B := true) h hi6 hA (by simp [*])
      | exact t_plain3 hE (A := A) (B := false) h hi6 hA (by simp [*]; omega)
  · refine cm_aload0 (pc := 49) dX7_stepPlain_49 ?_
    refine cm_iload1 (pc := 50) dX7_stepPlain_50 ?_
    refine cm_iload3 (pc := 51) dX7_stepPlain_51 ?_
    refine cm_aload0 (pc := 52) dX7_stepPlain_52 ?_
    refine cm_getR (pc := 53) flX7_31 dX7_stepPlain_53 hE.1 hE.r12 ?_
    refine cm_iload1 (pc := 56) dX7_stepPlain_56 ?_
    refine cm_iconst (pc := 57) (v := 1) dX7_stepPlain_57 (by decide) ?_
    refine cm_iadd (pc := 58) dX7_stepPlain_58 ?_
    rw [nI_1]
    refine mk_get (pc := 59) dX7_stepPlain_59 hE.a8 (by omega) (by decide) ?_
    refine cm_V3 (pc := 60) mX7_isHeld_v mlX7_201 dX7_stepPlain_60 hE.1 (by omega) (Nat.le_of_ble_eq_true rfl) (Nat.le_refl _) (Nat.le_refl _) (r_isHeld hE (d := d + 1) (i := i) (by omega)) (fun r60 h60 hq60 => ?_)
    obtain ⟨rfl, rfl⟩ := hq60
    refine cm_ifeqB (pc := 63) (tgt := 70) dX7_stepPlain_63 (by decide) (fun c63 => ?_) (fun c63 => ?_)
    · refine cm_iconst (pc := 70) (v := 0) dX7_stepPlain_70 (by decide) ?_
      first
        | exact t_plain3 hE (A := A) (B := true) h hi6 hA (by simp [*]; omega)
        | exact t_plain3 hE (A := A) (B := true) h hi6 hA (by simp [*])
        | exact t_plain3 hE (A := A) (B := false) h hi6 hA (by simp [*]; omega)
    · refine cm_iconst (pc := 66) (v := 1) dX7_stepPlain_66 (by decide) ?_
      refine cm_goto (pc := 67) (tgt := 71) dX7_stepPlain_67 (by decide) ?_
      first
        | exact t_plain3 hE (A := A) (B := true) h hi6 hA (by simp [*]; omega)
        | exact t_plain3 hE (A := A) (B := true) h hi6 hA (by simp [*])
        | exact t_plain3 hE (A := A) (B := false) h hi6 hA (by simp [*]; omega)
set_option maxRecDepth 20000 in
theorem r_stepPlain (hE : cm_mdl sh hr e) {i : Nat} {way : Int32} (h : uOk u nb ns) (hi6 : i < nb) : cm_ct D mX7_stepPlain (d + 2) 0 0 [.ref e, .int (nI i), .int way] (sh, cm_us hi e u, hl, hr) (fun r9 h9 => r9 = none ∧ h9 = (sh, cm_us hi e (uStep u nb i way), hl, hr)) := by
  have h0 := h.1
  refine cm_ct_of (ls := [some (.ref e), some (.int (nI i)), some (.int way), none, none, none]) 3 (by decide +kernel) rfl rfl ?_
  refine cm_aload0 (pc := 0) dX7_stepPlain_0 ?_
  refine cm_getR (pc := 1) flX7_31 dX7_stepPlain_1 hE.1 hE.r12 ?_
  refine cm_iload1 (pc := 4) dX7_stepPlain_4 ?_
  refine mk_get (pc := 5) dX7_stepPlain_5 hE.a8 (by omega) (by decide) ?_
  refine cm_iload2 (pc := 6) dX7_stepPlain_6 ?_
  refine cm_iadd (pc := 7) dX7_stepPlain_7 ?_
  refine cm_istore3 (pc := 8) dX7_stepPlain_8 (by decide) rfl ?_
  refine cm_iload1 (pc := 9) dX7_stepPlain_9 ?_
  refine cm_if_eq (pc := 10) (tgt := 32) dX7_stepPlain_10 (by decide) (fun c10 => ?_) (fun c10 => ?_)
  · have h1 : i = 0 := by
      rcases Nat.eq_zero_or_pos i with q | q
      · exact q
      · exact absurd c10 (nI_ne0 q (by omega))
    refine cm_iconst (pc := 32) (v := 1) dX7_stepPlain_32 (by decide) ?_
    refine cm_goto (pc := 33) (tgt := 37) dX7_stepPlain_33 (by decide) ?_
    first
      | exact t_plain2 hE (A := true) h hi6 (by simp [*])
      | exact t_plain2 hE (A := false) h hi6 (by simp [*]; omega)
  · have h1 : 0 < i := by
      rcases Nat.eq_zero_or_pos i with q | q
      · subst q; exact absurd rfl c10
      · exact q
    refine cm_aload0 (pc := 13) dX7_stepPlain_13 ?_
    refine cm_iload1 (pc := 14) dX7_stepPlain_14 ?_
    refine cm_iconst (pc := 15) (v := 1) dX7_stepPlain_15 (by decide) ?_
    refine cm_isub (pc := 16) dX7_stepPlain_16 ?_
    rw [show nI i - 1 = nI (i - 1) from pk_sub (b := 1) h1]
    refine cm_aload0 (pc := 17) dX7_stepPlain_17 ?_
    refine cm_getR (pc := 18) flX7_31 dX7_stepPlain_18 hE.1 hE.r12 ?_
    refine cm_iload1 (pc := 21) dX7_stepPlain_21 ?_
    refine cm_iconst (pc := 22) (v := 1) dX7_stepPlain_22 (by decide) ?_
    refine cm_isub (pc := 23) dX7_stepPlain_23 ?_
    rw [show nI i - 1 = nI (i - 1) from pk_sub (b := 1) h1]
    refine mk_get (pc := 24) dX7_stepPlain_24 hE.a8 (by omega) (by decide) ?_
    refine cm_iload3 (pc := 25) dX7_stepPlain_25 ?_
    refine cm_V3 (pc := 26) mX7_isHeld_v mlX7_201 dX7_stepPlain_26 hE.1 (by omega) (Nat.le_of_ble_eq_true rfl) (Nat.le_refl _) (Nat.le_refl _) (r_isHeld hE (d := d + 1) (i := i - 1) (by omega)) (fun r26 h26 hq26 => ?_)
    obtain ⟨rfl, rfl⟩ := hq26
    refine cm_ifeqB (pc := 29) (tgt := 36) dX7_stepPlain_29 (by decide) (fun c29 => ?_) (fun c29 => ?_)
    · refine cm_iconst (pc := 36) (v := 0) dX7_stepPlain_36 (by decide) ?_
      first
        | exact t_plain2 hE (A := true) h hi6 (by simp [*])
        | exact t_plain2 hE (A := false) h hi6 (by simp [*]; omega)
    · refine cm_iconst (pc := 32) (v := 1) dX7_stepPlain_32 (by decide) ?_
      refine cm_goto (pc := 33) (tgt := 37) dX7_stepPlain_33 (by decide) ?_
      first
        | exact t_plain2 hE (A := true) h hi6 (by simp [*])
        | exact t_plain2 hE (A := false) h hi6 (by simp [*]; omega)
set_option maxRecDepth 20000 in
theorem l_chk (hE : cm_mdl sh hr e) {i : Nat} {way s : Int32} {y4 : Int32} (h : uOk u nb ns) (hi6 : i < nb) : ∀ n k : Nat, k + n = nb → cm_g D mX7_goers (d + 2) 0 0 (fun r9 h9 => r9 = some (.int (uChk u i way s n k)) ∧ h9 = (sh, cm_us hi e u, hl, hr)) 0 0 111 [some (.ref e), some (.int (nI i)), some (.int way), some (.int (s)), some (.int y4), some (.int (nI k))] [] (sh, cm_us hi e u, hl, hr) := by
  have h0 := h.1
  intro n
  induction n with
  | zero =>
    intro k hk
    refine cm_iload5 (pc := 111) dX7_goers_111 ?_
    refine cm_aload0 (pc := 113) dX7_goers_113 ?_
    refine mk_fld (pc := 114) flX7_151 dX7_goers_114 hE.1 ?_
    rw [h.1.1]
    refine cm_geN (pc := 117) (tgt := 168) dX7_goers_117 (by decide) (by omega) (by omega) (fun c117 => ?_) (fun c117 => ?_)
    · refine cm_iload3 (pc := 168) dX7_goers_168 ?_
      exact cm_iret (pc := 169) dX7_goers_169 rfl ⟨rfl, rfl⟩
    · exact absurd c117 (by omega)
  | succ n ih =>
    intro k hk
    refine cm_iload5 (pc := 111) dX7_goers_111 ?_
    refine cm_aload0 (pc := 113) dX7_goers_113 ?_
    refine mk_fld (pc := 114) flX7_151 dX7_goers_114 hE.1 ?_
    rw [h.1.1]
    refine cm_geN (pc := 117) (tgt := 168) dX7_goers_117 (by decide) (by omega) (by omega) (fun c117 => ?_) (fun c117 => ?_)
    · exact absurd c117 (by omega)
    · refine cm_iload3 (pc := 120) dX7_goers_120 ?_
      refine cm_iload5 (pc := 121) dX7_goers_121 ?_
      refine cm_S2 (pc := 123) mX7_has_s mlX7_207 dX7_goers_123 (by omega) (Nat.le_of_ble_eq_true rfl) (Nat.le_refl _) (Nat.le_refl _) (r_has (d := d + 1)) (fun r123 h123 hq123 => ?_)
      obtain ⟨rfl, rfl⟩ := hq123
      refine cm_ifeqB (pc := 126) (tgt := 162) dX7_goers_126 (by decide) (fun c126 => ?_) (fun c126 => ?_)
      · refine cm_incN5 (pc := 162) dX7_goers_162 (by decide) rfl ?_
        refine cm_goto (tgt := 111) (pc := 165) dX7_goers_165 (by decide) ?_
        rw [show uChk u i way s (n + 1) k = uChk u i way s n (k + 1) by first | (simp [uChk, uBad, *]; done) | (subst c147; simp [uChk, uBad, c126, c141]; done)]
        exact ih (k + 1) (by omega)
      · refine cm_aload0 (pc := 129) dX7_goers_129 ?_
        refine cm_getR (pc := 130) flX7_31 dX7_goers_130 hE.1 hE.r12 ?_
        refine cm_iload5 (pc := 133) dX7_goers_133 ?_
        refine mk_get (pc := 135) dX7_goers_135 hE.a8 (by omega) (by decide) ?_
        refine cm_iload2 (pc := 136) dX7_goers_136 ?_
        refine cm_iadd (pc := 137) dX7_goers_137 ?_
        refine cm_S1 (pc := 138) mX7_isSpot_s mlX7_204 dX7_goers_138 (by omega) (Nat.le_of_ble_eq_true rfl) (Nat.le_refl _) (Nat.le_refl _) (r_isSpot (d := d)) (fun r138 h138 hq138 => ?_)
        obtain ⟨rfl, rfl⟩ := hq138
        refine cm_ifeqB (pc := 141) (tgt := 160) dX7_goers_141 (by decide) (fun c141 => ?_) (fun c141 => ?_)
        · refine cm_iconst (pc := 160) (v := 0) dX7_goers_160 (by decide) ?_
          exact cm_iret (pc := 161) dX7_goers_161 rfl ⟨by simp [uChk, uBad, *], rfl⟩
        · refine cm_iload5 (pc := 144) dX7_goers_144 ?_
          refine cm_iload1 (pc := 146) dX7_goers_146 ?_
          refine cm_eqN (pc := 147) (tgt := 162) dX7_goers_147 (by decide) (by omega) (by omega) (fun c147 => ?_) (fun c147 => ?_)
          · refine cm_incN5 (pc := 162) dX7_goers_162 (by decide) rfl ?_
            refine cm_goto (tgt := 111) (pc := 165) dX7_goers_165 (by decide) ?_
            rw [show uChk u i way s (n + 1) k = uChk u i way s n (k + 1) by first | (simp [uChk, uBad, *]; done) | (subst c147; simp [uChk, uBad, c126, c141]; done)]
            exact ih (k + 1) (by omega)
          · refine cm_aload0 (pc := 150) dX7_goers_150 ?_
            refine cm_iload5 (pc := 151) dX7_goers_151 ?_
            refine cm_iconst (pc := 153) (v := 1) dX7_goers_153 (by decide) ?_
            refine cm_V2 (pc := 154) mX7_isA_v mlX7_185 dX7_goers_154 hE.1 (by omega) (Nat.le_of_ble_eq_true rfl) (Nat.le_refl _) (Nat.le_refl _) (r_isA hE (d := d + 1) (i := k) (by omega)) (fun r154 h154 hq154 => ?_)
            obtain ⟨rfl, rfl⟩ := hq154
            refine cm_ifeqB (pc := 157) (tgt := 162) dX7_goers_157 (by decide) (fun c157 => ?_) (fun c157 => ?_)
            · refine cm_incN5 (pc := 162) dX7_goers_162 (by decide) rfl ?_
              refine cm_goto (tgt := 111) (pc := 165) dX7_goers_165 (by decide) ?_
              rw [show uChk u i way s (n + 1) k = uChk u i way s n (k + 1) by first | (simp [uChk, uBad, *]; done) | (subst c147; simp [uChk, uBad, c126, c141]; done)]
              exact ih (k + 1) (by omega)
            · refine cm_iconst (pc := 160) (v := 0) dX7_goers_160 (by decide) ?_
              exact cm_iret (pc := 161) dX7_goers_161 rfl ⟨by simp [uChk, uBad, *], rfl⟩
set_option maxRecDepth 20000 in
theorem l_up (hE : cm_mdl sh hr e) {i : Nat} {way : Int32} {x5 : Option Value} {Q : Option Value → cm_H → Prop} (h : uOk u nb ns) (hi6 : i < nb) : ∀ n j : Nat, j < nb → nb ≤ j + 1 + n → ∀ s : Int32, (∀ y4 : Int32, cm_g D mX7_goers (d + 2) 0 0 (Q) 0 0 108 [some (.ref e), some (.int (nI i)), some (.int way), some (.int (uUp u nb way n j s)), some (.int y4), x5] [] (sh, cm_us hi e u, hl, hr)) → cm_g D mX7_goers (d + 2) 0 0 (Q) 0 0 57 [some (.ref e), some (.int (nI i)), some (.int way), some (.int (s)), some (.int (nI j)), x5] [] (sh, cm_us hi e u, hl, hr) := by
  have h0 := h.1
  intro n
  induction n with
  | zero =>
    intro j hj hn s kk
    refine cm_iload4 (pc := 57) dX7_goers_57 ?_
    refine cm_aload0 (pc := 59) dX7_goers_59 ?_
    refine mk_fld (pc := 60) flX7_151 dX7_goers_60 hE.1 ?_
    rw [h.1.1]
    refine cm_iconst (pc := 63) (v := 1) dX7_goers_63 (by decide) ?_
    refine cm_isub (pc := 64) dX7_goers_64 ?_
    rw [show nI nb - 1 = nI (nb - 1) from pk_sub (b := 1) (by omega)]
    refine cm_geN (pc := 65) (tgt := 108) dX7_goers_65 (by decide) (by omega) (by omega) (fun c65 => ?_) (fun c65 => ?_)
    · exact kk _
    · exact absurd c65 (by omega)
  | succ n ih =>
    intro j hj hn s kk
    refine cm_iload4 (pc := 57) dX7_goers_57 ?_
    refine cm_aload0 (pc := 59) dX7_goers_59 ?_
    refine mk_fld (pc := 60) flX7_151 dX7_goers_60 hE.1 ?_
    rw [h.1.1]
    refine cm_iconst (pc := 63) (v := 1) dX7_goers_63 (by decide) ?_
    refine cm_isub (pc := 64) dX7_goers_64 ?_
    rw [show nI nb - 1 = nI (nb - 1) from pk_sub (b := 1) (by omega)]
    refine cm_geN (pc := 65) (tgt := 108) dX7_goers_65 (by decide) (by omega) (by omega) (fun c65 => ?_) (fun c65 => ?_)
    · rw [show uUp u nb way (n + 1) j s = s by
        unfold uUp
        first
          | rw [if_neg (by omega)]
          | rw [if_pos (by omega), if_pos c92]] at kk
      exact kk _
    · refine cm_aload0 (pc := 68) dX7_goers_68 ?_
      refine cm_iload4 (pc := 69) dX7_goers_69 ?_
      refine cm_aload0 (pc := 71) dX7_goers_71 ?_
      refine cm_getR (pc := 72) flX7_31 dX7_goers_72 hE.1 hE.r12 ?_
      refine cm_iload4 (pc := 75) dX7_goers_75 ?_
      refine mk_get (pc := 77) dX7_goers_77 hE.a8 (by omega) (by decide) ?_
      refine cm_iload2 (pc := 78) dX7_goers_78 ?_
      refine cm_iadd (pc := 79) dX7_goers_79 ?_
      refine cm_aload0 (pc := 80) dX7_goers_80 ?_
      refine cm_getR (pc := 81) flX7_31 dX7_goers_81 hE.1 hE.r12 ?_
      refine cm_iload4 (pc := 84) dX7_goers_84 ?_
      refine cm_iconst (pc := 86) (v := 1) dX7_goers_86 (by decide) ?_
      refine cm_iadd (pc := 87) dX7_goers_87 ?_
      rw [nI_1]
      refine mk_get (pc := 88) dX7_goers_88 hE.a8 (by omega) (by decide) ?_
      refine cm_V3 (pc := 89) mX7_isHeld_v mlX7_201 dX7_goers_89 hE.1 (by omega) (Nat.le_of_ble_eq_true rfl) (Nat.le_refl _) (Nat.le_refl _) (r_isHeld hE (d := d + 1) (i := j) (by omega)) (fun r89 h89 hq89 => ?_)
      obtain ⟨rfl, rfl⟩ := hq89
      refine cm_ifneB (pc := 92) (tgt := 108) dX7_goers_92 (by decide) (fun c92 => ?_) (fun c92 => ?_)
      · rw [show uUp u nb way (n + 1) j s = s by
          unfold uUp
          first
            | rw [if_neg (by omega)]
            | rw [if_pos (by omega), if_pos c92]] at kk
        exact kk _
      · refine cm_incN4 (pc := 95) dX7_goers_95 (by decide) rfl ?_
        refine cm_iload3 (pc := 98) dX7_goers_98 ?_
        refine cm_iconst (pc := 99) (v := 1) dX7_goers_99 (by decide) ?_
        refine cm_iload4 (pc := 100) dX7_goers_100 ?_
        refine cm_ishl (pc := 102) dX7_goers_102 ?_
        refine cm_ior (pc := 103) dX7_goers_103 ?_
        refine cm_istore3 (pc := 104) dX7_goers_104 (by decide) rfl ?_
        refine cm_goto (pc := 105) (tgt := 57) dX7_goers_105 (by decide) ?_
        rw [show uUp u nb way (n + 1) j s = uUp u nb way n (j + 1) (s ||| (1 <<< (nI (j + 1) &&& 31))) by
          conv => lhs; unfold uUp
          rw [if_pos (by omega), if_neg (by rw [c92]; decide)]] at kk
        exact ih (j + 1) (by omega) (by omega) _ kk
set_option maxRecDepth 20000 in
theorem l_down (hE : cm_mdl sh hr e) {i : Nat} {way : Int32} {x5 : Option Value} {Q : Option Value → cm_H → Prop} (h : uOk u nb ns) (hi6 : i < nb) : ∀ j : Nat, j < nb → ∀ s : Int32, (∀ y4 : Int32, cm_g D mX7_goers (d + 2) 0 0 (Q) 0 0 54 [some (.ref e), some (.int (nI i)), some (.int way), some (.int (uDown u way j s)), some (.int y4), x5] [] (sh, cm_us hi e u, hl, hr)) → cm_g D mX7_goers (d + 2) 0 0 (Q) 0 0 7 [some (.ref e), some (.int (nI i)), some (.int way), some (.int (s)), some (.int (nI j)), x5] [] (sh, cm_us hi e u, hl, hr) := by
  have h0 := h.1
  intro j
  induction j with
  | zero =>
    intro hj s kk
    refine cm_iload4 (pc := 7) dX7_goers_7 ?_
    refine cm_if_le (pc := 9) (tgt := 54) dX7_goers_9 (by decide) (fun c9 => ?_) (fun q => absurd (show nI 0 ≤ 0 by decide) q)
    exact kk _
  | succ j ih =>
    intro hj s kk
    refine cm_iload4 (pc := 7) dX7_goers_7 ?_
    refine cm_if_le (pc := 9) (tgt := 54) dX7_goers_9 (by decide) (fun q => absurd q (nI_nle (show 0 < j + 1 by omega) (by omega))) (fun c9 => ?_)
    refine cm_aload0 (pc := 12) dX7_goers_12 ?_
    refine cm_iload4 (pc := 13) dX7_goers_13 ?_
    refine cm_iconst (pc := 15) (v := 1) dX7_goers_15 (by decide) ?_
    refine cm_isub (pc := 16) dX7_goers_16 ?_
    rw [nI_pred]
    refine cm_aload0 (pc := 17) dX7_goers_17 ?_
    refine cm_getR (pc := 18) flX7_31 dX7_goers_18 hE.1 hE.r12 ?_
    refine cm_iload4 (pc := 21) dX7_goers_21 ?_
    refine cm_iconst (pc := 23) (v := 1) dX7_goers_23 (by decide) ?_
    refine cm_isub (pc := 24) dX7_goers_24 ?_
    rw [nI_pred]
    refine mk_get (pc := 25) dX7_goers_25 hE.a8 (by omega) (by decide) ?_
    refine cm_aload0 (pc := 26) dX7_goers_26 ?_
    refine cm_getR (pc := 27) flX7_31 dX7_goers_27 hE.1 hE.r12 ?_
    refine cm_iload4 (pc := 30) dX7_goers_30 ?_
    refine mk_get (pc := 32) dX7_goers_32 hE.a8 (by omega) (by decide) ?_
    refine cm_iload2 (pc := 33) dX7_goers_33 ?_
    refine cm_iadd (pc := 34) dX7_goers_34 ?_
    refine cm_V3 (pc := 35) mX7_isHeld_v mlX7_201 dX7_goers_35 hE.1 (by omega) (Nat.le_of_ble_eq_true rfl) (Nat.le_refl _) (Nat.le_refl _) (r_isHeld hE (d := d + 1) (i := j) (by omega)) (fun r35 h35 hq35 => ?_)
    obtain ⟨rfl, rfl⟩ := hq35
    refine cm_ifneB (pc := 38) (tgt := 54) dX7_goers_38 (by decide) (fun c38 => ?_) (fun c38 => ?_)
    · rw [show uDown u way (j + 1) s = s by
        unfold uDown
        rw [if_pos c38]] at kk
      exact kk _
    · refine cm_iinc4 (pc := 41) (-1) dX7_goers_41 rfl (by decide) rfl ?_
      rw [pk_m1]
      refine cm_iload3 (pc := 44) dX7_goers_44 ?_
      refine cm_iconst (pc := 45) (v := 1) dX7_goers_45 (by decide) ?_
      refine cm_iload4 (pc := 46) dX7_goers_46 ?_
      refine cm_ishl (pc := 48) dX7_goers_48 ?_
      refine cm_ior (pc := 49) dX7_goers_49 ?_
      refine cm_istore3 (pc := 50) dX7_goers_50 (by decide) rfl ?_
      refine cm_goto (pc := 51) (tgt := 7) dX7_goers_51 (by decide) ?_
      rw [show uDown u way (j + 1) s = uDown u way j (s ||| (1 <<< (nI j &&& 31))) by
        conv => lhs; unfold uDown
        rw [if_neg (by rw [c38]; decide)]] at kk
      exact ih (by omega) _ kk
set_option maxRecDepth 20000 in
theorem r_goers (hE : cm_mdl sh hr e) {i : Nat} {way : Int32} (h : uOk u nb ns) (hi6 : i < nb) : cm_ct D mX7_goers (d + 2) 0 0 [.ref e, .int (nI i), .int way] (sh, cm_us hi e u, hl, hr) (fun r9 h9 => r9 = some (.int (uGo u nb i way)) ∧ h9 = (sh, cm_us hi e u, hl, hr)) := by
  refine cm_ct_of (ls := [some (.ref e), some (.int (nI i)), some (.int way), none, none, none]) 3 (by decide +kernel) rfl rfl ?_
  refine cm_iconst (pc := 0) (v := 1) dX7_goers_0 (by decide) ?_
  refine cm_iload1 (pc := 1) dX7_goers_1 ?_
  refine cm_ishl (pc := 2) dX7_goers_2 ?_
  refine cm_istore3 (pc := 3) dX7_goers_3 (by decide) rfl ?_
  refine cm_iload1 (pc := 4) dX7_goers_4 ?_
  refine cm_istore4 (pc := 5) dX7_goers_5 (by decide) rfl ?_
  refine l_down hE h hi6 i hi6 _ (fun y4 => ?_)
  refine cm_iload1 (pc := 54) dX7_goers_54 ?_
  refine cm_istore4 (pc := 55) dX7_goers_55 (by decide) rfl ?_
  refine l_up hE h hi6 nb i hi6 (by omega) _ (fun y4 => ?_)
  refine cm_iconst (pc := 108) (v := 0) dX7_goers_108 (by decide) ?_
  refine cm_istore5 (pc := 109) dX7_goers_109 (by decide) rfl ?_
  exact l_chk hE h hi6 nb 0 (by omega)
end MD3
