/-! PART ucalls2: the reference's calls: buyers, stalls, minutes, kept markets -/
theorem uIn_b {i : Int32} {m : Nat} (h : uIn i 0 (nI m - 1) = true) (hm : m ≤ 6) : ∃ x, x < m ∧ i = nI x := uIn_ix h (by omega)
def uBk (u : cm_g2) (y : Nat) : Int32 := if y < 6 then u 8 y else if y < 12 then u 9 (y - 6) else if y < 18 then u 10 (y - 12) else u 14 (y - 18)
def wrOk (u V : cm_g2) (cc at_ k : Nat) : Prop := (∀ c, c ≠ cc → V c = u c) ∧ ∀ x, V cc x = if at_ ≤ x ∧ x < at_ + 24 ∧ (x - at_) % 6 < k then uBk u (x - at_) else u cc x
def rdOk (u V : cm_g2) (cc at_ k : Nat) : Prop := (∀ c, c ≠ 8 → c ≠ 9 → c ≠ 10 → c ≠ 14 → V c = u c) ∧ ∀ i, V 8 i = (if i < k then u cc (at_ + i) else u 8 i) ∧ V 9 i = (if i < k then u cc (at_ + 6 + i) else u 9 i) ∧ V 10 i = (if i < k then u cc (at_ + 12 + i) else u 10 i) ∧ V 14 i = (if i < k then u cc (at_ + 18 + i) else u 14 i)
def uShs (u : cm_g2) (nb : Nat) (mv : Int32) : Nat → Int32
  | 0 => 0
  | k + 1 => if uShaded u nb (u 11 k) mv then uShs u nb mv k ||| (1 <<< (nI k &&& 31)) else uShs u nb mv k ||| 0
section U2
variable {D : cm_D} {d : Nat} {sh : List cm_Sh} {hi u : cm_g2} {hl : Nat → Nat → Int64} {hr : Nat → Nat → Option Nat} {e nb ns t n pos : Nat} {f : Nat → Int32} {A : pA}
set_option maxRecDepth 20000 in
theorem r_buyerOf (hE : cm_mdl sh hr e) {i : Nat} {w : Int32} (hi6 : i < 6) : cm_ct D mX7_buyerOf d 0 0 [.ref e, .int (nI i), .int w] (sh, cm_us hi e u, hl, hr) (fun r9 h9 => r9 = some (.int (uFB u i w)) ∧ h9 = (sh, cm_us hi e u, hl, hr)) := by
  refine cm_ct_of (ls := [some (.ref e), some (.int (nI i)), some (.int w)]) 0 (by decide +kernel) rfl rfl ?_
  refine cm_iload2 (pc := 0) dX7_buyerOf_0 ?_
  refine cm_if_ne (pc := 1) (tgt := 13) dX7_buyerOf_1 (by decide) (fun c1 => ?_) (fun c1 => ?_)
  · refine cm_iload2 (pc := 13) dX7_buyerOf_13 ?_
    refine cm_iconst (pc := 14) (v := 1) dX7_buyerOf_14 (by decide) ?_
    refine cm_icmp_ne (pc := 15) (tgt := 27) dX7_buyerOf_15 (by decide) (fun c15 => ?_) (fun c15 => ?_)
    · refine cm_iload2 (pc := 27) dX7_buyerOf_27 ?_
      refine cm_iconst (pc := 28) (v := 2) dX7_buyerOf_28 (by decide) ?_
      refine cm_icmp_ne (pc := 29) (tgt := 56) dX7_buyerOf_29 (by decide) (fun c29 => ?_) (fun c29 => ?_)
      · refine cm_aload0 (pc := 56) dX7_buyerOf_56 ?_
        refine cm_getR (pc := 57) flX7_37 dX7_buyerOf_57 hE.1 hE.r14 ?_
        refine cm_iload1 (pc := 60) dX7_buyerOf_60 ?_
        refine mk_get (pc := 61) dX7_buyerOf_61 hE.a10 (by omega) (by decide) ?_
        exact cm_iret (pc := 62) dX7_buyerOf_62 rfl ⟨by simp [uFB, *], rfl⟩
      · refine cm_aload0 (pc := 32) dX7_buyerOf_32 ?_
        refine cm_getR (pc := 33) flX7_34 dX7_buyerOf_33 hE.1 hE.r13 ?_
        refine cm_iload1 (pc := 36) dX7_buyerOf_36 ?_
        refine mk_get (pc := 37) dX7_buyerOf_37 hE.a9 (by omega) (by decide) ?_
        refine cm_iconst (pc := 38) (v := 4) dX7_buyerOf_38 (by decide) ?_
        refine cm_icmp_ne (pc := 39) (tgt := 47) dX7_buyerOf_39 (by decide) (fun c39 => ?_) (fun c39 => ?_)
        · refine cm_aload0 (pc := 47) dX7_buyerOf_47 ?_
          refine cm_getR (pc := 48) flX7_34 dX7_buyerOf_48 hE.1 hE.r13 ?_
          refine cm_iload1 (pc := 51) dX7_buyerOf_51 ?_
          refine mk_get (pc := 52) dX7_buyerOf_52 hE.a9 (by omega) (by decide) ?_
          refine cm_goto (pc := 53) (tgt := 62) dX7_buyerOf_53 (by decide) ?_
          exact cm_iret (pc := 62) dX7_buyerOf_62 rfl ⟨by simp [uFB, *], rfl⟩
        · refine cm_bipush (pc := 42) (v := -9) dX7_buyerOf_42 (by decide) ?_
          refine cm_goto (pc := 44) (tgt := 62) dX7_buyerOf_44 (by decide) ?_
          exact cm_iret (pc := 62) dX7_buyerOf_62 rfl ⟨by simp [uFB, *], rfl⟩
    · refine cm_aload0 (pc := 18) dX7_buyerOf_18 ?_
      refine cm_getR (pc := 19) flX7_31 dX7_buyerOf_19 hE.1 hE.r12 ?_
      refine cm_iload1 (pc := 22) dX7_buyerOf_22 ?_
      refine mk_get (pc := 23) dX7_buyerOf_23 hE.a8 (by omega) (by decide) ?_
      refine cm_goto (pc := 24) (tgt := 62) dX7_buyerOf_24 (by decide) ?_
      exact cm_iret (pc := 62) dX7_buyerOf_62 rfl ⟨by simp [uFB, *], rfl⟩
  · refine cm_aload0 (pc := 4) dX7_buyerOf_4 ?_
    refine cm_getR (pc := 5) flX7_28 dX7_buyerOf_5 hE.1 hE.r11 ?_
    refine cm_iload1 (pc := 8) dX7_buyerOf_8 ?_
    refine mk_get (pc := 9) dX7_buyerOf_9 hE.a7 (by omega) (by decide) ?_
    refine cm_goto (pc := 10) (tgt := 62) dX7_buyerOf_10 (by decide) ?_
    exact cm_iret (pc := 62) dX7_buyerOf_62 rfl ⟨by simp [uFB, *], rfl⟩
set_option maxRecDepth 20000 in
theorem r_stallOf (hE : cm_mdl sh hr e) {i : Nat} {w : Int32} (hi6 : i < 6) : cm_ct D mX7_stallOf d 0 0 [.ref e, .int (nI i), .int w] (sh, cm_us hi e u, hl, hr) (fun r9 h9 => r9 = some (.int (uFS u i w)) ∧ h9 = (sh, cm_us hi e u, hl, hr)) := by
  refine cm_ct_of (ls := [some (.ref e), some (.int (nI i)), some (.int w)]) 0 (by decide +kernel) rfl rfl ?_
  refine cm_iload2 (pc := 0) dX7_stallOf_0 ?_
  refine cm_if_ne (pc := 1) (tgt := 13) dX7_stallOf_1 (by decide) (fun c1 => ?_) (fun c1 => ?_)
  · refine cm_iload2 (pc := 13) dX7_stallOf_13 ?_
    refine cm_iconst (pc := 14) (v := 1) dX7_stallOf_14 (by decide) ?_
    refine cm_icmp_ne (pc := 15) (tgt := 27) dX7_stallOf_15 (by decide) (fun c15 => ?_) (fun c15 => ?_)
    · refine cm_iload2 (pc := 27) dX7_stallOf_27 ?_
      refine cm_iconst (pc := 28) (v := 2) dX7_stallOf_28 (by decide) ?_
      refine cm_icmp_ne (pc := 29) (tgt := 41) dX7_stallOf_29 (by decide) (fun c29 => ?_) (fun c29 => ?_)
      · refine cm_aload0 (pc := 41) dX7_stallOf_41 ?_
        refine cm_getR (pc := 42) flX7_49 dX7_stallOf_42 hE.1 hE.r18 ?_
        refine cm_iload1 (pc := 45) dX7_stallOf_45 ?_
        refine mk_get (pc := 46) dX7_stallOf_46 hE.a14 (by omega) (by decide) ?_
        exact cm_iret (pc := 47) dX7_stallOf_47 rfl ⟨by simp [uFS, *], rfl⟩
      · refine cm_aload0 (pc := 32) dX7_stallOf_32 ?_
        refine cm_getR (pc := 33) flX7_46 dX7_stallOf_33 hE.1 hE.r17 ?_
        refine cm_iload1 (pc := 36) dX7_stallOf_36 ?_
        refine mk_get (pc := 37) dX7_stallOf_37 hE.a13 (by omega) (by decide) ?_
        refine cm_goto (pc := 38) (tgt := 47) dX7_stallOf_38 (by decide) ?_
        exact cm_iret (pc := 47) dX7_stallOf_47 rfl ⟨by simp [uFS, *], rfl⟩
    · refine cm_aload0 (pc := 18) dX7_stallOf_18 ?_
      refine cm_getR (pc := 19) flX7_43 dX7_stallOf_19 hE.1 hE.r16 ?_
      refine cm_iload1 (pc := 22) dX7_stallOf_22 ?_
      refine mk_get (pc := 23) dX7_stallOf_23 hE.a12 (by omega) (by decide) ?_
      refine cm_goto (pc := 24) (tgt := 47) dX7_stallOf_24 (by decide) ?_
      exact cm_iret (pc := 47) dX7_stallOf_47 rfl ⟨by simp [uFS, *], rfl⟩
  · refine cm_aload0 (pc := 4) dX7_stallOf_4 ?_
    refine cm_getR (pc := 5) flX7_40 dX7_stallOf_5 hE.1 hE.r15 ?_
    refine cm_iload1 (pc := 8) dX7_stallOf_8 ?_
    refine mk_get (pc := 9) dX7_stallOf_9 hE.a11 (by omega) (by decide) ?_
    refine cm_goto (pc := 10) (tgt := 47) dX7_stallOf_10 (by decide) ?_
    exact cm_iret (pc := 47) dX7_stallOf_47 rfl ⟨by simp [uFS, *], rfl⟩
set_option maxRecDepth 20000 in
theorem r_isBuyer (hE : cm_mdl sh hr e) {i : Int32} : cm_ct D mX7_isBuyer (d + 1) 0 0 [.ref e, .int i] (sh, cm_us hi e u, hl, hr) (fun r9 h9 => r9 = some (.int (cm_bi (uIn i 0 (u 0 9 - 1)))) ∧ h9 = (sh, cm_us hi e u, hl, hr)) := by
  refine cm_ct_of (ls := [some (.ref e), some (.int i)]) 0 (by decide +kernel) rfl rfl ?_
  refine cm_iload1 (pc := 0) dX7_isBuyer_0 ?_
  refine cm_iconst (pc := 1) (v := 0) dX7_isBuyer_1 (by decide) ?_
  refine cm_aload0 (pc := 2) dX7_isBuyer_2 ?_
  refine mk_fld (pc := 3) flX7_151 dX7_isBuyer_3 hE.1 ?_
  refine cm_iconst (pc := 6) (v := 1) dX7_isBuyer_6 (by decide) ?_
  refine cm_isub (pc := 7) dX7_isBuyer_7 ?_
  refine cm_S3 (pc := 8) mX7_in_s mlX7_83 dX7_isBuyer_8 (by omega) (Nat.le_of_ble_eq_true rfl) (Nat.le_refl _) (Nat.le_refl _) (r_in (d := d) ) (fun r8 h8 hq8 => ?_)
  obtain ⟨rfl, rfl⟩ := hq8
  exact cm_zret (pc := 11) dX7_isBuyer_11 rfl (cm_nb _) ⟨rfl, rfl⟩
set_option maxRecDepth 20000 in
theorem r_isStall (hE : cm_mdl sh hr e) {i : Int32} : cm_ct D mX7_isStall (d + 1) 0 0 [.ref e, .int i] (sh, cm_us hi e u, hl, hr) (fun r9 h9 => r9 = some (.int (cm_bi (uIn i 0 (u 0 10 - 1)))) ∧ h9 = (sh, cm_us hi e u, hl, hr)) := by
  refine cm_ct_of (ls := [some (.ref e), some (.int i)]) 0 (by decide +kernel) rfl rfl ?_
  refine cm_iload1 (pc := 0) dX7_isStall_0 ?_
  refine cm_iconst (pc := 1) (v := 0) dX7_isStall_1 (by decide) ?_
  refine cm_aload0 (pc := 2) dX7_isStall_2 ?_
  refine mk_fld (pc := 3) flX7_154 dX7_isStall_3 hE.1 ?_
  refine cm_iconst (pc := 6) (v := 1) dX7_isStall_6 (by decide) ?_
  refine cm_isub (pc := 7) dX7_isStall_7 ?_
  refine cm_S3 (pc := 8) mX7_in_s mlX7_83 dX7_isStall_8 (by omega) (Nat.le_of_ble_eq_true rfl) (Nat.le_refl _) (Nat.le_refl _) (r_in (d := d) ) (fun r8 h8 hq8 => ?_)
  obtain ⟨rfl, rfl⟩ := hq8
  exact cm_zret (pc := 11) dX7_isStall_11 rfl (cm_nb _) ⟨rfl, rfl⟩
set_option maxRecDepth 20000 in
theorem r_buyer (hE : cm_mdl sh hr e) {i w : Int32} (h : uOk u nb ns) : cm_ct D mX7_buyer (d + 2) 0 0 [.ref e, .int i, .int w] (sh, cm_us hi e u, hl, hr) (fun r9 h9 => r9 = some (.int (uBuyer u i w).1) ∧ h9 = (sh, cm_us hi e (uBuyer u i w).2, hl, hr)) := by
  have hnb := h.1.2.1
  have hns := h.1.2.2.2
  refine cm_ct_of (ls := [some (.ref e), some (.int i), some (.int w)]) 0 (by decide +kernel) rfl rfl ?_
  refine cm_aload0 (pc := 0) dX7_buyer_0 ?_
  refine cm_iload1 (pc := 1) dX7_buyer_1 ?_
  refine cm_V1 (pc := 2) mX7_isBuyer_v mlX7_166 dX7_buyer_2 hE.1 (by omega) (Nat.le_of_ble_eq_true rfl) (Nat.le_refl _) (Nat.le_refl _) (r_isBuyer (d := d) hE) (fun r2 h2 hq2 => ?_)
  obtain ⟨rfl, rfl⟩ := hq2
  refine cm_ifeqB (pc := 5) (tgt := 31) dX7_buyer_5 (by decide) (fun c5 => ?_) (fun c5 => ?_)
  · refine cm_iconst (pc := 31) (v := -1) dX7_buyer_31 (by decide) ?_
    exact cm_iret (pc := 32) dX7_buyer_32 rfl ⟨by simp [uBuyer, *], by simp [uBuyer, *]⟩
  · obtain ⟨j, hj, rfl⟩ := uIn_b (m := nb) (by rw [← h.1.1]; exact c5) (by omega)
    have hjc : (nI j).toNatClampNeg = j := nI_clamp (by omega)
    refine cm_iload2 (pc := 8) dX7_buyer_8 ?_
    refine cm_iconst (pc := 9) (v := 0) dX7_buyer_9 (by decide) ?_
    refine cm_iconst (pc := 10) (v := 3) dX7_buyer_10 (by decide) ?_
    refine cm_S3 (pc := 11) mX7_in_s mlX7_83 dX7_buyer_11 (by omega) (Nat.le_of_ble_eq_true rfl) (Nat.le_refl _) (Nat.le_refl _) (r_in (d := d + 1) ) (fun r11 h11 hq11 => ?_)
    obtain ⟨rfl, rfl⟩ := hq11
    refine cm_ifeqB (pc := 14) (tgt := 31) dX7_buyer_14 (by decide) (fun c14 => ?_) (fun c14 => ?_)
    · refine cm_iconst (pc := 31) (v := -1) dX7_buyer_31 (by decide) ?_
      exact cm_iret (pc := 32) dX7_buyer_32 rfl ⟨by simp [uBuyer, *], by simp [uBuyer, *]⟩
    · refine cm_aload0 (pc := 17) dX7_buyer_17 ?_
      refine cm_aload0 (pc := 18) dX7_buyer_18 ?_
      refine cm_iload1 (pc := 19) dX7_buyer_19 ?_
      refine cm_iload2 (pc := 20) dX7_buyer_20 ?_
      refine cm_V2 (pc := 21) mX7_buyerOf_v mlX7_169 dX7_buyer_21 hE.1 (by omega) (Nat.le_of_ble_eq_true rfl) (Nat.le_refl _) (Nat.le_refl _) (r_buyerOf (d := d + 1) hE (by omega)) (fun r21 h21 hq21 => ?_)
      obtain ⟨rfl, rfl⟩ := hq21
      refine cm_iconst (pc := 24) (v := 1) dX7_buyer_24 (by decide) ?_
      refine cm_V2 (pc := 25) mX7_ask_v mlX7_109 dX7_buyer_25 hE.1 (by omega) (Nat.le_of_ble_eq_true rfl) (Nat.le_refl _) (Nat.le_refl _) (r_ask (d := d + 1) hE) (fun r25 h25 hq25 => ?_)
      obtain ⟨rfl, rfl⟩ := hq25
      refine cm_goto (pc := 28) (tgt := 32) dX7_buyer_28 (by decide) ?_
      exact cm_iret (pc := 32) dX7_buyer_32 rfl ⟨by simp [uBuyer, *], by simp [uBuyer, *]⟩
set_option maxRecDepth 20000 in
theorem r_stall (hE : cm_mdl sh hr e) {i w : Int32} (h : uOk u nb ns) : cm_ct D mX7_stall (d + 2) 0 0 [.ref e, .int i, .int w] (sh, cm_us hi e u, hl, hr) (fun r9 h9 => r9 = some (.int (uStall u i w).1) ∧ h9 = (sh, cm_us hi e (uStall u i w).2, hl, hr)) := by
  have hnb := h.1.2.1
  have hns := h.1.2.2.2
  refine cm_ct_of (ls := [some (.ref e), some (.int i), some (.int w)]) 0 (by decide +kernel) rfl rfl ?_
  refine cm_aload0 (pc := 0) dX7_stall_0 ?_
  refine cm_iload1 (pc := 1) dX7_stall_1 ?_
  refine cm_V1 (pc := 2) mX7_isStall_v mlX7_172 dX7_stall_2 hE.1 (by omega) (Nat.le_of_ble_eq_true rfl) (Nat.le_refl _) (Nat.le_refl _) (r_isStall (d := d) hE) (fun r2 h2 hq2 => ?_)
  obtain ⟨rfl, rfl⟩ := hq2
  refine cm_ifeqB (pc := 5) (tgt := 31) dX7_stall_5 (by decide) (fun c5 => ?_) (fun c5 => ?_)
  · refine cm_iconst (pc := 31) (v := -1) dX7_stall_31 (by decide) ?_
    exact cm_iret (pc := 32) dX7_stall_32 rfl ⟨by simp [uStall, *], by simp [uStall, *]⟩
  · obtain ⟨j, hj, rfl⟩ := uIn_b (m := ns) (by rw [← h.1.2.2.1]; exact c5) (by omega)
    have hjc : (nI j).toNatClampNeg = j := nI_clamp (by omega)
    refine cm_iload2 (pc := 8) dX7_stall_8 ?_
    refine cm_iconst (pc := 9) (v := 0) dX7_stall_9 (by decide) ?_
    refine cm_iconst (pc := 10) (v := 3) dX7_stall_10 (by decide) ?_
    refine cm_S3 (pc := 11) mX7_in_s mlX7_83 dX7_stall_11 (by omega) (Nat.le_of_ble_eq_true rfl) (Nat.le_refl _) (Nat.le_refl _) (r_in (d := d + 1) ) (fun r11 h11 hq11 => ?_)
    obtain ⟨rfl, rfl⟩ := hq11
    refine cm_ifeqB (pc := 14) (tgt := 31) dX7_stall_14 (by decide) (fun c14 => ?_) (fun c14 => ?_)
    · refine cm_iconst (pc := 31) (v := -1) dX7_stall_31 (by decide) ?_
      exact cm_iret (pc := 32) dX7_stall_32 rfl ⟨by simp [uStall, *], by simp [uStall, *]⟩
    · refine cm_aload0 (pc := 17) dX7_stall_17 ?_
      refine cm_aload0 (pc := 18) dX7_stall_18 ?_
      refine cm_iload1 (pc := 19) dX7_stall_19 ?_
      refine cm_iload2 (pc := 20) dX7_stall_20 ?_
      refine cm_V2 (pc := 21) mX7_stallOf_v mlX7_175 dX7_stall_21 hE.1 (by omega) (Nat.le_of_ble_eq_true rfl) (Nat.le_refl _) (Nat.le_refl _) (r_stallOf (d := d + 1) hE (by omega)) (fun r21 h21 hq21 => ?_)
      obtain ⟨rfl, rfl⟩ := hq21
      refine cm_iconst (pc := 24) (v := 1) dX7_stall_24 (by decide) ?_
      refine cm_V2 (pc := 25) mX7_ask_v mlX7_109 dX7_stall_25 hE.1 (by omega) (Nat.le_of_ble_eq_true rfl) (Nat.le_refl _) (Nat.le_refl _) (r_ask (d := d + 1) hE) (fun r25 h25 hq25 => ?_)
      obtain ⟨rfl, rfl⟩ := hq25
      refine cm_goto (pc := 28) (tgt := 32) dX7_stall_28 (by decide) ?_
      exact cm_iret (pc := 32) dX7_stall_32 rfl ⟨by simp [uStall, *], by simp [uStall, *]⟩
set_option maxRecDepth 20000 in
theorem r_farTo (hE : cm_mdl sh hr e) {i : Nat} {gd : Int32} (h : uOk u nb ns) (hi6 : i < nb) : cm_ct D mX7_farTo (d + 2) 0 0 [.ref e, .int (nI i), .int gd] (sh, cm_us hi e u, hl, hr) (fun r9 h9 => r9 = some (.int (uFar u ns i gd)) ∧ h9 = (sh, cm_us hi e u, hl, hr)) := by
  have hnb := h.1.2.1
  have hns := h.1.2.2.2
  refine cm_ct_of (ls := [some (.ref e), some (.int (nI i)), some (.int gd), none]) 1 (by decide +kernel) rfl rfl ?_
  refine cm_aload0 (pc := 0) dX7_farTo_0 ?_
  refine cm_iload1 (pc := 1) dX7_farTo_1 ?_
  refine cm_iload2 (pc := 2) dX7_farTo_2 ?_
  refine cm_iload2 (pc := 3) dX7_farTo_3 ?_
  refine cm_V3 (pc := 4) mX7_nearest_v mlX7_181 dX7_farTo_4 hE.1 (by omega) (Nat.le_of_ble_eq_true rfl) (Nat.le_refl _) (Nat.le_refl _) (r_nearest (d := d) hE (i := i) h hi6) (fun r4 h4 hq4 => ?_)
  obtain ⟨rfl, rfl⟩ := hq4
  generalize hn : uNear u i gd gd ns = o9
  cases o9 with
  | none =>
    refine cm_istore3 (pc := 7) dX7_farTo_7 (by decide) rfl ?_
    refine cm_iload3 (pc := 8) dX7_farTo_8 ?_
    refine cm_bipush (pc := 9) (v := -9) dX7_farTo_9 (by decide) ?_
    refine cm_icmp_ne (pc := 11) (tgt := 19) dX7_farTo_11 (by decide) (fun q => absurd rfl q) (fun _ => ?_)
    refine cm_bipush (pc := 14) (v := -9) dX7_farTo_14 (by decide) ?_
    refine cm_goto (pc := 16) (tgt := 35) dX7_farTo_16 (by decide) ?_
    exact cm_iret (pc := 35) dX7_farTo_35 rfl ⟨by simp [uFar, hn], rfl⟩
  | some k =>
    have hk6 := uNear_lt hn
    have hkn : ¬ cm_oi (some k) = -9 := cm_oi_ne (by omega)
    refine cm_istore3 (pc := 7) dX7_farTo_7 (by decide) rfl ?_
    refine cm_iload3 (pc := 8) dX7_farTo_8 ?_
    refine cm_bipush (pc := 9) (v := -9) dX7_farTo_9 (by decide) ?_
    refine cm_icmp_ne (pc := 11) (tgt := 19) dX7_farTo_11 (by decide) (fun c11 => ?_) (fun q => absurd q hkn)
    refine cm_aload0 (pc := 19) dX7_farTo_19 ?_
    refine cm_getR (pc := 20) flX7_40 dX7_farTo_20 hE.1 hE.r15 ?_
    refine cm_iload3 (pc := 23) dX7_farTo_23 ?_
    refine mk_getE (pc := 24) (k) dX7_farTo_24 hE.a11 rfl (by omega) (by decide) ?_
    refine cm_aload0 (pc := 25) dX7_farTo_25 ?_
    refine cm_getR (pc := 26) flX7_31 dX7_farTo_26 hE.1 hE.r12 ?_
    refine cm_iload1 (pc := 29) dX7_farTo_29 ?_
    refine mk_get (pc := 30) dX7_farTo_30 hE.a8 (by omega) (by decide) ?_
    refine cm_isub (pc := 31) dX7_farTo_31 ?_
    refine cm_S1 (pc := 32) mX7_size_s mlX7_178 dX7_farTo_32 (by omega) (Nat.le_of_ble_eq_true rfl) (Nat.le_refl _) (Nat.le_refl _) (r_abs (d := d + 1)) (fun r32 h32 hq32 => ?_)
    obtain ⟨rfl, rfl⟩ := hq32
    exact cm_iret (pc := 35) dX7_farTo_35 rfl ⟨by simp [uFar, hn], rfl⟩
set_option maxRecDepth 20000 in
set_option maxHeartbeats 1000000 in
theorem t_rmk (hE : cm_mdl sh hr e) {j : Nat} {kd : Int32} (h : uOk u nb ns) (hj : j < nb) (hspec : uMark u nb ns (nI j) kd = (uMarkV u nb ns j kd, u)) {x4 : Option Value} : cm_g D mX7_mark (d + 4) 0 0 (fun r9 h9 => r9 = some (.int (uMark u nb ns (nI j) kd).1) ∧ h9 = (sh, cm_us hi e (uMark u nb ns (nI j) kd).2, hl, hr)) 0 0 86 [some (.ref e), some (.int (nI j)), some (.int kd), some (.int (sumP (fun x => cm_bi (!decide (u 0 8 < uAbs (u 11 x - u 8 j)))) ns)), x4] [] (sh, cm_us hi e u, hl, hr) := by
  have hnb := h.1.2.1
  have hns := h.1.2.2.2
  refine cm_iload2 (pc := 86) dX7_mark_86 ?_
  refine cm_split 1 (fun s87_1 => ?_) (fun s87_1 => ?_)
  · refine cm_tsIn (pc := 87) (tgt := 116) (off := 29) dX7_mark_87 (by decide) (by decide) (by decide +kernel) (by decide) ?_
    refine cm_aload0 (pc := 116) dX7_mark_116 ?_
    refine cm_iload1 (pc := 117) dX7_mark_117 ?_
    refine cm_iconst (pc := 118) (v := 1) dX7_mark_118 (by decide) ?_
    refine cm_V2 (pc := 119) mX7_goers_v mlX7_189 dX7_mark_119 hE.1 (by omega) (Nat.le_of_ble_eq_true rfl) (Nat.le_refl _) (Nat.le_refl _) (r_goers (d := d + 1) hE h hj) (fun r119 h119 hq119 => ?_)
    obtain ⟨rfl, rfl⟩ := hq119
    refine cm_S1 (pc := 122) mX7_sizeOf_s mlX7_192 dX7_mark_122 (by omega) (Nat.le_of_ble_eq_true rfl) (Nat.le_refl _) (Nat.le_refl _) (r_sizeOf (d := d + 3)) (fun r122 h122 hq122 => ?_)
    obtain ⟨rfl, rfl⟩ := hq122
    refine cm_aload0 (pc := 125) dX7_mark_125 ?_
    refine cm_iload1 (pc := 126) dX7_mark_126 ?_
    refine cm_iconst (pc := 127) (v := 1) dX7_mark_127 (by decide) ?_
    refine cm_V2 (pc := 128) mX7_goers_v mlX7_189 dX7_mark_128 hE.1 (by omega) (Nat.le_of_ble_eq_true rfl) (Nat.le_refl _) (Nat.le_refl _) (r_goers (d := d + 1) hE h hj) (fun r128 h128 hq128 => ?_)
    obtain ⟨rfl, rfl⟩ := hq128
    refine cm_if_ne (pc := 131) (tgt := 138) dX7_mark_131 (by decide) (fun c131 => ?_) (fun c131 => ?_)
    · have hg : ¬ uGo u nb j 1 = 0 := c131
      refine cm_iconst (pc := 138) (v := 1) dX7_mark_138 (by decide) ?_
      refine cm_isub (pc := 139) dX7_mark_139 ?_
      exact cm_iret (pc := 140) dX7_mark_140 rfl ⟨by rw [hspec]; show some (Value.int _) = some (Value.int (uMarkV u nb ns j kd)); unfold uMarkV; rw [if_pos s87_1, if_neg hg]; try rfl, by rw [hspec]⟩
    · have hg : uGo u nb j 1 = 0 := c131
      refine cm_iconst (pc := 134) (v := 0) dX7_mark_134 (by decide) ?_
      refine cm_goto (pc := 135) (tgt := 139) dX7_mark_135 (by decide) ?_
      refine cm_isub (pc := 139) dX7_mark_139 ?_
      exact cm_iret (pc := 140) dX7_mark_140 rfl ⟨by rw [hspec]; show some (Value.int _) = some (Value.int (uMarkV u nb ns j kd)); unfold uMarkV; rw [if_pos s87_1, if_pos hg]; try rfl, by rw [hspec]⟩
  refine cm_split 2 (fun s87_2 => ?_) (fun s87_2 => ?_)
  · refine cm_tsIn (pc := 87) (tgt := 141) (off := 54) dX7_mark_87 (by decide) (by decide) (by decide +kernel) (by decide) ?_
    refine cm_iload1 (pc := 141) dX7_mark_141 ?_
    refine cm_if_eq (pc := 142) (tgt := 155) dX7_mark_142 (by decide) (fun c142 => ?_) (fun c142 => ?_)
    · have h0 : j = 0 := by
        rcases Nat.eq_zero_or_pos j with q | q
        · exact q
        · exact absurd c142 (nI_ne0 q (by omega))
      refine cm_iconst (pc := 155) (v := 0) dX7_mark_155 (by decide) ?_
      refine cm_goto (pc := 156) (tgt := 176) dX7_mark_156 (by decide) ?_
      exact cm_iret (pc := 176) dX7_mark_176 rfl ⟨by rw [hspec]; show some (Value.int _) = some (Value.int (uMarkV u nb ns j kd)); unfold uMarkV; rw [if_neg s87_1, if_pos s87_2, if_pos (Or.inl h0)]; try rfl, by rw [hspec]⟩
    · have h0 : ¬ j = 0 := fun w => by subst w; exact c142 rfl
      refine cm_iload1 (pc := 145) dX7_mark_145 ?_
      refine cm_aload0 (pc := 146) dX7_mark_146 ?_
      refine mk_fld (pc := 147) flX7_151 dX7_mark_147 hE.1 ?_
      rw [h.1.1]
      refine cm_iconst (pc := 150) (v := 1) dX7_mark_150 (by decide) ?_
      refine cm_isub (pc := 151) dX7_mark_151 ?_
      rw [show nI nb - 1 = nI (nb - 1) from pk_sub (b := 1) (by omega)]
      refine cm_neN (pc := 152) (tgt := 159) dX7_mark_152 (by decide) (by omega) (by omega) (fun c152 => ?_) (fun c152 => ?_)
      · refine cm_aload0 (pc := 159) dX7_mark_159 ?_
        refine cm_getR (pc := 160) flX7_31 dX7_mark_160 hE.1 hE.r12 ?_
        refine cm_iload1 (pc := 163) dX7_mark_163 ?_
        refine cm_iconst (pc := 164) (v := 1) dX7_mark_164 (by decide) ?_
        refine cm_iadd (pc := 165) dX7_mark_165 ?_
        rw [nI_1]
        refine mk_get (pc := 166) dX7_mark_166 hE.a8 (by omega) (by decide) ?_
        refine cm_aload0 (pc := 167) dX7_mark_167 ?_
        refine cm_getR (pc := 168) flX7_31 dX7_mark_168 hE.1 hE.r12 ?_
        refine cm_iload1 (pc := 171) dX7_mark_171 ?_
        refine cm_iconst (pc := 172) (v := 1) dX7_mark_172 (by decide) ?_
        refine cm_isub (pc := 173) dX7_mark_173 ?_
        rw [show nI j - 1 = nI (j - 1) from pk_sub (b := 1) (by omega)]
        refine mk_get (pc := 174) dX7_mark_174 hE.a8 (by omega) (by decide) ?_
        refine cm_isub (pc := 175) dX7_mark_175 ?_
        exact cm_iret (pc := 176) dX7_mark_176 rfl ⟨by rw [hspec]; show some (Value.int _) = some (Value.int (uMarkV u nb ns j kd)); unfold uMarkV; rw [if_neg s87_1, if_pos s87_2, if_neg (fun w => w.elim h0 (fun w => c152 (by omega)))]; try rfl, by rw [hspec]⟩
      · refine cm_iconst (pc := 155) (v := 0) dX7_mark_155 (by decide) ?_
        refine cm_goto (pc := 156) (tgt := 176) dX7_mark_156 (by decide) ?_
        exact cm_iret (pc := 176) dX7_mark_176 rfl ⟨by rw [hspec]; show some (Value.int _) = some (Value.int (uMarkV u nb ns j kd)); unfold uMarkV; rw [if_neg s87_1, if_pos s87_2, if_pos (Or.inr (by omega))]; try rfl, by rw [hspec]⟩
  refine cm_split 3 (fun s87_3 => ?_) (fun s87_3 => ?_)
  · refine cm_tsIn (pc := 87) (tgt := 177) (off := 90) dX7_mark_87 (by decide) (by decide) (by decide +kernel) (by decide) ?_
    refine cm_aload0 (pc := 177) dX7_mark_177 ?_
    refine cm_iload1 (pc := 178) dX7_mark_178 ?_
    refine cm_iconst (pc := 179) (v := 3) dX7_mark_179 (by decide) ?_
    refine cm_V2 (pc := 180) mX7_farTo_v mlX7_195 dX7_mark_180 hE.1 (by omega) (Nat.le_of_ble_eq_true rfl) (Nat.le_refl _) (Nat.le_refl _) (r_farTo (d := d + 1) hE h hj) (fun r180 h180 hq180 => ?_)
    obtain ⟨rfl, rfl⟩ := hq180
    exact cm_iret (pc := 183) dX7_mark_183 rfl ⟨by rw [hspec]; show some (Value.int _) = some (Value.int (uMarkV u nb ns j kd)); unfold uMarkV; rw [if_neg s87_1, if_neg s87_2, if_pos s87_3]; try rfl, by rw [hspec]⟩
  refine cm_split 4 (fun s87_4 => ?_) (fun s87_4 => ?_)
  · refine cm_tsIn (pc := 87) (tgt := 184) (off := 97) dX7_mark_87 (by decide) (by decide) (by decide +kernel) (by decide) ?_
    refine cm_iload3 (pc := 184) dX7_mark_184 ?_
    exact cm_iret (pc := 185) dX7_mark_185 rfl ⟨by rw [hspec]; show some (Value.int _) = some (Value.int (uMarkV u nb ns j kd)); unfold uMarkV; rw [if_neg s87_1, if_neg s87_2, if_neg s87_3, if_pos s87_4]; try rfl, by rw [hspec]⟩
  refine cm_tsOut (pc := 87) (tgt := 186) dX7_mark_87 (by have := cm_nez s87_1; have := cm_nez s87_2; have := cm_nez s87_3; have := cm_nez s87_4; simp at *; omega) (by decide) ?_
  refine cm_aload0 (pc := 186) dX7_mark_186 ?_
  refine cm_iload1 (pc := 187) dX7_mark_187 ?_
  refine cm_aload0 (pc := 188) dX7_mark_188 ?_
  refine cm_getR (pc := 189) flX7_34 dX7_mark_189 hE.1 hE.r13 ?_
  refine cm_iload1 (pc := 192) dX7_mark_192 ?_
  refine mk_get (pc := 193) dX7_mark_193 hE.a9 (by omega) (by decide) ?_
  refine cm_V2 (pc := 194) mX7_farTo_v mlX7_195 dX7_mark_194 hE.1 (by omega) (Nat.le_of_ble_eq_true rfl) (Nat.le_refl _) (Nat.le_refl _) (r_farTo (d := d + 1) hE h hj) (fun r194 h194 hq194 => ?_)
  obtain ⟨rfl, rfl⟩ := hq194
  exact cm_iret (pc := 197) dX7_mark_197 rfl ⟨by rw [hspec]; show some (Value.int _) = some (Value.int (uMarkV u nb ns j kd)); unfold uMarkV; rw [if_neg s87_1, if_neg s87_2, if_neg s87_3, if_neg s87_4]; try rfl, by rw [hspec]⟩
set_option maxRecDepth 20000 in
theorem l_rmk (hE : cm_mdl sh hr e) {j : Nat} {kd : Int32} (h : uOk u nb ns) (hj : j < nb) (hspec : uMark u nb ns (nI j) kd = (uMarkV u nb ns j kd, u)) : ∀ q k : Nat, k + q = ns → cm_g D mX7_mark (d + 4) 0 0 (fun r9 h9 => r9 = some (.int (uMark u nb ns (nI j) kd).1) ∧ h9 = (sh, cm_us hi e (uMark u nb ns (nI j) kd).2, hl, hr)) 0 0 39 [some (.ref e), some (.int (nI j)), some (.int kd), some (.int (sumP (fun x => cm_bi (!decide (u 0 8 < uAbs (u 11 x - u 8 j)))) k)), some (.int (nI k))] [] (sh, cm_us hi e u, hl, hr) := by
  have hnb := h.1.2.1
  have hns := h.1.2.2.2
  intro q
  induction q with
  | zero =>
    intro k hk
    have h1 : k = ns := by omega
    subst h1
    refine cm_iload4 (pc := 39) dX7_mark_39 ?_
    refine cm_aload0 (pc := 41) dX7_mark_41 ?_
    refine mk_fld (pc := 42) flX7_154 dX7_mark_42 hE.1 ?_
    rw [h.1.2.2.1]
    refine cm_geN (pc := 45) (tgt := 86) dX7_mark_45 (by decide) (by omega) (by omega) (fun c45 => ?_) (fun c45 => ?_)
    · exact t_rmk hE h hj hspec
    · exact absurd c45 (by omega)
  | succ q ih =>
    intro k hk
    have hst := ih (k + 1) (by omega)
    refine cm_iload4 (pc := 39) dX7_mark_39 ?_
    refine cm_aload0 (pc := 41) dX7_mark_41 ?_
    refine mk_fld (pc := 42) flX7_154 dX7_mark_42 hE.1 ?_
    rw [h.1.2.2.1]
    refine cm_geN (pc := 45) (tgt := 86) dX7_mark_45 (by decide) (by omega) (by omega) (fun c45 => ?_) (fun c45 => ?_)
    · exact absurd c45 (by omega)
    · refine cm_iload3 (pc := 48) dX7_mark_48 ?_
      refine cm_aload0 (pc := 49) dX7_mark_49 ?_
      refine cm_getR (pc := 50) flX7_40 dX7_mark_50 hE.1 hE.r15 ?_
      refine cm_iload4 (pc := 53) dX7_mark_53 ?_
      refine mk_get (pc := 55) dX7_mark_55 hE.a11 (by omega) (by decide) ?_
      refine cm_aload0 (pc := 56) dX7_mark_56 ?_
      refine cm_getR (pc := 57) flX7_31 dX7_mark_57 hE.1 hE.r12 ?_
      refine cm_iload1 (pc := 60) dX7_mark_60 ?_
      refine mk_get (pc := 61) dX7_mark_61 hE.a8 (by omega) (by decide) ?_
      refine cm_isub (pc := 62) dX7_mark_62 ?_
      refine cm_S1 (pc := 63) mX7_size_s mlX7_178 dX7_mark_63 (by omega) (Nat.le_of_ble_eq_true rfl) (Nat.le_refl _) (Nat.le_refl _) (r_abs (d := d + 3)) (fun r63 h63 hq63 => ?_)
      obtain ⟨rfl, rfl⟩ := hq63
      refine cm_aload0 (pc := 66) dX7_mark_66 ?_
      refine mk_fld (pc := 67) flX7_157 dX7_mark_67 hE.1 ?_
      refine cm_icmp_gt (pc := 70) (tgt := 77) dX7_mark_70 (by decide) (fun c70 => ?_) (fun c70 => ?_)
      · have c70b : u 0 8 < uAbs (u 11 k - u 8 j) := c70
        have e9 : sumP (fun x => cm_bi (!decide (u 0 8 < uAbs (u 11 x - u 8 j)))) (k + 1) = sumP (fun x => cm_bi (!decide (u 0 8 < uAbs (u 11 x - u 8 j)))) k + 0 := by simp [sumP, cm_bi, c70b]
        rw [e9] at hst
        refine cm_iconst (pc := 77) (v := 0) dX7_mark_77 (by decide) ?_
        refine cm_iadd (pc := 78) dX7_mark_78 ?_
        refine cm_istore3 (pc := 79) dX7_mark_79 (by decide) rfl ?_
        refine cm_incN4 (pc := 80) dX7_mark_80 (by decide) rfl ?_
        refine cm_goto (pc := 83) (tgt := 39) dX7_mark_83 (by decide) ?_
        exact hst
      · have c70b : ¬ u 0 8 < uAbs (u 11 k - u 8 j) := c70
        have e9 : sumP (fun x => cm_bi (!decide (u 0 8 < uAbs (u 11 x - u 8 j)))) (k + 1) = sumP (fun x => cm_bi (!decide (u 0 8 < uAbs (u 11 x - u 8 j)))) k + 1 := by simp [sumP, cm_bi, c70b]
        rw [e9] at hst
        refine cm_iconst (pc := 73) (v := 1) dX7_mark_73 (by decide) ?_
        refine cm_goto (pc := 74) (tgt := 78) dX7_mark_74 (by decide) ?_
        refine cm_iadd (pc := 78) dX7_mark_78 ?_
        refine cm_istore3 (pc := 79) dX7_mark_79 (by decide) rfl ?_
        refine cm_incN4 (pc := 80) dX7_mark_80 (by decide) rfl ?_
        refine cm_goto (pc := 83) (tgt := 39) dX7_mark_83 (by decide) ?_
        exact hst
set_option maxRecDepth 20000 in
theorem r_mark (hE : cm_mdl sh hr e) {i kd : Int32} (h : uOk u nb ns) : cm_ct D mX7_mark (d + 4) 0 0 [.ref e, .int i, .int kd] (sh, cm_us hi e u, hl, hr) (fun r9 h9 => r9 = some (.int (uMark u nb ns i kd).1) ∧ h9 = (sh, cm_us hi e (uMark u nb ns i kd).2, hl, hr)) := by
  have hnb := h.1.2.1
  have hns := h.1.2.2.2
  refine cm_ct_of (ls := [some (.ref e), some (.int i), some (.int kd), none, none]) 2 (by decide +kernel) rfl rfl ?_
  refine cm_aload0 (pc := 0) dX7_mark_0 ?_
  refine cm_iload1 (pc := 1) dX7_mark_1 ?_
  refine cm_V1 (pc := 2) mX7_isBuyer_v mlX7_166 dX7_mark_2 hE.1 (by omega) (Nat.le_of_ble_eq_true rfl) (Nat.le_refl _) (Nat.le_refl _) (r_isBuyer (d := d + 2) hE) (fun r2 h2 hq2 => ?_)
  obtain ⟨rfl, rfl⟩ := hq2
  refine cm_ifeqB (pc := 5) (tgt := 17) dX7_mark_5 (by decide) (fun c5 => ?_) (fun c5 => ?_)
  · refine cm_iconst (pc := 17) (v := -1) dX7_mark_17 (by decide) ?_
    exact cm_iret (pc := 18) dX7_mark_18 rfl ⟨by simp [uMark, *], by simp [uMark, *]⟩
  · obtain ⟨j, hj, rfl⟩ := uIn_b (m := nb) (by rw [← h.1.1]; exact c5) (by omega)
    have hjc : (nI j).toNatClampNeg = j := nI_clamp (by omega)
    refine cm_iload2 (pc := 8) dX7_mark_8 ?_
    refine cm_iconst (pc := 9) (v := 1) dX7_mark_9 (by decide) ?_
    refine cm_iconst (pc := 10) (v := 5) dX7_mark_10 (by decide) ?_
    refine cm_S3 (pc := 11) mX7_in_s mlX7_83 dX7_mark_11 (by omega) (Nat.le_of_ble_eq_true rfl) (Nat.le_refl _) (Nat.le_refl _) (r_in (d := d + 3) ) (fun r11 h11 hq11 => ?_)
    obtain ⟨rfl, rfl⟩ := hq11
    refine cm_ifneB (pc := 14) (tgt := 19) dX7_mark_14 (by decide) (fun c14 => ?_) (fun c14 => ?_)
    · refine cm_aload0 (pc := 19) dX7_mark_19 ?_
      refine cm_iload1 (pc := 20) dX7_mark_20 ?_
      refine cm_iload2 (pc := 21) dX7_mark_21 ?_
      refine cm_V2 (pc := 22) mX7_isA_v mlX7_185 dX7_mark_22 hE.1 (by omega) (Nat.le_of_ble_eq_true rfl) (Nat.le_refl _) (Nat.le_refl _) (r_isA (d := d + 3) hE (i := j) (by omega)) (fun r22 h22 hq22 => ?_)
      obtain ⟨rfl, rfl⟩ := hq22
      refine cm_ifneB (pc := 25) (tgt := 34) dX7_mark_25 (by decide) (fun c25 => ?_) (fun c25 => ?_)
      · have hspec : uMark u nb ns (nI j) kd = (uMarkV u nb ns j kd, u) := by
          unfold uMark
          rw [if_neg (by rw [c5, c14]; decide), hjc, if_pos c25]
        refine cm_iconst (pc := 34) (v := 0) dX7_mark_34 (by decide) ?_
        refine cm_istore3 (pc := 35) dX7_mark_35 (by decide) rfl ?_
        refine cm_iconst (pc := 36) (v := 0) dX7_mark_36 (by decide) ?_
        refine cm_istore4 (pc := 37) dX7_mark_37 (by decide) rfl ?_
        exact l_rmk hE h hj hspec ns 0 (by omega)
      · refine cm_aload0 (pc := 28) dX7_mark_28 ?_
        refine cm_iconst (pc := 29) (v := 3) dX7_mark_29 (by decide) ?_
        refine cm_V1 (pc := 30) mX7_meet_v mlX7_91 dX7_mark_30 hE.1 (by omega) (Nat.le_of_ble_eq_true rfl) (Nat.le_refl _) (Nat.le_refl _) (r_meet (d := d + 3) hE (f := 3) (by decide)) (fun r30 h30 hq30 => ?_)
        obtain ⟨rfl, rfl⟩ := hq30
        exact cm_iret (pc := 33) dX7_mark_33 rfl ⟨by simp [uMark, *], by simp [uMark, *]⟩
    · refine cm_iconst (pc := 17) (v := -1) dX7_mark_17 (by decide) ?_
      exact cm_iret (pc := 18) dX7_mark_18 rfl ⟨by simp [uMark, *], by simp [uMark, *]⟩
set_option maxRecDepth 20000 in
theorem r_want (hE : cm_mdl sh hr e) {i gd : Int32} (h : uOk u nb ns) : cm_ct D mX7_want (d + 2) 0 0 [.ref e, .int i, .int gd] (sh, cm_us hi e u, hl, hr) (fun r9 h9 => r9 = some (.int (uWantC u i gd).1) ∧ h9 = (sh, cm_us hi e (uWantC u i gd).2, hl, hr)) := by
  have hnb := h.1.2.1
  have hns := h.1.2.2.2
  refine cm_ct_of (ls := [some (.ref e), some (.int i), some (.int gd), none]) 1 (by decide +kernel) rfl rfl ?_
  refine cm_aload0 (pc := 0) dX7_want_0 ?_
  refine cm_iload1 (pc := 1) dX7_want_1 ?_
  refine cm_V1 (pc := 2) mX7_isBuyer_v mlX7_166 dX7_want_2 hE.1 (by omega) (Nat.le_of_ble_eq_true rfl) (Nat.le_refl _) (Nat.le_refl _) (r_isBuyer (d := d) hE) (fun r2 h2 hq2 => ?_)
  obtain ⟨rfl, rfl⟩ := hq2
  refine cm_ifeqB (pc := 5) (tgt := 17) dX7_want_5 (by decide) (fun c5 => ?_) (fun c5 => ?_)
  · refine cm_iconst (pc := 17) (v := -1) dX7_want_17 (by decide) ?_
    exact cm_iret (pc := 18) dX7_want_18 rfl ⟨by simp [uWantC, *], by simp [uWantC, *]⟩
  · obtain ⟨j, hj, rfl⟩ := uIn_b (m := nb) (by rw [← h.1.1]; exact c5) (by omega)
    have hjc : (nI j).toNatClampNeg = j := nI_clamp (by omega)
    refine cm_iload2 (pc := 8) dX7_want_8 ?_
    refine cm_iconst (pc := 9) (v := 0) dX7_want_9 (by decide) ?_
    refine cm_iconst (pc := 10) (v := 4) dX7_want_10 (by decide) ?_
    refine cm_S3 (pc := 11) mX7_in_s mlX7_83 dX7_want_11 (by omega) (Nat.le_of_ble_eq_true rfl) (Nat.le_refl _) (Nat.le_refl _) (r_in (d := d + 1) ) (fun r11 h11 hq11 => ?_)
    obtain ⟨rfl, rfl⟩ := hq11
    refine cm_ifneB (pc := 14) (tgt := 19) dX7_want_14 (by decide) (fun c14 => ?_) (fun c14 => ?_)
    · refine cm_aload0 (pc := 19) dX7_want_19 ?_
      refine cm_getR (pc := 20) flX7_34 dX7_want_20 hE.1 hE.r13 ?_
      refine cm_iload1 (pc := 23) dX7_want_23 ?_
      refine mk_get (pc := 24) dX7_want_24 hE.a9 (by omega) (by decide) ?_
      refine cm_istore3 (pc := 25) dX7_want_25 (by decide) rfl ?_
      refine cm_aload0 (pc := 26) dX7_want_26 ?_
      refine cm_getR (pc := 27) flX7_34 dX7_want_27 hE.1 hE.r13 ?_
      refine cm_iload1 (pc := 30) dX7_want_30 ?_
      refine cm_iload2 (pc := 31) dX7_want_31 ?_
      refine mk_put (pc := 32) dX7_want_32 hE.a9 (by omega) (by decide) ?_
      refine cm_iload3 (pc := 33) dX7_want_33 ?_
      exact cm_iret (pc := 34) dX7_want_34 rfl ⟨by simp [uWantC, *], by simp [uWantC, *]⟩
    · refine cm_iconst (pc := 17) (v := -1) dX7_want_17 (by decide) ?_
      exact cm_iret (pc := 18) dX7_want_18 rfl ⟨by simp [uWantC, *], by simp [uWantC, *]⟩
set_option maxRecDepth 20000 in
theorem r_price (hE : cm_mdl sh hr e) {i v : Int32} (h : uOk u nb ns) : cm_ct D mX7_price (d + 2) 0 0 [.ref e, .int i, .int v] (sh, cm_us hi e u, hl, hr) (fun r9 h9 => r9 = some (.int (uPrice u i v).1) ∧ h9 = (sh, cm_us hi e (uPrice u i v).2, hl, hr)) := by
  have hnb := h.1.2.1
  have hns := h.1.2.2.2
  refine cm_ct_of (ls := [some (.ref e), some (.int i), some (.int v), none]) 1 (by decide +kernel) rfl rfl ?_
  refine cm_aload0 (pc := 0) dX7_price_0 ?_
  refine cm_iload1 (pc := 1) dX7_price_1 ?_
  refine cm_V1 (pc := 2) mX7_isStall_v mlX7_172 dX7_price_2 hE.1 (by omega) (Nat.le_of_ble_eq_true rfl) (Nat.le_refl _) (Nat.le_refl _) (r_isStall (d := d) hE) (fun r2 h2 hq2 => ?_)
  obtain ⟨rfl, rfl⟩ := hq2
  refine cm_ifeqB (pc := 5) (tgt := 18) dX7_price_5 (by decide) (fun c5 => ?_) (fun c5 => ?_)
  · refine cm_iconst (pc := 18) (v := -1) dX7_price_18 (by decide) ?_
    exact cm_iret (pc := 19) dX7_price_19 rfl ⟨by simp [uPrice, *], by simp [uPrice, *]⟩
  · obtain ⟨j, hj, rfl⟩ := uIn_b (m := ns) (by rw [← h.1.2.2.1]; exact c5) (by omega)
    have hjc : (nI j).toNatClampNeg = j := nI_clamp (by omega)
    refine cm_iload2 (pc := 8) dX7_price_8 ?_
    refine cm_iconst (pc := 9) (v := 0) dX7_price_9 (by decide) ?_
    refine cm_bipush (pc := 10) (v := 99) dX7_price_10 (by decide) ?_
    refine cm_S3 (pc := 12) mX7_in_s mlX7_83 dX7_price_12 (by omega) (Nat.le_of_ble_eq_true rfl) (Nat.le_refl _) (Nat.le_refl _) (r_in (d := d + 1) ) (fun r12 h12 hq12 => ?_)
    obtain ⟨rfl, rfl⟩ := hq12
    refine cm_ifneB (pc := 15) (tgt := 20) dX7_price_15 (by decide) (fun c15 => ?_) (fun c15 => ?_)
    · refine cm_aload0 (pc := 20) dX7_price_20 ?_
      refine cm_getR (pc := 21) flX7_46 dX7_price_21 hE.1 hE.r17 ?_
      refine cm_iload1 (pc := 24) dX7_price_24 ?_
      refine mk_get (pc := 25) dX7_price_25 hE.a13 (by omega) (by decide) ?_
      refine cm_istore3 (pc := 26) dX7_price_26 (by decide) rfl ?_
      refine cm_aload0 (pc := 27) dX7_price_27 ?_
      refine cm_getR (pc := 28) flX7_46 dX7_price_28 hE.1 hE.r17 ?_
      refine cm_iload1 (pc := 31) dX7_price_31 ?_
      refine cm_iload2 (pc := 32) dX7_price_32 ?_
      refine mk_put (pc := 33) dX7_price_33 hE.a13 (by omega) (by decide) ?_
      refine cm_iload3 (pc := 34) dX7_price_34 ?_
      exact cm_iret (pc := 35) dX7_price_35 rfl ⟨by simp [uPrice, *], by simp [uPrice, *]⟩
    · refine cm_iconst (pc := 18) (v := -1) dX7_price_18 (by decide) ?_
      exact cm_iret (pc := 19) dX7_price_19 rfl ⟨by simp [uPrice, *], by simp [uPrice, *]⟩
set_option maxRecDepth 20000 in
theorem r_wish (hE : cm_mdl sh hr e) {i : Int32} (h : uOk u nb ns) : cm_ct D mX7_wish (d + 3) 0 0 [.ref e, .int i] (sh, cm_us hi e u, hl, hr) (fun r9 h9 => r9 = some (.int (uWishC u ns i).1) ∧ h9 = (sh, cm_us hi e (uWishC u ns i).2, hl, hr)) := by
  have hnb := h.1.2.1
  have hns := h.1.2.2.2
  refine cm_ct_of (ls := [some (.ref e), some (.int i)]) 0 (by decide +kernel) rfl rfl ?_
  refine cm_aload0 (pc := 0) dX7_wish_0 ?_
  refine cm_iload1 (pc := 1) dX7_wish_1 ?_
  refine cm_V1 (pc := 2) mX7_isBuyer_v mlX7_166 dX7_wish_2 hE.1 (by omega) (Nat.le_of_ble_eq_true rfl) (Nat.le_refl _) (Nat.le_refl _) (r_isBuyer (d := d + 1) hE) (fun r2 h2 hq2 => ?_)
  obtain ⟨rfl, rfl⟩ := hq2
  refine cm_ifeqB (pc := 5) (tgt := 21) dX7_wish_5 (by decide) (fun c5 => ?_) (fun c5 => ?_)
  · refine cm_iconst (pc := 21) (v := -1) dX7_wish_21 (by decide) ?_
    exact cm_iret (pc := 22) dX7_wish_22 rfl ⟨by simp [uWishC, *], by simp [uWishC, *]⟩
  · obtain ⟨j, hj, rfl⟩ := uIn_b (m := nb) (by rw [← h.1.1]; exact c5) (by omega)
    have hjc : (nI j).toNatClampNeg = j := nI_clamp (by omega)
    refine cm_aload0 (pc := 8) dX7_wish_8 ?_
    refine cm_aload0 (pc := 9) dX7_wish_9 ?_
    refine cm_iload1 (pc := 10) dX7_wish_10 ?_
    refine cm_V1 (pc := 11) mX7_wishOf_v mlX7_198 dX7_wish_11 hE.1 (by omega) (Nat.le_of_ble_eq_true rfl) (Nat.le_refl _) (Nat.le_refl _) (r_wishOf (d := d) hE h hj) (fun r11 h11 hq11 => ?_)
    obtain ⟨rfl, rfl⟩ := hq11
    refine cm_iconst (pc := 14) (v := 1) dX7_wish_14 (by decide) ?_
    refine cm_V2 (pc := 15) mX7_ask_v mlX7_109 dX7_wish_15 hE.1 (by omega) (Nat.le_of_ble_eq_true rfl) (Nat.le_refl _) (Nat.le_refl _) (r_ask (d := d + 2) hE) (fun r15 h15 hq15 => ?_)
    obtain ⟨rfl, rfl⟩ := hq15
    refine cm_goto (pc := 18) (tgt := 22) dX7_wish_18 (by decide) ?_
    exact cm_iret (pc := 22) dX7_wish_22 rfl ⟨by simp [uWishC, *], by simp [uWishC, *]⟩
set_option maxRecDepth 20000 in
theorem l_wr (hE : cm_mdl sh hr e) {cc at_ N : Nat} (hcc : cc ≠ 0 ∧ cc ≠ 8 ∧ cc ≠ 9 ∧ cc ≠ 10 ∧ cc ≠ 14) (hA : cm_ar sh (e + cc) 0 N) (hN : at_ + 24 ≤ N) (hN2 : N < 2147483648) : ∀ q k : Nat, k + q = 6 → ∀ W, wrOk u W cc at_ k → cm_g D mX7_write d 0 0 (fun r9 h9 => r9 = none ∧ ∃ v, h9 = (sh, cm_us hi e v, hl, hr) ∧ wrOk u v cc at_ 6) 0 0 2 [some (.ref e), some (.ref (e + cc)), some (.int (nI at_)), some (.int (nI k))] [] (sh, cm_us hi e (W), hl, hr) := by
  intro q
  induction q with
  | zero =>
    intro k hk W hV
    have h1 : k = 6 := by omega
    subst h1
    refine cm_iload3 (pc := 2) dX7_write_2 ?_
    refine cm_bipush (pc := 3) (v := 6) dX7_write_3 (by decide) ?_
    refine cm_icmp_ge (pc := 5) (tgt := 67) dX7_write_5 (by decide) (fun c5 => ?_) (fun q => absurd (by decide) q)
    exact cm_vret (pc := 67) dX7_write_67 rfl ⟨rfl, W, rfl, hV⟩
  | succ q ih =>
    intro k hk W hV
    have hst := ih (k + 1) (by omega)
    refine cm_iload3 (pc := 2) dX7_write_2 ?_
    refine cm_bipush (pc := 3) (v := 6) dX7_write_3 (by decide) ?_
    refine cm_icmp_ge (pc := 5) (tgt := 67) dX7_write_5 (by decide) (fun q => absurd q (nI_ge (a := k) (b := 6) (by omega) (by omega))) (fun c5 => ?_)
    refine cm_aload1 (pc := 8) dX7_write_8 ?_
    refine cm_iload2 (pc := 9) dX7_write_9 ?_
    refine cm_iload3 (pc := 10) dX7_write_10 ?_
    refine cm_iadd (pc := 11) dX7_write_11 ?_
    rw [nI_add]
    refine cm_aload0 (pc := 12) dX7_write_12 ?_
    refine cm_getR (pc := 13) flX7_31 dX7_write_13 hE.1 hE.r12 ?_
    refine cm_iload3 (pc := 16) dX7_write_16 ?_
    refine mk_get (pc := 17) dX7_write_17 hE.a8 (by omega) (by decide) ?_
    refine mk_putE (pc := 18) (at_ + k) dX7_write_18 hA rfl (by omega) hN2 ?_
    refine cm_mkG (fun G18 e18 f18 => ?_)
    refine cm_aload1 (pc := 19) dX7_write_19 ?_
    refine cm_iload2 (pc := 20) dX7_write_20 ?_
    refine cm_bipush (pc := 21) (v := 6) dX7_write_21 (by decide) ?_
    refine cm_iadd (pc := 23) dX7_write_23 ?_
    rw [show nI at_ + 6 = nI (at_ + 6) by rw [show (6 : Int32) = nI 6 from rfl, nI_add]]
    refine cm_iload3 (pc := 24) dX7_write_24 ?_
    refine cm_iadd (pc := 25) dX7_write_25 ?_
    rw [nI_add]
    refine cm_aload0 (pc := 26) dX7_write_26 ?_
    refine cm_getR (pc := 27) flX7_34 dX7_write_27 hE.1 hE.r13 ?_
    refine cm_iload3 (pc := 30) dX7_write_30 ?_
    refine mk_get (pc := 31) dX7_write_31 hE.a9 (by omega) (by decide) ?_
    refine mk_putE (pc := 32) (at_ + 6 + k) dX7_write_32 hA rfl (by omega) hN2 ?_
    refine cm_mkG (fun G32 e32 f32 => ?_)
    refine cm_aload1 (pc := 33) dX7_write_33 ?_
    refine cm_iload2 (pc := 34) dX7_write_34 ?_
    refine cm_bipush (pc := 35) (v := 12) dX7_write_35 (by decide) ?_
    refine cm_iadd (pc := 37) dX7_write_37 ?_
    rw [show nI at_ + 12 = nI (at_ + 12) by rw [show (12 : Int32) = nI 12 from rfl, nI_add]]
    refine cm_iload3 (pc := 38) dX7_write_38 ?_
    refine cm_iadd (pc := 39) dX7_write_39 ?_
    rw [nI_add]
    refine cm_aload0 (pc := 40) dX7_write_40 ?_
    refine cm_getR (pc := 41) flX7_37 dX7_write_41 hE.1 hE.r14 ?_
    refine cm_iload3 (pc := 44) dX7_write_44 ?_
    refine mk_get (pc := 45) dX7_write_45 hE.a10 (by omega) (by decide) ?_
    refine mk_putE (pc := 46) (at_ + 12 + k) dX7_write_46 hA rfl (by omega) hN2 ?_
    refine cm_mkG (fun G46 e46 f46 => ?_)
    refine cm_aload1 (pc := 47) dX7_write_47 ?_
    refine cm_iload2 (pc := 48) dX7_write_48 ?_
    refine cm_bipush (pc := 49) (v := 18) dX7_write_49 (by decide) ?_
    refine cm_iadd (pc := 51) dX7_write_51 ?_
    rw [show nI at_ + 18 = nI (at_ + 18) by rw [show (18 : Int32) = nI 18 from rfl, nI_add]]
    refine cm_iload3 (pc := 52) dX7_write_52 ?_
    refine cm_iadd (pc := 53) dX7_write_53 ?_
    rw [nI_add]
    refine cm_aload0 (pc := 54) dX7_write_54 ?_
    refine cm_getR (pc := 55) flX7_49 dX7_write_55 hE.1 hE.r18 ?_
    refine cm_iload3 (pc := 58) dX7_write_58 ?_
    refine mk_get (pc := 59) dX7_write_59 hE.a14 (by omega) (by decide) ?_
    refine mk_putE (pc := 60) (at_ + 18 + k) dX7_write_60 hA rfl (by omega) hN2 ?_
    refine cm_mkG (fun G60 e60 f60 => ?_)
    refine cm_incN3 (pc := 61) dX7_write_61 (by decide) rfl ?_
    refine cm_goto (pc := 64) (tgt := 2) dX7_write_64 (by decide) ?_
    refine hst G60 ⟨fun c hc => by rw [e60 c hc, e46 c hc, e32 c hc, e18 c hc]; exact hV.1 c hc, fun x => ?_⟩
    have a8 : W 8 k = u 8 k := by rw [hV.1 8 (by omega)]
    have a9 : G18 9 k = u 9 k := by rw [e18 9 (by omega), hV.1 9 (by omega)]
    have a10 : G32 10 k = u 10 k := by rw [e32 10 (by omega), e18 10 (by omega), hV.1 10 (by omega)]
    have a14 : G46 14 k = u 14 k := by rw [e46 14 (by omega), e32 14 (by omega), e18 14 (by omega), hV.1 14 (by omega)]
    rw [f60, f46, f32, f18, a8, a9, a10, a14]
    unfold upd
    by_cases q4 : x = at_ + 18 + k
    · rw [if_pos q4, if_pos (by omega)]
      unfold uBk
      rw [if_neg (by omega), if_neg (by omega), if_neg (by omega), show x - at_ - 18 = k by omega]
    · rw [if_neg q4]
      by_cases q3 : x = at_ + 12 + k
      · rw [if_pos q3, if_pos (by omega)]
        unfold uBk
        rw [if_neg (by omega), if_neg (by omega), if_pos (by omega), show x - at_ - 12 = k by omega]
      · rw [if_neg q3]
        by_cases q2 : x = at_ + 6 + k
        · rw [if_pos q2, if_pos (by omega)]
          unfold uBk
          rw [if_neg (by omega), if_pos (by omega), show x - at_ - 6 = k by omega]
        · rw [if_neg q2]
          by_cases q1 : x = at_ + k
          · rw [if_pos q1, if_pos (by omega)]
            unfold uBk
            rw [if_pos (by omega), show x - at_ = k by omega]
          · rw [if_neg q1, hV.2 x]
            by_cases q0 : at_ ≤ x ∧ x < at_ + 24 ∧ (x - at_) % 6 < k
            · rw [if_pos q0, if_pos (by omega)]
            · rw [if_neg q0, if_neg (by omega)]
set_option maxRecDepth 20000 in
theorem r_write (hE : cm_mdl sh hr e) {cc at_ N : Nat} (hcc : cc ≠ 0 ∧ cc ≠ 8 ∧ cc ≠ 9 ∧ cc ≠ 10 ∧ cc ≠ 14) (hA : cm_ar sh (e + cc) 0 N) (hN : at_ + 24 ≤ N) (hN2 : N < 2147483648) : cm_ct D mX7_write d 0 0 [.ref e, .ref (e + cc), .int (nI at_)] (sh, cm_us hi e u, hl, hr) (fun r9 h9 => r9 = none ∧ ∃ v, h9 = (sh, cm_us hi e v, hl, hr) ∧ wrOk u v cc at_ 6) := by
  refine cm_ct_of (ls := [some (.ref e), some (.ref (e + cc)), some (.int (nI at_)), none]) 1 (by decide +kernel) rfl rfl ?_
  refine cm_iconst (pc := 0) (v := 0) dX7_write_0 (by decide) ?_
  refine cm_istore3 (pc := 1) dX7_write_1 (by decide) rfl ?_
  exact l_wr hE hcc hA hN hN2 6 0 (by omega) u ⟨fun _ _ => rfl, fun x => by rw [if_neg (by omega)]⟩
set_option maxRecDepth 20000 in
theorem l_rd (hE : cm_mdl sh hr e) {cc at_ N : Nat} (hcc : cc ≠ 0 ∧ cc ≠ 8 ∧ cc ≠ 9 ∧ cc ≠ 10 ∧ cc ≠ 14) (hA : cm_ar sh (e + cc) 0 N) (hN : at_ + 24 ≤ N) (hN2 : N < 2147483648) : ∀ q k : Nat, k + q = 6 → ∀ W, rdOk u W cc at_ k → cm_g D mX7_read d 0 0 (fun r9 h9 => r9 = none ∧ ∃ v, h9 = (sh, cm_us hi e v, hl, hr) ∧ rdOk u v cc at_ 6) 0 0 2 [some (.ref e), some (.ref (e + cc)), some (.int (nI at_)), some (.int (nI k))] [] (sh, cm_us hi e (W), hl, hr) := by
  intro q
  induction q with
  | zero =>
    intro k hk W hV
    have h1 : k = 6 := by omega
    subst h1
    refine cm_iload3 (pc := 2) dX7_read_2 ?_
    refine cm_bipush (pc := 3) (v := 6) dX7_read_3 (by decide) ?_
    refine cm_icmp_ge (pc := 5) (tgt := 67) dX7_read_5 (by decide) (fun c5 => ?_) (fun q => absurd (by decide) q)
    exact cm_vret (pc := 67) dX7_read_67 rfl ⟨rfl, W, rfl, hV⟩
  | succ q ih =>
    intro k hk W hV
    have hst := ih (k + 1) (by omega)
    refine cm_iload3 (pc := 2) dX7_read_2 ?_
    refine cm_bipush (pc := 3) (v := 6) dX7_read_3 (by decide) ?_
    refine cm_icmp_ge (pc := 5) (tgt := 67) dX7_read_5 (by decide) (fun q => absurd q (nI_ge (a := k) (b := 6) (by omega) (by omega))) (fun c5 => ?_)
    refine cm_aload0 (pc := 8) dX7_read_8 ?_
    refine cm_getR (pc := 9) flX7_31 dX7_read_9 hE.1 hE.r12 ?_
    refine cm_iload3 (pc := 12) dX7_read_12 ?_
    refine cm_aload1 (pc := 13) dX7_read_13 ?_
    refine cm_iload2 (pc := 14) dX7_read_14 ?_
    refine cm_iload3 (pc := 15) dX7_read_15 ?_
    refine cm_iadd (pc := 16) dX7_read_16 ?_
    rw [nI_add]
    refine mk_getE (pc := 17) (at_ + k) dX7_read_17 hA rfl (by omega) hN2 ?_
    refine mk_put (pc := 18) dX7_read_18 hE.a8 (by omega) (by decide) ?_
    refine cm_mkG (fun G18 e18 f18 => ?_)
    refine cm_aload0 (pc := 19) dX7_read_19 ?_
    refine cm_getR (pc := 20) flX7_34 dX7_read_20 hE.1 hE.r13 ?_
    refine cm_iload3 (pc := 23) dX7_read_23 ?_
    refine cm_aload1 (pc := 24) dX7_read_24 ?_
    refine cm_iload2 (pc := 25) dX7_read_25 ?_
    refine cm_bipush (pc := 26) (v := 6) dX7_read_26 (by decide) ?_
    refine cm_iadd (pc := 28) dX7_read_28 ?_
    rw [show nI at_ + 6 = nI (at_ + 6) by rw [show (6 : Int32) = nI 6 from rfl, nI_add]]
    refine cm_iload3 (pc := 29) dX7_read_29 ?_
    refine cm_iadd (pc := 30) dX7_read_30 ?_
    rw [nI_add]
    refine mk_getE (pc := 31) (at_ + 6 + k) dX7_read_31 hA rfl (by omega) hN2 ?_
    refine mk_put (pc := 32) dX7_read_32 hE.a9 (by omega) (by decide) ?_
    refine cm_mkG (fun G32 e32 f32 => ?_)
    refine cm_aload0 (pc := 33) dX7_read_33 ?_
    refine cm_getR (pc := 34) flX7_37 dX7_read_34 hE.1 hE.r14 ?_
    refine cm_iload3 (pc := 37) dX7_read_37 ?_
    refine cm_aload1 (pc := 38) dX7_read_38 ?_
    refine cm_iload2 (pc := 39) dX7_read_39 ?_
    refine cm_bipush (pc := 40) (v := 12) dX7_read_40 (by decide) ?_
    refine cm_iadd (pc := 42) dX7_read_42 ?_
    rw [show nI at_ + 12 = nI (at_ + 12) by rw [show (12 : Int32) = nI 12 from rfl, nI_add]]
    refine cm_iload3 (pc := 43) dX7_read_43 ?_
    refine cm_iadd (pc := 44) dX7_read_44 ?_
    rw [nI_add]
    refine mk_getE (pc := 45) (at_ + 12 + k) dX7_read_45 hA rfl (by omega) hN2 ?_
    refine mk_put (pc := 46) dX7_read_46 hE.a10 (by omega) (by decide) ?_
    refine cm_mkG (fun G46 e46 f46 => ?_)
    refine cm_aload0 (pc := 47) dX7_read_47 ?_
    refine cm_getR (pc := 48) flX7_49 dX7_read_48 hE.1 hE.r18 ?_
    refine cm_iload3 (pc := 51) dX7_read_51 ?_
    refine cm_aload1 (pc := 52) dX7_read_52 ?_
    refine cm_iload2 (pc := 53) dX7_read_53 ?_
    refine cm_bipush (pc := 54) (v := 18) dX7_read_54 (by decide) ?_
    refine cm_iadd (pc := 56) dX7_read_56 ?_
    rw [show nI at_ + 18 = nI (at_ + 18) by rw [show (18 : Int32) = nI 18 from rfl, nI_add]]
    refine cm_iload3 (pc := 57) dX7_read_57 ?_
    refine cm_iadd (pc := 58) dX7_read_58 ?_
    rw [nI_add]
    refine mk_getE (pc := 59) (at_ + 18 + k) dX7_read_59 hA rfl (by omega) hN2 ?_
    refine mk_put (pc := 60) dX7_read_60 hE.a14 (by omega) (by decide) ?_
    refine cm_mkG (fun G60 e60 f60 => ?_)
    refine cm_incN3 (pc := 61) dX7_read_61 (by decide) rfl ?_
    refine cm_goto (pc := 64) (tgt := 2) dX7_read_64 (by decide) ?_
    have a1 : W cc = u cc := hV.1 cc (by omega) (by omega) (by omega) (by omega)
    have a2 : G18 cc = u cc := by rw [e18 cc (by omega), a1]
    have a3 : G32 cc = u cc := by rw [e32 cc (by omega), a2]
    have a4 : G46 cc = u cc := by rw [e46 cc (by omega), a3]
    rw [a1] at f18
    rw [a2] at f32
    rw [a3] at f46
    rw [a4] at f60
    refine hst G60 ⟨fun c h8 h9 h10 h14 => by rw [e60 c h14, e46 c h10, e32 c h9, e18 c h8]; exact hV.1 c h8 h9 h10 h14, fun i => ⟨?_, ?_, ?_, ?_⟩⟩
    · rw [e60 8 (by decide), e46 8 (by decide), e32 8 (by decide), f18]
      unfold upd
      by_cases q9 : i = k
      · subst q9; rw [if_pos rfl, if_pos (by omega)]
      · rw [if_neg q9, (hV.2 i).1]
        by_cases q8 : i < k
        · rw [if_pos q8, if_pos (by omega)]
        · rw [if_neg q8, if_neg (by omega)]
    · rw [e60 9 (by decide), e46 9 (by decide), f32]
      unfold upd
      by_cases q9 : i = k
      · subst q9; rw [if_pos rfl, if_pos (by omega)]
      · rw [if_neg q9, e18 9 (by decide), (hV.2 i).2.1]
        by_cases q8 : i < k
        · rw [if_pos q8, if_pos (by omega)]
        · rw [if_neg q8, if_neg (by omega)]
    · rw [e60 10 (by decide), f46]
      unfold upd
      by_cases q9 : i = k
      · subst q9; rw [if_pos rfl, if_pos (by omega)]
      · rw [if_neg q9, e32 10 (by decide), e18 10 (by decide), (hV.2 i).2.2.1]
        by_cases q8 : i < k
        · rw [if_pos q8, if_pos (by omega)]
        · rw [if_neg q8, if_neg (by omega)]
    · rw [f60]
      unfold upd
      by_cases q9 : i = k
      · subst q9; rw [if_pos rfl, if_pos (by omega)]
      · rw [if_neg q9, e46 14 (by decide), e32 14 (by decide), e18 14 (by decide), (hV.2 i).2.2.2]
        by_cases q8 : i < k
        · rw [if_pos q8, if_pos (by omega)]
        · rw [if_neg q8, if_neg (by omega)]
set_option maxRecDepth 20000 in
theorem r_read (hE : cm_mdl sh hr e) {cc at_ N : Nat} (hcc : cc ≠ 0 ∧ cc ≠ 8 ∧ cc ≠ 9 ∧ cc ≠ 10 ∧ cc ≠ 14) (hA : cm_ar sh (e + cc) 0 N) (hN : at_ + 24 ≤ N) (hN2 : N < 2147483648) : cm_ct D mX7_read d 0 0 [.ref e, .ref (e + cc), .int (nI at_)] (sh, cm_us hi e u, hl, hr) (fun r9 h9 => r9 = none ∧ ∃ v, h9 = (sh, cm_us hi e v, hl, hr) ∧ rdOk u v cc at_ 6) := by
  refine cm_ct_of (ls := [some (.ref e), some (.ref (e + cc)), some (.int (nI at_)), none]) 1 (by decide +kernel) rfl rfl ?_
  refine cm_iconst (pc := 0) (v := 0) dX7_read_0 (by decide) ?_
  refine cm_istore3 (pc := 1) dX7_read_1 (by decide) rfl ?_
  exact l_rd hE hcc hA hN hN2 6 0 (by omega) u ⟨fun _ _ _ _ _ => rfl, fun i => by simp⟩
set_option maxRecDepth 20000 in
theorem l_rshs (hE : cm_mdl sh hr e) {mv : Int32} (h : uOk u nb ns) : ∀ q k : Nat, k + q = ns → cm_g D mX7_shadedBy (d + 2) 0 0 (fun r9 h9 => r9 = some (.int (uShs u nb mv ns)) ∧ h9 = (sh, cm_us hi e u, hl, hr)) 0 0 4 [some (.ref e), some (.int mv), some (.int (uShs u nb mv k)), some (.int (nI k))] [] (sh, cm_us hi e u, hl, hr) := by
  have hnb := h.1.2.1
  have hns := h.1.2.2.2
  intro q
  induction q with
  | zero =>
    intro k hk
    have h1 : k = ns := by omega
    subst h1
    refine cm_iload3 (pc := 4) dX7_shadedBy_4 ?_
    refine cm_aload0 (pc := 5) dX7_shadedBy_5 ?_
    refine mk_fld (pc := 6) flX7_154 dX7_shadedBy_6 hE.1 ?_
    rw [h.1.2.2.1]
    refine cm_geN (pc := 9) (tgt := 42) dX7_shadedBy_9 (by decide) (by omega) (by omega) (fun c9 => ?_) (fun c9 => ?_)
    · refine cm_iload2 (pc := 42) dX7_shadedBy_42 ?_
      exact cm_iret (pc := 43) dX7_shadedBy_43 rfl ⟨rfl, rfl⟩
    · exact absurd c9 (by omega)
  | succ q ih =>
    intro k hk
    have hst := ih (k + 1) (by omega)
    refine cm_iload3 (pc := 4) dX7_shadedBy_4 ?_
    refine cm_aload0 (pc := 5) dX7_shadedBy_5 ?_
    refine mk_fld (pc := 6) flX7_154 dX7_shadedBy_6 hE.1 ?_
    rw [h.1.2.2.1]
    refine cm_geN (pc := 9) (tgt := 42) dX7_shadedBy_9 (by decide) (by omega) (by omega) (fun c9 => ?_) (fun c9 => ?_)
    · exact absurd c9 (by omega)
    · refine cm_iload2 (pc := 12) dX7_shadedBy_12 ?_
      refine cm_aload0 (pc := 13) dX7_shadedBy_13 ?_
      refine cm_aload0 (pc := 14) dX7_shadedBy_14 ?_
      refine cm_getR (pc := 15) flX7_40 dX7_shadedBy_15 hE.1 hE.r15 ?_
      refine cm_iload3 (pc := 18) dX7_shadedBy_18 ?_
      refine mk_get (pc := 19) dX7_shadedBy_19 hE.a11 (by omega) (by decide) ?_
      refine cm_iload1 (pc := 20) dX7_shadedBy_20 ?_
      refine cm_V2 (pc := 21) mX7_isShaded_v mlX7_234 dX7_shadedBy_21 hE.1 (by omega) (Nat.le_of_ble_eq_true rfl) (Nat.le_refl _) (Nat.le_refl _) (r_isShaded (d := d) hE h.1.1 h.1.2.1) (fun r21 h21 hq21 => ?_)
      obtain ⟨rfl, rfl⟩ := hq21
      refine cm_ifeqB (pc := 24) (tgt := 33) dX7_shadedBy_24 (by decide) (fun c24 => ?_) (fun c24 => ?_)
      · rw [show uShs u nb mv (k + 1) = uShs u nb mv k ||| 0 by simp only [uShs]; rw [if_neg (by rw [c24]; decide)]] at hst
        refine cm_iconst (pc := 33) (v := 0) dX7_shadedBy_33 (by decide) ?_
        refine cm_ior (pc := 34) dX7_shadedBy_34 ?_
        refine cm_istore2 (pc := 35) dX7_shadedBy_35 (by decide) rfl ?_
        refine cm_incN3 (pc := 36) dX7_shadedBy_36 (by decide) rfl ?_
        refine cm_goto (pc := 39) (tgt := 4) dX7_shadedBy_39 (by decide) ?_
        exact hst
      · rw [show uShs u nb mv (k + 1) = uShs u nb mv k ||| (1 <<< (nI k &&& 31)) by simp only [uShs]; rw [if_pos c24]] at hst
        refine cm_iconst (pc := 27) (v := 1) dX7_shadedBy_27 (by decide) ?_
        refine cm_iload3 (pc := 28) dX7_shadedBy_28 ?_
        refine cm_ishl (pc := 29) dX7_shadedBy_29 ?_
        refine cm_goto (pc := 30) (tgt := 34) dX7_shadedBy_30 (by decide) ?_
        refine cm_ior (pc := 34) dX7_shadedBy_34 ?_
        refine cm_istore2 (pc := 35) dX7_shadedBy_35 (by decide) rfl ?_
        refine cm_incN3 (pc := 36) dX7_shadedBy_36 (by decide) rfl ?_
        refine cm_goto (pc := 39) (tgt := 4) dX7_shadedBy_39 (by decide) ?_
        exact hst
set_option maxRecDepth 20000 in
theorem r_shadedBy (hE : cm_mdl sh hr e) {mv : Int32} (h : uOk u nb ns) : cm_ct D mX7_shadedBy (d + 2) 0 0 [.ref e, .int mv] (sh, cm_us hi e u, hl, hr) (fun r9 h9 => r9 = some (.int (uShs u nb mv ns)) ∧ h9 = (sh, cm_us hi e u, hl, hr)) := by
  refine cm_ct_of (ls := [some (.ref e), some (.int mv), none, none]) 2 (by decide +kernel) rfl rfl ?_
  refine cm_iconst (pc := 0) (v := 0) dX7_shadedBy_0 (by decide) ?_
  refine cm_istore2 (pc := 1) dX7_shadedBy_1 (by decide) rfl ?_
  refine cm_iconst (pc := 2) (v := 0) dX7_shadedBy_2 (by decide) ?_
  refine cm_istore3 (pc := 3) dX7_shadedBy_3 (by decide) rfl ?_
  exact l_rshs hE h ns 0 (by omega)
set_option maxRecDepth 20000 in
theorem r_shaded (hE : cm_mdl sh hr e) (h : uOk u nb ns) : cm_ct D mX7_shaded (d + 3) 0 0 [.ref e] (sh, cm_us hi e u, hl, hr) (fun r9 h9 => r9 = some (.int (uShs u nb (uSun u) ns)) ∧ h9 = (sh, cm_us hi e u, hl, hr)) := by
  refine cm_ct_of (ls := [some (.ref e)]) 0 (by decide +kernel) rfl rfl ?_
  refine cm_aload0 (pc := 0) dX7_shaded_0 ?_
  refine cm_aload0 (pc := 1) dX7_shaded_1 ?_
  refine cm_V0 (pc := 2) mX7_sunNow_v mlX7_224 dX7_shaded_2 hE.1 (by omega) (Nat.le_of_ble_eq_true rfl) (Nat.le_refl _) (Nat.le_refl _) (r_sun (d := d + 2) hE) (fun r2 h2 hq2 => ?_)
  obtain ⟨rfl, rfl⟩ := hq2
  refine cm_V1 (pc := 5) mX7_shadedBy_v mlX7_247 dX7_shaded_5 hE.1 (by omega) (Nat.le_of_ble_eq_true rfl) (Nat.le_refl _) (Nat.le_refl _) (r_shadedBy (d := d) hE h) (fun r5 h5 hq5 => ?_)
  obtain ⟨rfl, rfl⟩ := hq5
  exact cm_iret (pc := 8) dX7_shaded_8 rfl ⟨rfl, rfl⟩
def uShade (u : cm_g2) (nb : Nat) : Int32 × cm_g2 := if u 0 9 = 0 then (-4, u) else (u 8 (nb - 1) - u 8 0 + 1, uAsk u (u 8 0 + uSun u))
set_option maxRecDepth 20000 in
theorem r_shade (hE : cm_mdl sh hr e) (h : uOk u nb ns) : cm_ct D mX7_shade (d + 1) 0 0 [.ref e] (sh, cm_us hi e u, hl, hr) (fun r9 h9 => r9 = some (.int (uShade u nb).1) ∧ h9 = (sh, cm_us hi e (uShade u nb).2, hl, hr)) := by
  have hnb := h.1.2.1
  have hns := h.1.2.2.2
  refine cm_ct_of (ls := [some (.ref e)]) 0 (by decide +kernel) rfl rfl ?_
  refine cm_aload0 (pc := 0) dX7_shade_0 ?_
  refine mk_fld (pc := 1) flX7_151 dX7_shade_1 hE.1 ?_
  refine cm_if_ne (pc := 4) (tgt := 12) dX7_shade_4 (by decide) (fun c4 => ?_) (fun c4 => ?_)
  · have h0 : 0 < nb := by
      rcases Nat.eq_zero_or_pos nb with w | w
      · subst w; exact absurd h.1.1 c4
      · exact w
    refine cm_aload0 (pc := 12) dX7_shade_12 ?_
    refine cm_aload0 (pc := 13) dX7_shade_13 ?_
    refine cm_getR (pc := 14) flX7_31 dX7_shade_14 hE.1 hE.r12 ?_
    refine cm_iconst (pc := 17) (v := 0) dX7_shade_17 (by decide) ?_
    refine mk_getE (pc := 18) (0) dX7_shade_18 hE.a8 rfl (by omega) (by decide) ?_
    refine cm_aload0 (pc := 19) dX7_shade_19 ?_
    refine cm_V0 (pc := 20) mX7_sunNow_v mlX7_224 dX7_shade_20 hE.1 (by omega) (Nat.le_of_ble_eq_true rfl) (Nat.le_refl _) (Nat.le_refl _) (r_sun (d := d) hE) (fun r20 h20 hq20 => ?_)
    obtain ⟨rfl, rfl⟩ := hq20
    refine cm_iadd (pc := 23) dX7_shade_23 ?_
    refine cm_aload0 (pc := 24) dX7_shade_24 ?_
    refine cm_getR (pc := 25) flX7_31 dX7_shade_25 hE.1 hE.r12 ?_
    refine cm_aload0 (pc := 28) dX7_shade_28 ?_
    refine mk_fld (pc := 29) flX7_151 dX7_shade_29 hE.1 ?_
    refine cm_top_eq h.1.1 ?_
    refine cm_iconst (pc := 32) (v := 1) dX7_shade_32 (by decide) ?_
    refine cm_isub (pc := 33) dX7_shade_33 ?_
    rw [show nI nb - 1 = nI (nb - 1) from pk_sub (b := 1) (by omega)]
    refine mk_get (pc := 34) dX7_shade_34 hE.a8 (by omega) (by decide) ?_
    refine cm_aload0 (pc := 35) dX7_shade_35 ?_
    refine cm_getR (pc := 36) flX7_31 dX7_shade_36 hE.1 hE.r12 ?_
    refine cm_iconst (pc := 39) (v := 0) dX7_shade_39 (by decide) ?_
    refine mk_getE (pc := 40) (0) dX7_shade_40 hE.a8 rfl (by omega) (by decide) ?_
    refine cm_isub (pc := 41) dX7_shade_41 ?_
    refine cm_iconst (pc := 42) (v := 1) dX7_shade_42 (by decide) ?_
    refine cm_iadd (pc := 43) dX7_shade_43 ?_
    refine cm_V2 (pc := 44) mX7_ask_v mlX7_109 dX7_shade_44 hE.1 (by omega) (Nat.le_of_ble_eq_true rfl) (Nat.le_refl _) (Nat.le_refl _) (r_ask (d := d) hE) (fun r44 h44 hq44 => ?_)
    obtain ⟨rfl, rfl⟩ := hq44
    exact cm_iret (pc := 47) dX7_shade_47 rfl ⟨by simp [uShade, *], by simp [uShade, *]⟩
  · refine cm_bipush (pc := 7) (v := -4) dX7_shade_7 (by decide) ?_
    refine cm_goto (pc := 9) (tgt := 47) dX7_shade_9 (by decide) ?_
    exact cm_iret (pc := 47) dX7_shade_47 rfl ⟨by simp [uShade, *], by simp [uShade, *]⟩
end U2
