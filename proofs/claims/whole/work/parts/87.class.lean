/-! PART class: the class laid -/
section IN1
variable {D : cm_D} {d a n : Nat} {sh : List cm_Sh} {hi : cm_g2} {hl : Nat → Nat → Int64} {hr : Nat → Nat → Option Nat} {x : Int32}
def hC6 : cm_H := ((shM ((shM ((shM ((((((((((((((((((((((((shM (((((shM (((((shM ((((((shM ((((cm_h0.1 ++ [Sum.inl 6]) ++ [.inr (2, 6)]) ++ [.inr (2, 4)]) ++ [.inl 2])) ++ [.inr (3, 3)]) ++ [.inl 1]) ++ [.inr (0, 1440)]) ++ [.inl 3]) ++ [.inl 2])) ++ [.inl 4]) ++ [.inr (0, 0)]) ++ [.inl 0]) ++ [.inl 2])) ++ [.inr (0, 6)]) ++ [.inr (1, 7)]) ++ [.inl 5]) ++ [.inl 2])) ++ [.inr (0, 6)]) ++ [.inr (0, 6)]) ++ [.inl 4]) ++ [.inr (0, 40)]) ++ [.inl 4]) ++ [.inr (0, 40)]) ++ [.inl 4]) ++ [.inr (0, 40)]) ++ [.inl 4]) ++ [.inr (0, 40)]) ++ [.inl 4]) ++ [.inr (0, 40)]) ++ [.inl 4]) ++ [.inr (0, 40)]) ++ [.inl 4]) ++ [.inr (0, 80)]) ++ [.inl 4]) ++ [.inr (0, 80)]) ++ [.inl 4]) ++ [.inr (0, 80)]) ++ [.inl 4]) ++ [.inr (0, 80)]) ++ [.inl 2])) ++ [.inl 2])) ++ [.inl 2])), (sv9 (sv9 (sv9 (sv9 (sv9 (sv9 (sv9 (sv9 (sv9 (sv9 (sv9 cm_h0.2.1 31 1 (-1)) 61 1 (-1)) 63 1 (-1)) 65 1 (-1)) 67 1 (-1)) 69 1 (-1)) 71 1 (-1)) 73 1 (-1)) 75 1 (-1)) 77 1 (-1)) 79 1 (-1)), cm_h0.2.2.1, (st9 (hrM (st9 (hrM (st9 (hrM (st9 (st9 (st9 (st9 (st9 (st9 (st9 (st9 (st9 (st9 (st9 (st9 (st9 (st9 (st9 (st9 (st9 (st9 (st9 (st9 (st9 (st9 (st9 (st9 (hrM (st9 (st9 (st9 (st9 (hrM (st9 (st9 (st9 (st9 (hrM (st9 (st9 (st9 (st9 (hrM (st9 (st9 cm_h0.2.2.2 2 0 3) 2 1 4) 5) 2 2 5) 2 3 16) 17 0 18) 2 4 17) 20) 19 0 20) 31 0 32) 19 1 31) 2 5 19) 34) 33 0 34) 33 1 45) 33 2 46) 2 6 33) 48) 47 0 48) 47 1 59) 2 7 47) 2 8 60) 61 0 62) 3 0 61) 63 0 64) 3 1 63) 65 0 66) 3 2 65) 67 0 68) 3 3 67) 69 0 70) 3 4 69) 71 0 72) 3 5 71) 73 0 74) 4 0 73) 75 0 76) 4 1 75) 77 0 78) 4 2 77) 79 0 80) 4 3 79) 81) 16 0 81) 92) 16 1 92) 103) 16 2 103))
theorem zz0 : fz 2 cm_h0.2.1 cm_h0.2.2.1 cm_h0.2.2.2 := fun _ _ => ⟨rfl, rfl, rfl⟩
set_option maxRecDepth 20000 in
theorem i_X6 : cm_ct D mX6_init (d + 3) 111 3950 [.ref 2] (cm_h0.1 ++ [Sum.inl 6], cm_h0.2.1, cm_h0.2.2.1, cm_h0.2.2.2) (fun r9 h9 => r9 = none ∧ h9 = hC6 ∧ fz 114 h9.2.1 h9.2.2.1 h9.2.2.2 ∧ h9.1.length = 114) := by
  have zn : (cm_h0.1 ++ [Sum.inl 6]).length = 3 := rfl
  have zz := zz0.up
  refine cm_ct_of (ls := [some (.ref 2), none]) 1 (by decide +kernel) rfl rfl ?_
  refine cm_aload0 (pc := 0) dX6_init_0 ?_
  refine cm_objInit (pc := 1) oiX6_1 dX6_init_1 (by omega) (Nat.le_of_ble_eq_true rfl) ?_
  refine cm_aload0 (pc := 4) dX6_init_4 ?_
  refine cm_bipush (pc := 5) (v := 6) dX6_init_5 (by decide) ?_
  refine nw_Q (pc := 7) (t := 2) (N := 6) zz zn rfl ⟨0, rfl⟩ (fun _ h => h.2.2.2.1) clX6_9 dX6_init_7 (by decide) (by decide) (by decide) (by decide) (by decide) ?_
  have zn1 := la1 (q := .inr (2, 6)) zn
  clear zn
  have zz1 := zz.up
  clear zz
  refine put_F (pc := 10) rfl ffX6_11 dX6_init_10 ⟨by decide, by decide +kernel⟩ ?_
  have zz2 := zz1.st 2 0 3 (by decide)
  clear zz1
  refine cm_aload0 (pc := 13) dX6_init_13 ?_
  refine cm_iconst (pc := 14) (v := 4) dX6_init_14 (by decide) ?_
  refine nw_Q (pc := 15) (t := 2) (N := 4) zz2 zn1 rfl ⟨0, rfl⟩ (fun _ h => h.2.2.2.1) clX6_9 dX6_init_15 (by decide) (by decide) (by decide) (by decide) (by decide) ?_
  have zn3 := la1 (q := .inr (2, 4)) zn1
  clear zn1
  have zz3 := zz2.up
  clear zz2
  refine put_F (pc := 18) rfl ffX6_15 dX6_init_18 ⟨by decide, by decide +kernel⟩ ?_
  have zz4 := zz3.st 2 1 4 (by decide)
  clear zz3
  refine cm_aload0 (pc := 21) dX6_init_21 ?_
  refine nw_O (pc := 22) zz4 zn3 cfX2 clX6_18 dX6_init_22 (by decide) (by decide) ?_
  have zn5 := la1 (q := .inl 2) zn3
  clear zn3
  have zz5 := zz4.up
  clear zz4
  refine cm_dup (pc := 25) dX6_init_25 rfl ?_
  refine cm_I0 (pc := 26) mX2_init_i mlX6_20 dX6_init_26 (by omega) (Nat.le_of_ble_eq_true rfl) (by decide) (by decide) (i_X2 (d := d + 1) (a := 5) zz5 zn5 ⟨by decide, by decide +kernel⟩) (fun r26 h26 hq => ?_)
  obtain ⟨rfl, rfl, zz100, zn99⟩ := hq
  have zn6 := laM zn5
  clear zn5
  have zz6 := zz5.mk
  clear zz5
  refine put_F (pc := 29) rfl ffX6_21 dX6_init_29 ⟨by decide, by decide +kernel⟩ ?_
  have zz7 := zz6.st 2 2 5 (by decide)
  clear zz6
  refine cm_aload0 (pc := 32) dX6_init_32 ?_
  refine cm_iconst (pc := 33) (v := 3) dX6_init_33 (by decide) ?_
  refine nw_Q (pc := 34) (t := 3) (N := 3) zz7 zn6 rfl ⟨1, rfl⟩ (fun _ h => h.2.2.2.2) clX6_18 dX6_init_34 (by decide) (by decide) (by decide) (by decide) (by decide) ?_
  have zn8 := la1 (q := .inr (3, 3)) zn6
  clear zn6
  have zz8 := zz7.up
  clear zz7
  refine put_F (pc := 37) rfl ffX6_25 dX6_init_37 ⟨by decide, by decide +kernel⟩ ?_
  have zz9 := zz8.st 2 3 16 (by decide)
  clear zz8
  refine cm_aload0 (pc := 40) dX6_init_40 ?_
  refine nw_O (pc := 41) zz9 zn8 cfX1 clX6_29 dX6_init_41 (by decide) (by decide) ?_
  have zn10 := la1 (q := .inl 1) zn8
  clear zn8
  have zz10 := zz9.up
  clear zz9
  refine cm_dup (pc := 44) dX6_init_44 rfl ?_
  refine cm_I0 (pc := 45) mX1_init_i mlX6_31 dX6_init_45 (by omega) (Nat.le_of_ble_eq_true rfl) (by decide) (by decide) (i_X1 (d := d + 1) (a := 17) zz10 zn10 ⟨by decide, by decide +kernel⟩) (fun r45 h45 hq => ?_)
  obtain ⟨rfl, rfl, zz100, zn99⟩ := hq
  have zn11 := la1 (q := .inr (0, 1440)) zn10
  clear zn10
  have zz11 := zz10.up
  clear zz10
  have zz12 := zz11.st 17 0 18 (by decide)
  clear zz11
  refine put_F (pc := 48) rfl ffX6_32 dX6_init_48 ⟨by decide, by decide +kernel⟩ ?_
  have zz13 := zz12.st 2 4 17 (by decide)
  clear zz12
  refine cm_aload0 (pc := 51) dX6_init_51 ?_
  refine nw_O (pc := 52) zz13 zn11 cfX3 clX6_36 dX6_init_52 (by decide) (by decide) ?_
  have zn14 := la1 (q := .inl 3) zn11
  clear zn11
  have zz14 := zz13.up
  clear zz13
  refine cm_dup (pc := 55) dX6_init_55 rfl ?_
  refine cm_I0 (pc := 56) mX3_init_i mlX6_38 dX6_init_56 (by omega) (Nat.le_of_ble_eq_true rfl) (by decide) (by decide) (i_X3 (d := d) (a := 19) zz14 zn14 ⟨by decide, by decide +kernel⟩) (fun r56 h56 hq => ?_)
  obtain ⟨rfl, rfl, zz100, zn99⟩ := hq
  have zn15 := la1 (q := .inl 2) zn14
  clear zn14
  have zz15 := zz14.up
  clear zz14
  have zn16 := laM zn15
  clear zn15
  have zz16 := zz15.mk
  clear zz15
  have zz17 := zz16.st 19 0 20 (by decide)
  clear zz16
  have zn18 := la1 (q := .inl 4) zn16
  clear zn16
  have zz18 := zz17.up
  clear zz17
  have zz19 := zz18.sv 31 1 (-1) (by decide)
  clear zz18
  have zn20 := la1 (q := .inr (0, 0)) zn18
  clear zn18
  have zz20 := zz19.up
  clear zz19
  have zz21 := zz20.st 31 0 32 (by decide)
  clear zz20
  have zz22 := zz21.st 19 1 31 (by decide)
  clear zz21
  refine put_F (pc := 59) rfl ffX6_39 dX6_init_59 ⟨by decide, by decide +kernel⟩ ?_
  have zz23 := zz22.st 2 5 19 (by decide)
  clear zz22
  refine cm_aload0 (pc := 62) dX6_init_62 ?_
  refine nw_O (pc := 63) zz23 zn20 cfX0 clX6_43 dX6_init_63 (by decide) (by decide) ?_
  have zn24 := la1 (q := .inl 0) zn20
  clear zn20
  have zz24 := zz23.up
  clear zz23
  refine cm_dup (pc := 66) dX6_init_66 rfl ?_
  refine cm_I0 (pc := 67) mX0_init_i mlX6_45 dX6_init_67 (by omega) (Nat.le_of_ble_eq_true rfl) (by decide) (by decide) (i_X0 (d := d) (a := 33) zz24 zn24 ⟨by decide, by decide +kernel⟩) (fun r67 h67 hq => ?_)
  obtain ⟨rfl, rfl, zz100, zn99⟩ := hq
  have zn25 := la1 (q := .inl 2) zn24
  clear zn24
  have zz25 := zz24.up
  clear zz24
  have zn26 := laM zn25
  clear zn25
  have zz26 := zz25.mk
  clear zz25
  have zz27 := zz26.st 33 0 34 (by decide)
  clear zz26
  have zn28 := la1 (q := .inr (0, 6)) zn26
  clear zn26
  have zz28 := zz27.up
  clear zz27
  have zz29 := zz28.st 33 1 45 (by decide)
  clear zz28
  have zn30 := la1 (q := .inr (1, 7)) zn28
  clear zn28
  have zz30 := zz29.up
  clear zz29
  have zz31 := zz30.st 33 2 46 (by decide)
  clear zz30
  refine put_F (pc := 70) rfl ffX6_46 dX6_init_70 ⟨by decide, by decide +kernel⟩ ?_
  have zz32 := zz31.st 2 6 33 (by decide)
  clear zz31
  refine cm_aload0 (pc := 73) dX6_init_73 ?_
  refine nw_O (pc := 74) zz32 zn30 cfX5 clX6_50 dX6_init_74 (by decide) (by decide) ?_
  have zn33 := la1 (q := .inl 5) zn30
  clear zn30
  have zz33 := zz32.up
  clear zz32
  refine cm_dup (pc := 77) dX6_init_77 rfl ?_
  refine cm_I0 (pc := 78) mX5_init_i mlX6_52 dX6_init_78 (by omega) (Nat.le_of_ble_eq_true rfl) (by decide) (by decide) (i_X5 (d := d) (a := 47) zz33 zn33 ⟨by decide, by decide +kernel⟩) (fun r78 h78 hq => ?_)
  obtain ⟨rfl, rfl, zz100, zn99⟩ := hq
  have zn34 := la1 (q := .inl 2) zn33
  clear zn33
  have zz34 := zz33.up
  clear zz33
  have zn35 := laM zn34
  clear zn34
  have zz35 := zz34.mk
  clear zz34
  have zz36 := zz35.st 47 0 48 (by decide)
  clear zz35
  have zn37 := la1 (q := .inr (0, 6)) zn35
  clear zn35
  have zz37 := zz36.up
  clear zz36
  have zz38 := zz37.st 47 1 59 (by decide)
  clear zz37
  refine put_F (pc := 81) rfl ffX6_53 dX6_init_81 ⟨by decide, by decide +kernel⟩ ?_
  have zz39 := zz38.st 2 7 47 (by decide)
  clear zz38
  refine cm_aload0 (pc := 84) dX6_init_84 ?_
  refine cm_bipush (pc := 85) (v := 6) dX6_init_85 (by decide) ?_
  refine nw_I (pc := 87) (N := 6) zz39 zn37 arr_int dX6_init_87 (by decide) (by decide) (by decide) (by decide) (by decide) ?_
  have zn40 := la1 (q := .inr (0, 6)) zn37
  clear zn37
  have zz40 := zz39.up
  clear zz39
  refine put_F (pc := 89) rfl ffX6_57 dX6_init_89 ⟨by decide, by decide +kernel⟩ ?_
  have zz41 := zz40.st 2 8 60 (by decide)
  clear zz40
  refine cm_iconst (pc := 92) (v := 0) dX6_init_92 (by decide) ?_
  refine cm_istore1 (pc := 93) dX6_init_93 (by decide) rfl ?_
  refine cm_iload1 (pc := 94) dX6_init_94 ?_
  refine cm_bipush (pc := 95) (v := 6) dX6_init_95 (by decide) ?_
  refine cm_icmp_ge (pc := 97) (tgt := 121) dX6_init_97 (by decide) (fun q => absurd q (by decide)) (fun _ => ?_)
  refine cm_aload0 (pc := 100) dX6_init_100 ?_
  refine cm_getR (pc := 101) (b := 3) flX6_11 dX6_init_101 ⟨by decide, by decide +kernel⟩ (by decide +kernel) ?_
  refine cm_iload1 (pc := 104) dX6_init_104 ?_
  refine nw_O (pc := 105) zz41 zn40 cfX4 clX6_9 dX6_init_105 (by decide) (by decide) ?_
  have zn42 := la1 (q := .inl 4) zn40
  clear zn40
  have zz42 := zz41.up
  clear zz41
  refine cm_dup (pc := 108) dX6_init_108 rfl ?_
  refine cm_bipush (pc := 109) (v := 40) dX6_init_109 (by decide) ?_
  refine cm_I1 (pc := 111) mX4_init_i mlX6_61 dX6_init_111 (by omega) (Nat.le_of_ble_eq_true rfl) (by decide) (by decide) (i_X4 (d := d + 1) (a := 61) zz42 zn42 ⟨by decide, by decide +kernel⟩ (n := 40) (by decide) (by decide) (by decide)) (fun r111 h111 hq => ?_)
  obtain ⟨rfl, rfl, zz100, zn99⟩ := hq
  have zz43 := zz42.sv 61 1 (-1) (by decide)
  clear zz42
  have zn44 := la1 (q := .inr (0, 40)) zn42
  clear zn42
  have zz44 := zz43.up
  clear zz43
  have zz45 := zz44.st 61 0 62 (by decide)
  clear zz44
  refine aast9 (pc := 114) (k := 0) (n := 6) ⟨0, rfl⟩ rfl cfX4.1 dX6_init_114 ⟨by decide, by decide +kernel⟩ ⟨by decide, by decide +kernel⟩ (by decide) (by decide) (by decide) ?_
  have zz46 := zz45.st 3 0 61 (by decide)
  clear zz45
  refine cm_iinc1 (pc := 115) (1) dX6_init_115 rfl (by decide) rfl ?_
  refine cm_goto (pc := 118) (tgt := 94) dX6_init_118 (by decide) ?_
  refine cm_iload1 (pc := 94) dX6_init_94 ?_
  refine cm_bipush (pc := 95) (v := 6) dX6_init_95 (by decide) ?_
  refine cm_icmp_ge (pc := 97) (tgt := 121) dX6_init_97 (by decide) (fun q => absurd q (by decide)) (fun _ => ?_)
  refine cm_aload0 (pc := 100) dX6_init_100 ?_
  refine cm_getR (pc := 101) (b := 3) flX6_11 dX6_init_101 ⟨by decide, by decide +kernel⟩ (by decide +kernel) ?_
  refine cm_iload1 (pc := 104) dX6_init_104 ?_
  refine nw_O (pc := 105) zz46 zn44 cfX4 clX6_9 dX6_init_105 (by decide) (by decide) ?_
  have zn47 := la1 (q := .inl 4) zn44
  clear zn44
  have zz47 := zz46.up
  clear zz46
  refine cm_dup (pc := 108) dX6_init_108 rfl ?_
  refine cm_bipush (pc := 109) (v := 40) dX6_init_109 (by decide) ?_
  refine cm_I1 (pc := 111) mX4_init_i mlX6_61 dX6_init_111 (by omega) (Nat.le_of_ble_eq_true rfl) (by decide) (by decide) (i_X4 (d := d + 1) (a := 63) zz47 zn47 ⟨by decide, by decide +kernel⟩ (n := 40) (by decide) (by decide) (by decide)) (fun r111 h111 hq => ?_)
  obtain ⟨rfl, rfl, zz100, zn99⟩ := hq
  have zz48 := zz47.sv 63 1 (-1) (by decide)
  clear zz47
  have zn49 := la1 (q := .inr (0, 40)) zn47
  clear zn47
  have zz49 := zz48.up
  clear zz48
  have zz50 := zz49.st 63 0 64 (by decide)
  clear zz49
  refine aast9 (pc := 114) (k := 1) (n := 6) ⟨0, rfl⟩ rfl cfX4.1 dX6_init_114 ⟨by decide, by decide +kernel⟩ ⟨by decide, by decide +kernel⟩ (by decide) (by decide) (by decide) ?_
  have zz51 := zz50.st 3 1 63 (by decide)
  clear zz50
  refine cm_iinc1 (pc := 115) (1) dX6_init_115 rfl (by decide) rfl ?_
  refine cm_goto (pc := 118) (tgt := 94) dX6_init_118 (by decide) ?_
  refine cm_iload1 (pc := 94) dX6_init_94 ?_
  refine cm_bipush (pc := 95) (v := 6) dX6_init_95 (by decide) ?_
  refine cm_icmp_ge (pc := 97) (tgt := 121) dX6_init_97 (by decide) (fun q => absurd q (by decide)) (fun _ => ?_)
  refine cm_aload0 (pc := 100) dX6_init_100 ?_
  refine cm_getR (pc := 101) (b := 3) flX6_11 dX6_init_101 ⟨by decide, by decide +kernel⟩ (by decide +kernel) ?_
  refine cm_iload1 (pc := 104) dX6_init_104 ?_
  refine nw_O (pc := 105) zz51 zn49 cfX4 clX6_9 dX6_init_105 (by decide) (by decide) ?_
  have zn52 := la1 (q := .inl 4) zn49
  clear zn49
  have zz52 := zz51.up
  clear zz51
  refine cm_dup (pc := 108) dX6_init_108 rfl ?_
  refine cm_bipush (pc := 109) (v := 40) dX6_init_109 (by decide) ?_
  refine cm_I1 (pc := 111) mX4_init_i mlX6_61 dX6_init_111 (by omega) (Nat.le_of_ble_eq_true rfl) (by decide) (by decide) (i_X4 (d := d + 1) (a := 65) zz52 zn52 ⟨by decide, by decide +kernel⟩ (n := 40) (by decide) (by decide) (by decide)) (fun r111 h111 hq => ?_)
  obtain ⟨rfl, rfl, zz100, zn99⟩ := hq
  have zz53 := zz52.sv 65 1 (-1) (by decide)
  clear zz52
  have zn54 := la1 (q := .inr (0, 40)) zn52
  clear zn52
  have zz54 := zz53.up
  clear zz53
  have zz55 := zz54.st 65 0 66 (by decide)
  clear zz54
  refine aast9 (pc := 114) (k := 2) (n := 6) ⟨0, rfl⟩ rfl cfX4.1 dX6_init_114 ⟨by decide, by decide +kernel⟩ ⟨by decide, by decide +kernel⟩ (by decide) (by decide) (by decide) ?_
  have zz56 := zz55.st 3 2 65 (by decide)
  clear zz55
  refine cm_iinc1 (pc := 115) (1) dX6_init_115 rfl (by decide) rfl ?_
  refine cm_goto (pc := 118) (tgt := 94) dX6_init_118 (by decide) ?_
  refine cm_iload1 (pc := 94) dX6_init_94 ?_
  refine cm_bipush (pc := 95) (v := 6) dX6_init_95 (by decide) ?_
  refine cm_icmp_ge (pc := 97) (tgt := 121) dX6_init_97 (by decide) (fun q => absurd q (by decide)) (fun _ => ?_)
  refine cm_aload0 (pc := 100) dX6_init_100 ?_
  refine cm_getR (pc := 101) (b := 3) flX6_11 dX6_init_101 ⟨by decide, by decide +kernel⟩ (by decide +kernel) ?_
  refine cm_iload1 (pc := 104) dX6_init_104 ?_
  refine nw_O (pc := 105) zz56 zn54 cfX4 clX6_9 dX6_init_105 (by decide) (by decide) ?_
  have zn57 := la1 (q := .inl 4) zn54
  clear zn54
  have zz57 := zz56.up
  clear zz56
  refine cm_dup (pc := 108) dX6_init_108 rfl ?_
  refine cm_bipush (pc := 109) (v := 40) dX6_init_109 (by decide) ?_
  refine cm_I1 (pc := 111) mX4_init_i mlX6_61 dX6_init_111 (by omega) (Nat.le_of_ble_eq_true rfl) (by decide) (by decide) (i_X4 (d := d + 1) (a := 67) zz57 zn57 ⟨by decide, by decide +kernel⟩ (n := 40) (by decide) (by decide) (by decide)) (fun r111 h111 hq => ?_)
  obtain ⟨rfl, rfl, zz100, zn99⟩ := hq
  have zz58 := zz57.sv 67 1 (-1) (by decide)
  clear zz57
  have zn59 := la1 (q := .inr (0, 40)) zn57
  clear zn57
  have zz59 := zz58.up
  clear zz58
  have zz60 := zz59.st 67 0 68 (by decide)
  clear zz59
  refine aast9 (pc := 114) (k := 3) (n := 6) ⟨0, rfl⟩ rfl cfX4.1 dX6_init_114 ⟨by decide, by decide +kernel⟩ ⟨by decide, by decide +kernel⟩ (by decide) (by decide) (by decide) ?_
  have zz61 := zz60.st 3 3 67 (by decide)
  clear zz60
  refine cm_iinc1 (pc := 115) (1) dX6_init_115 rfl (by decide) rfl ?_
  refine cm_goto (pc := 118) (tgt := 94) dX6_init_118 (by decide) ?_
  refine cm_iload1 (pc := 94) dX6_init_94 ?_
  refine cm_bipush (pc := 95) (v := 6) dX6_init_95 (by decide) ?_
  refine cm_icmp_ge (pc := 97) (tgt := 121) dX6_init_97 (by decide) (fun q => absurd q (by decide)) (fun _ => ?_)
  refine cm_aload0 (pc := 100) dX6_init_100 ?_
  refine cm_getR (pc := 101) (b := 3) flX6_11 dX6_init_101 ⟨by decide, by decide +kernel⟩ (by decide +kernel) ?_
  refine cm_iload1 (pc := 104) dX6_init_104 ?_
  refine nw_O (pc := 105) zz61 zn59 cfX4 clX6_9 dX6_init_105 (by decide) (by decide) ?_
  have zn62 := la1 (q := .inl 4) zn59
  clear zn59
  have zz62 := zz61.up
  clear zz61
  refine cm_dup (pc := 108) dX6_init_108 rfl ?_
  refine cm_bipush (pc := 109) (v := 40) dX6_init_109 (by decide) ?_
  refine cm_I1 (pc := 111) mX4_init_i mlX6_61 dX6_init_111 (by omega) (Nat.le_of_ble_eq_true rfl) (by decide) (by decide) (i_X4 (d := d + 1) (a := 69) zz62 zn62 ⟨by decide, by decide +kernel⟩ (n := 40) (by decide) (by decide) (by decide)) (fun r111 h111 hq => ?_)
  obtain ⟨rfl, rfl, zz100, zn99⟩ := hq
  have zz63 := zz62.sv 69 1 (-1) (by decide)
  clear zz62
  have zn64 := la1 (q := .inr (0, 40)) zn62
  clear zn62
  have zz64 := zz63.up
  clear zz63
  have zz65 := zz64.st 69 0 70 (by decide)
  clear zz64
  refine aast9 (pc := 114) (k := 4) (n := 6) ⟨0, rfl⟩ rfl cfX4.1 dX6_init_114 ⟨by decide, by decide +kernel⟩ ⟨by decide, by decide +kernel⟩ (by decide) (by decide) (by decide) ?_
  have zz66 := zz65.st 3 4 69 (by decide)
  clear zz65
  refine cm_iinc1 (pc := 115) (1) dX6_init_115 rfl (by decide) rfl ?_
  refine cm_goto (pc := 118) (tgt := 94) dX6_init_118 (by decide) ?_
  refine cm_iload1 (pc := 94) dX6_init_94 ?_
  refine cm_bipush (pc := 95) (v := 6) dX6_init_95 (by decide) ?_
  refine cm_icmp_ge (pc := 97) (tgt := 121) dX6_init_97 (by decide) (fun q => absurd q (by decide)) (fun _ => ?_)
  refine cm_aload0 (pc := 100) dX6_init_100 ?_
  refine cm_getR (pc := 101) (b := 3) flX6_11 dX6_init_101 ⟨by decide, by decide +kernel⟩ (by decide +kernel) ?_
  refine cm_iload1 (pc := 104) dX6_init_104 ?_
  refine nw_O (pc := 105) zz66 zn64 cfX4 clX6_9 dX6_init_105 (by decide) (by decide) ?_
  have zn67 := la1 (q := .inl 4) zn64
  clear zn64
  have zz67 := zz66.up
  clear zz66
  refine cm_dup (pc := 108) dX6_init_108 rfl ?_
  refine cm_bipush (pc := 109) (v := 40) dX6_init_109 (by decide) ?_
  refine cm_I1 (pc := 111) mX4_init_i mlX6_61 dX6_init_111 (by omega) (Nat.le_of_ble_eq_true rfl) (by decide) (by decide) (i_X4 (d := d + 1) (a := 71) zz67 zn67 ⟨by decide, by decide +kernel⟩ (n := 40) (by decide) (by decide) (by decide)) (fun r111 h111 hq => ?_)
  obtain ⟨rfl, rfl, zz100, zn99⟩ := hq
  have zz68 := zz67.sv 71 1 (-1) (by decide)
  clear zz67
  have zn69 := la1 (q := .inr (0, 40)) zn67
  clear zn67
  have zz69 := zz68.up
  clear zz68
  have zz70 := zz69.st 71 0 72 (by decide)
  clear zz69
  refine aast9 (pc := 114) (k := 5) (n := 6) ⟨0, rfl⟩ rfl cfX4.1 dX6_init_114 ⟨by decide, by decide +kernel⟩ ⟨by decide, by decide +kernel⟩ (by decide) (by decide) (by decide) ?_
  have zz71 := zz70.st 3 5 71 (by decide)
  clear zz70
  refine cm_iinc1 (pc := 115) (1) dX6_init_115 rfl (by decide) rfl ?_
  refine cm_goto (pc := 118) (tgt := 94) dX6_init_118 (by decide) ?_
  refine cm_iload1 (pc := 94) dX6_init_94 ?_
  refine cm_bipush (pc := 95) (v := 6) dX6_init_95 (by decide) ?_
  refine cm_icmp_ge (pc := 97) (tgt := 121) dX6_init_97 (by decide) (fun _ => ?_) (fun q => absurd (by decide) q)
  refine cm_iconst (pc := 121) (v := 0) dX6_init_121 (by decide) ?_
  refine cm_istore1 (pc := 122) dX6_init_122 (by decide) rfl ?_
  refine cm_iload1 (pc := 123) dX6_init_123 ?_
  refine cm_iconst (pc := 124) (v := 4) dX6_init_124 (by decide) ?_
  refine cm_icmp_ge (pc := 125) (tgt := 149) dX6_init_125 (by decide) (fun q => absurd q (by decide)) (fun _ => ?_)
  refine cm_aload0 (pc := 128) dX6_init_128 ?_
  refine cm_getR (pc := 129) (b := 4) flX6_15 dX6_init_129 ⟨by decide, by decide +kernel⟩ (by decide +kernel) ?_
  refine cm_iload1 (pc := 132) dX6_init_132 ?_
  refine nw_O (pc := 133) zz71 zn69 cfX4 clX6_9 dX6_init_133 (by decide) (by decide) ?_
  have zn72 := la1 (q := .inl 4) zn69
  clear zn69
  have zz72 := zz71.up
  clear zz71
  refine cm_dup (pc := 136) dX6_init_136 rfl ?_
  refine cm_bipush (pc := 137) (v := 80) dX6_init_137 (by decide) ?_
  refine cm_I1 (pc := 139) mX4_init_i mlX6_61 dX6_init_139 (by omega) (Nat.le_of_ble_eq_true rfl) (by decide) (by decide) (i_X4 (d := d + 1) (a := 73) zz72 zn72 ⟨by decide, by decide +kernel⟩ (n := 80) (by decide) (by decide) (by decide)) (fun r139 h139 hq => ?_)
  obtain ⟨rfl, rfl, zz100, zn99⟩ := hq
  have zz73 := zz72.sv 73 1 (-1) (by decide)
  clear zz72
  have zn74 := la1 (q := .inr (0, 80)) zn72
  clear zn72
  have zz74 := zz73.up
  clear zz73
  have zz75 := zz74.st 73 0 74 (by decide)
  clear zz74
  refine aast9 (pc := 142) (k := 0) (n := 4) ⟨0, rfl⟩ rfl cfX4.1 dX6_init_142 ⟨by decide, by decide +kernel⟩ ⟨by decide, by decide +kernel⟩ (by decide) (by decide) (by decide) ?_
  have zz76 := zz75.st 4 0 73 (by decide)
  clear zz75
  refine cm_iinc1 (pc := 143) (1) dX6_init_143 rfl (by decide) rfl ?_
  refine cm_goto (pc := 146) (tgt := 123) dX6_init_146 (by decide) ?_
  refine cm_iload1 (pc := 123) dX6_init_123 ?_
  refine cm_iconst (pc := 124) (v := 4) dX6_init_124 (by decide) ?_
  refine cm_icmp_ge (pc := 125) (tgt := 149) dX6_init_125 (by decide) (fun q => absurd q (by decide)) (fun _ => ?_)
  refine cm_aload0 (pc := 128) dX6_init_128 ?_
  refine cm_getR (pc := 129) (b := 4) flX6_15 dX6_init_129 ⟨by decide, by decide +kernel⟩ (by decide +kernel) ?_
  refine cm_iload1 (pc := 132) dX6_init_132 ?_
  refine nw_O (pc := 133) zz76 zn74 cfX4 clX6_9 dX6_init_133 (by decide) (by decide) ?_
  have zn77 := la1 (q := .inl 4) zn74
  clear zn74
  have zz77 := zz76.up
  clear zz76
  refine cm_dup (pc := 136) dX6_init_136 rfl ?_
  refine cm_bipush (pc := 137) (v := 80) dX6_init_137 (by decide) ?_
  refine cm_I1 (pc := 139) mX4_init_i mlX6_61 dX6_init_139 (by omega) (Nat.le_of_ble_eq_true rfl) (by decide) (by decide) (i_X4 (d := d + 1) (a := 75) zz77 zn77 ⟨by decide, by decide +kernel⟩ (n := 80) (by decide) (by decide) (by decide)) (fun r139 h139 hq => ?_)
  obtain ⟨rfl, rfl, zz100, zn99⟩ := hq
  have zz78 := zz77.sv 75 1 (-1) (by decide)
  clear zz77
  have zn79 := la1 (q := .inr (0, 80)) zn77
  clear zn77
  have zz79 := zz78.up
  clear zz78
  have zz80 := zz79.st 75 0 76 (by decide)
  clear zz79
  refine aast9 (pc := 142) (k := 1) (n := 4) ⟨0, rfl⟩ rfl cfX4.1 dX6_init_142 ⟨by decide, by decide +kernel⟩ ⟨by decide, by decide +kernel⟩ (by decide) (by decide) (by decide) ?_
  have zz81 := zz80.st 4 1 75 (by decide)
  clear zz80
  refine cm_iinc1 (pc := 143) (1) dX6_init_143 rfl (by decide) rfl ?_
  refine cm_goto (pc := 146) (tgt := 123) dX6_init_146 (by decide) ?_
  refine cm_iload1 (pc := 123) dX6_init_123 ?_
  refine cm_iconst (pc := 124) (v := 4) dX6_init_124 (by decide) ?_
  refine cm_icmp_ge (pc := 125) (tgt := 149) dX6_init_125 (by decide) (fun q => absurd q (by decide)) (fun _ => ?_)
  refine cm_aload0 (pc := 128) dX6_init_128 ?_
  refine cm_getR (pc := 129) (b := 4) flX6_15 dX6_init_129 ⟨by decide, by decide +kernel⟩ (by decide +kernel) ?_
  refine cm_iload1 (pc := 132) dX6_init_132 ?_
  refine nw_O (pc := 133) zz81 zn79 cfX4 clX6_9 dX6_init_133 (by decide) (by decide) ?_
  have zn82 := la1 (q := .inl 4) zn79
  clear zn79
  have zz82 := zz81.up
  clear zz81
  refine cm_dup (pc := 136) dX6_init_136 rfl ?_
  refine cm_bipush (pc := 137) (v := 80) dX6_init_137 (by decide) ?_
  refine cm_I1 (pc := 139) mX4_init_i mlX6_61 dX6_init_139 (by omega) (Nat.le_of_ble_eq_true rfl) (by decide) (by decide) (i_X4 (d := d + 1) (a := 77) zz82 zn82 ⟨by decide, by decide +kernel⟩ (n := 80) (by decide) (by decide) (by decide)) (fun r139 h139 hq => ?_)
  obtain ⟨rfl, rfl, zz100, zn99⟩ := hq
  have zz83 := zz82.sv 77 1 (-1) (by decide)
  clear zz82
  have zn84 := la1 (q := .inr (0, 80)) zn82
  clear zn82
  have zz84 := zz83.up
  clear zz83
  have zz85 := zz84.st 77 0 78 (by decide)
  clear zz84
  refine aast9 (pc := 142) (k := 2) (n := 4) ⟨0, rfl⟩ rfl cfX4.1 dX6_init_142 ⟨by decide, by decide +kernel⟩ ⟨by decide, by decide +kernel⟩ (by decide) (by decide) (by decide) ?_
  have zz86 := zz85.st 4 2 77 (by decide)
  clear zz85
  refine cm_iinc1 (pc := 143) (1) dX6_init_143 rfl (by decide) rfl ?_
  refine cm_goto (pc := 146) (tgt := 123) dX6_init_146 (by decide) ?_
  refine cm_iload1 (pc := 123) dX6_init_123 ?_
  refine cm_iconst (pc := 124) (v := 4) dX6_init_124 (by decide) ?_
  refine cm_icmp_ge (pc := 125) (tgt := 149) dX6_init_125 (by decide) (fun q => absurd q (by decide)) (fun _ => ?_)
  refine cm_aload0 (pc := 128) dX6_init_128 ?_
  refine cm_getR (pc := 129) (b := 4) flX6_15 dX6_init_129 ⟨by decide, by decide +kernel⟩ (by decide +kernel) ?_
  refine cm_iload1 (pc := 132) dX6_init_132 ?_
  refine nw_O (pc := 133) zz86 zn84 cfX4 clX6_9 dX6_init_133 (by decide) (by decide) ?_
  have zn87 := la1 (q := .inl 4) zn84
  clear zn84
  have zz87 := zz86.up
  clear zz86
  refine cm_dup (pc := 136) dX6_init_136 rfl ?_
  refine cm_bipush (pc := 137) (v := 80) dX6_init_137 (by decide) ?_
  refine cm_I1 (pc := 139) mX4_init_i mlX6_61 dX6_init_139 (by omega) (Nat.le_of_ble_eq_true rfl) (by decide) (by decide) (i_X4 (d := d + 1) (a := 79) zz87 zn87 ⟨by decide, by decide +kernel⟩ (n := 80) (by decide) (by decide) (by decide)) (fun r139 h139 hq => ?_)
  obtain ⟨rfl, rfl, zz100, zn99⟩ := hq
  have zz88 := zz87.sv 79 1 (-1) (by decide)
  clear zz87
  have zn89 := la1 (q := .inr (0, 80)) zn87
  clear zn87
  have zz89 := zz88.up
  clear zz88
  have zz90 := zz89.st 79 0 80 (by decide)
  clear zz89
  refine aast9 (pc := 142) (k := 3) (n := 4) ⟨0, rfl⟩ rfl cfX4.1 dX6_init_142 ⟨by decide, by decide +kernel⟩ ⟨by decide, by decide +kernel⟩ (by decide) (by decide) (by decide) ?_
  have zz91 := zz90.st 4 3 79 (by decide)
  clear zz90
  refine cm_iinc1 (pc := 143) (1) dX6_init_143 rfl (by decide) rfl ?_
  refine cm_goto (pc := 146) (tgt := 123) dX6_init_146 (by decide) ?_
  refine cm_iload1 (pc := 123) dX6_init_123 ?_
  refine cm_iconst (pc := 124) (v := 4) dX6_init_124 (by decide) ?_
  refine cm_icmp_ge (pc := 125) (tgt := 149) dX6_init_125 (by decide) (fun _ => ?_) (fun q => absurd (by decide) q)
  refine cm_iconst (pc := 149) (v := 0) dX6_init_149 (by decide) ?_
  refine cm_istore1 (pc := 150) dX6_init_150 (by decide) rfl ?_
  refine cm_iload1 (pc := 151) dX6_init_151 ?_
  refine cm_iconst (pc := 152) (v := 3) dX6_init_152 (by decide) ?_
  refine cm_icmp_ge (pc := 153) (tgt := 175) dX6_init_153 (by decide) (fun q => absurd q (by decide)) (fun _ => ?_)
  refine cm_aload0 (pc := 156) dX6_init_156 ?_
  refine cm_getR (pc := 157) (b := 16) flX6_25 dX6_init_157 ⟨by decide, by decide +kernel⟩ (by decide +kernel) ?_
  refine cm_iload1 (pc := 160) dX6_init_160 ?_
  refine nw_O (pc := 161) zz91 zn89 cfX2 clX6_18 dX6_init_161 (by decide) (by decide) ?_
  have zn92 := la1 (q := .inl 2) zn89
  clear zn89
  have zz92 := zz91.up
  clear zz91
  refine cm_dup (pc := 164) dX6_init_164 rfl ?_
  refine cm_I0 (pc := 165) mX2_init_i mlX6_20 dX6_init_165 (by omega) (Nat.le_of_ble_eq_true rfl) (by decide) (by decide) (i_X2 (d := d + 1) (a := 81) zz92 zn92 ⟨by decide, by decide +kernel⟩) (fun r165 h165 hq => ?_)
  obtain ⟨rfl, rfl, zz100, zn99⟩ := hq
  have zn93 := laM zn92
  clear zn92
  have zz93 := zz92.mk
  clear zz92
  refine aast9 (pc := 168) (k := 0) (n := 3) ⟨1, rfl⟩ rfl cfX2.1 dX6_init_168 ⟨by decide, by decide +kernel⟩ ⟨by decide, by decide +kernel⟩ (by decide) (by decide) (by decide) ?_
  have zz94 := zz93.st 16 0 81 (by decide)
  clear zz93
  refine cm_iinc1 (pc := 169) (1) dX6_init_169 rfl (by decide) rfl ?_
  refine cm_goto (pc := 172) (tgt := 151) dX6_init_172 (by decide) ?_
  refine cm_iload1 (pc := 151) dX6_init_151 ?_
  refine cm_iconst (pc := 152) (v := 3) dX6_init_152 (by decide) ?_
  refine cm_icmp_ge (pc := 153) (tgt := 175) dX6_init_153 (by decide) (fun q => absurd q (by decide)) (fun _ => ?_)
  refine cm_aload0 (pc := 156) dX6_init_156 ?_
  refine cm_getR (pc := 157) (b := 16) flX6_25 dX6_init_157 ⟨by decide, by decide +kernel⟩ (by decide +kernel) ?_
  refine cm_iload1 (pc := 160) dX6_init_160 ?_
  refine nw_O (pc := 161) zz94 zn93 cfX2 clX6_18 dX6_init_161 (by decide) (by decide) ?_
  have zn95 := la1 (q := .inl 2) zn93
  clear zn93
  have zz95 := zz94.up
  clear zz94
  refine cm_dup (pc := 164) dX6_init_164 rfl ?_
  refine cm_I0 (pc := 165) mX2_init_i mlX6_20 dX6_init_165 (by omega) (Nat.le_of_ble_eq_true rfl) (by decide) (by decide) (i_X2 (d := d + 1) (a := 92) zz95 zn95 ⟨by decide, by decide +kernel⟩) (fun r165 h165 hq => ?_)
  obtain ⟨rfl, rfl, zz100, zn99⟩ := hq
  have zn96 := laM zn95
  clear zn95
  have zz96 := zz95.mk
  clear zz95
  refine aast9 (pc := 168) (k := 1) (n := 3) ⟨1, rfl⟩ rfl cfX2.1 dX6_init_168 ⟨by decide, by decide +kernel⟩ ⟨by decide, by decide +kernel⟩ (by decide) (by decide) (by decide) ?_
  have zz97 := zz96.st 16 1 92 (by decide)
  clear zz96
  refine cm_iinc1 (pc := 169) (1) dX6_init_169 rfl (by decide) rfl ?_
  refine cm_goto (pc := 172) (tgt := 151) dX6_init_172 (by decide) ?_
  refine cm_iload1 (pc := 151) dX6_init_151 ?_
  refine cm_iconst (pc := 152) (v := 3) dX6_init_152 (by decide) ?_
  refine cm_icmp_ge (pc := 153) (tgt := 175) dX6_init_153 (by decide) (fun q => absurd q (by decide)) (fun _ => ?_)
  refine cm_aload0 (pc := 156) dX6_init_156 ?_
  refine cm_getR (pc := 157) (b := 16) flX6_25 dX6_init_157 ⟨by decide, by decide +kernel⟩ (by decide +kernel) ?_
  refine cm_iload1 (pc := 160) dX6_init_160 ?_
  refine nw_O (pc := 161) zz97 zn96 cfX2 clX6_18 dX6_init_161 (by decide) (by decide) ?_
  have zn98 := la1 (q := .inl 2) zn96
  clear zn96
  have zz98 := zz97.up
  clear zz97
  refine cm_dup (pc := 164) dX6_init_164 rfl ?_
  refine cm_I0 (pc := 165) mX2_init_i mlX6_20 dX6_init_165 (by omega) (Nat.le_of_ble_eq_true rfl) (by decide) (by decide) (i_X2 (d := d + 1) (a := 103) zz98 zn98 ⟨by decide, by decide +kernel⟩) (fun r165 h165 hq => ?_)
  obtain ⟨rfl, rfl, zz100, zn99⟩ := hq
  have zn99 := laM zn98
  clear zn98
  have zz99 := zz98.mk
  clear zz98
  refine aast9 (pc := 168) (k := 2) (n := 3) ⟨1, rfl⟩ rfl cfX2.1 dX6_init_168 ⟨by decide, by decide +kernel⟩ ⟨by decide, by decide +kernel⟩ (by decide) (by decide) (by decide) ?_
  have zz100 := zz99.st 16 2 103 (by decide)
  clear zz99
  refine cm_iinc1 (pc := 169) (1) dX6_init_169 rfl (by decide) rfl ?_
  refine cm_goto (pc := 172) (tgt := 151) dX6_init_172 (by decide) ?_
  refine cm_iload1 (pc := 151) dX6_init_151 ?_
  refine cm_iconst (pc := 152) (v := 3) dX6_init_152 (by decide) ?_
  refine cm_icmp_ge (pc := 153) (tgt := 175) dX6_init_153 (by decide) (fun _ => ?_) (fun q => absurd (by decide) q)
  exact cm_vret (pc := 175) dX6_init_175 rfl ⟨rfl, rfl, zz100, zn99⟩
end IN1
