/-! PART modelled: the reference laid -/
section IN2
variable {D : cm_D} {d a n : Nat} {sh : List cm_Sh} {hi : cm_g2} {hl : Nat → Nat → Int64} {hr : Nat → Nat → Option Nat} {x : Int32}
def hC7 : cm_H := ((((((((((((((((((((((((hC6.1 ++ [Sum.inl 7]) ++ [.inr (0, 6)]) ++ [.inr (0, 6)]) ++ [.inr (0, 240)]) ++ [.inr (0, 40)]) ++ [.inr (0, 4)]) ++ [.inr (0, 320)]) ++ [.inr (0, 12)]) ++ [.inr (0, 12)]) ++ [.inr (0, 12)]) ++ [.inr (0, 6)]) ++ [.inr (0, 12)]) ++ [.inr (0, 12)]) ++ [.inr (0, 12)]) ++ [.inr (0, 6)]) ++ [.inr (0, 1440)]) ++ [.inr (0, 96)]) ++ [.inr (0, 24)]) ++ [.inr (0, 84)]) ++ [.inr (0, 6)]) ++ [.inr (0, 6)]) ++ [.inr (0, 6)]) ++ [.inr (0, 6)]), (sv9 (sv9 (sv9 (sv9 (sv9 (sv9 (sv9 (sv9 (sv9 (sv9 (sv9 (sv9 (sv9 hC6.2.1 116 0 (-9)) 116 1 (-9)) 116 2 (-9)) 116 3 (-9)) 116 4 (-9)) 116 5 (-9)) 119 0 (-9)) 119 1 (-9)) 119 2 (-9)) 119 3 (-9)) 130 0 (-9)) 130 32 (-9)) 130 64 (-9)), hC6.2.2.1, (st9 (st9 (st9 (st9 (st9 (st9 (st9 (st9 (st9 (st9 (st9 (st9 (st9 (st9 (st9 (st9 (st9 (st9 (st9 (st9 (st9 (st9 hC6.2.2.2 114 1 115) 114 3 116) 114 4 117) 114 5 118) 114 6 119) 114 7 120) 114 11 121) 114 12 122) 114 13 123) 114 14 124) 114 15 125) 114 16 126) 114 17 127) 114 18 128) 114 28 129) 114 29 130) 114 30 131) 114 34 132) 114 37 133) 114 38 134) 114 39 135) 114 42 136))
set_option maxRecDepth 20000 in
theorem i_X7 (zz : fz 115 hC6.2.1 hC6.2.2.1 hC6.2.2.2) (zn : (hC6.1 ++ [Sum.inl 7]).length = 115) : cm_ct D mX7_init (d + 1) 22 2368 [.ref 114] (hC6.1 ++ [Sum.inl 7], hC6.2.1, hC6.2.2.1, hC6.2.2.2) (fun r9 h9 => r9 = none ∧ h9 = hC7) := by
  refine cm_ct_of (ls := [some (.ref 114), none]) 1 (by decide +kernel) rfl rfl ?_
  refine cm_aload0 (pc := 0) dX7_init_0 ?_
  refine cm_objInit (pc := 1) oiX7_1 dX7_init_1 (by omega) (Nat.le_of_ble_eq_true rfl) ?_
  refine cm_aload0 (pc := 4) dX7_init_4 ?_
  refine cm_bipush (pc := 5) (v := 6) dX7_init_5 (by decide) ?_
  refine nw_I (pc := 7) (N := 6) zz zn arr_int dX7_init_7 (by decide) (by decide) (by decide) (by decide) (by decide) ?_
  have zn1 := la1 (q := .inr (0, 6)) zn
  clear zn
  have zz1 := zz.up
  clear zz
  refine put_F (pc := 9) rfl ffX7_7 dX7_init_9 ⟨by decide, by decide +kernel⟩ ?_
  have zz2 := zz1.st 114 1 115 (by decide)
  clear zz1
  refine cm_aload0 (pc := 12) dX7_init_12 ?_
  refine cm_bipush (pc := 13) (v := 6) dX7_init_13 (by decide) ?_
  refine nw_I (pc := 15) (N := 6) zz2 zn1 arr_int dX7_init_15 (by decide) (by decide) (by decide) (by decide) (by decide) ?_
  have zn3 := la1 (q := .inr (0, 6)) zn1
  clear zn1
  have zz3 := zz2.up
  clear zz2
  refine put_F (pc := 17) rfl ffX7_13 dX7_init_17 ⟨by decide, by decide +kernel⟩ ?_
  have zz4 := zz3.st 114 3 116 (by decide)
  clear zz3
  refine cm_aload0 (pc := 20) dX7_init_20 ?_
  refine cm_sipush (pc := 21) (v := 240) dX7_init_21 (by decide) ?_
  refine nw_I (pc := 24) (N := 240) zz4 zn3 arr_int dX7_init_24 (by decide) (by decide) (by decide) (by decide) (by decide) ?_
  have zn5 := la1 (q := .inr (0, 240)) zn3
  clear zn3
  have zz5 := zz4.up
  clear zz4
  refine put_F (pc := 26) rfl ffX7_16 dX7_init_26 ⟨by decide, by decide +kernel⟩ ?_
  have zz6 := zz5.st 114 4 117 (by decide)
  clear zz5
  refine cm_aload0 (pc := 29) dX7_init_29 ?_
  refine cm_bipush (pc := 30) (v := 40) dX7_init_30 (by decide) ?_
  refine nw_I (pc := 32) (N := 40) zz6 zn5 arr_int dX7_init_32 (by decide) (by decide) (by decide) (by decide) (by decide) ?_
  have zn7 := la1 (q := .inr (0, 40)) zn5
  clear zn5
  have zz7 := zz6.up
  clear zz6
  refine put_F (pc := 34) rfl ffX7_19 dX7_init_34 ⟨by decide, by decide +kernel⟩ ?_
  have zz8 := zz7.st 114 5 118 (by decide)
  clear zz7
  refine cm_aload0 (pc := 37) dX7_init_37 ?_
  refine cm_iconst (pc := 38) (v := 4) dX7_init_38 (by decide) ?_
  refine nw_I (pc := 39) (N := 4) zz8 zn7 arr_int dX7_init_39 (by decide) (by decide) (by decide) (by decide) (by decide) ?_
  have zn9 := la1 (q := .inr (0, 4)) zn7
  clear zn7
  have zz9 := zz8.up
  clear zz8
  refine put_F (pc := 41) rfl ffX7_22 dX7_init_41 ⟨by decide, by decide +kernel⟩ ?_
  have zz10 := zz9.st 114 6 119 (by decide)
  clear zz9
  refine cm_aload0 (pc := 44) dX7_init_44 ?_
  refine cm_sipush (pc := 45) (v := 320) dX7_init_45 (by decide) ?_
  refine nw_I (pc := 48) (N := 320) zz10 zn9 arr_int dX7_init_48 (by decide) (by decide) (by decide) (by decide) (by decide) ?_
  have zn11 := la1 (q := .inr (0, 320)) zn9
  clear zn9
  have zz11 := zz10.up
  clear zz10
  refine put_F (pc := 50) rfl ffX7_25 dX7_init_50 ⟨by decide, by decide +kernel⟩ ?_
  have zz12 := zz11.st 114 7 120 (by decide)
  clear zz11
  refine cm_aload0 (pc := 53) dX7_init_53 ?_
  refine cm_bipush (pc := 54) (v := 12) dX7_init_54 (by decide) ?_
  refine nw_I (pc := 56) (N := 12) zz12 zn11 arr_int dX7_init_56 (by decide) (by decide) (by decide) (by decide) (by decide) ?_
  have zn13 := la1 (q := .inr (0, 12)) zn11
  clear zn11
  have zz13 := zz12.up
  clear zz12
  refine put_F (pc := 58) rfl ffX7_28 dX7_init_58 ⟨by decide, by decide +kernel⟩ ?_
  have zz14 := zz13.st 114 11 121 (by decide)
  clear zz13
  refine cm_aload0 (pc := 61) dX7_init_61 ?_
  refine cm_bipush (pc := 62) (v := 12) dX7_init_62 (by decide) ?_
  refine nw_I (pc := 64) (N := 12) zz14 zn13 arr_int dX7_init_64 (by decide) (by decide) (by decide) (by decide) (by decide) ?_
  have zn15 := la1 (q := .inr (0, 12)) zn13
  clear zn13
  have zz15 := zz14.up
  clear zz14
  refine put_F (pc := 66) rfl ffX7_31 dX7_init_66 ⟨by decide, by decide +kernel⟩ ?_
  have zz16 := zz15.st 114 12 122 (by decide)
  clear zz15
  refine cm_aload0 (pc := 69) dX7_init_69 ?_
  refine cm_bipush (pc := 70) (v := 12) dX7_init_70 (by decide) ?_
  refine nw_I (pc := 72) (N := 12) zz16 zn15 arr_int dX7_init_72 (by decide) (by decide) (by decide) (by decide) (by decide) ?_
  have zn17 := la1 (q := .inr (0, 12)) zn15
  clear zn15
  have zz17 := zz16.up
  clear zz16
  refine put_F (pc := 74) rfl ffX7_34 dX7_init_74 ⟨by decide, by decide +kernel⟩ ?_
  have zz18 := zz17.st 114 13 123 (by decide)
  clear zz17
  refine cm_aload0 (pc := 77) dX7_init_77 ?_
  refine cm_bipush (pc := 78) (v := 6) dX7_init_78 (by decide) ?_
  refine nw_I (pc := 80) (N := 6) zz18 zn17 arr_int dX7_init_80 (by decide) (by decide) (by decide) (by decide) (by decide) ?_
  have zn19 := la1 (q := .inr (0, 6)) zn17
  clear zn17
  have zz19 := zz18.up
  clear zz18
  refine put_F (pc := 82) rfl ffX7_37 dX7_init_82 ⟨by decide, by decide +kernel⟩ ?_
  have zz20 := zz19.st 114 14 124 (by decide)
  clear zz19
  refine cm_aload0 (pc := 85) dX7_init_85 ?_
  refine cm_bipush (pc := 86) (v := 12) dX7_init_86 (by decide) ?_
  refine nw_I (pc := 88) (N := 12) zz20 zn19 arr_int dX7_init_88 (by decide) (by decide) (by decide) (by decide) (by decide) ?_
  have zn21 := la1 (q := .inr (0, 12)) zn19
  clear zn19
  have zz21 := zz20.up
  clear zz20
  refine put_F (pc := 90) rfl ffX7_40 dX7_init_90 ⟨by decide, by decide +kernel⟩ ?_
  have zz22 := zz21.st 114 15 125 (by decide)
  clear zz21
  refine cm_aload0 (pc := 93) dX7_init_93 ?_
  refine cm_bipush (pc := 94) (v := 12) dX7_init_94 (by decide) ?_
  refine nw_I (pc := 96) (N := 12) zz22 zn21 arr_int dX7_init_96 (by decide) (by decide) (by decide) (by decide) (by decide) ?_
  have zn23 := la1 (q := .inr (0, 12)) zn21
  clear zn21
  have zz23 := zz22.up
  clear zz22
  refine put_F (pc := 98) rfl ffX7_43 dX7_init_98 ⟨by decide, by decide +kernel⟩ ?_
  have zz24 := zz23.st 114 16 126 (by decide)
  clear zz23
  refine cm_aload0 (pc := 101) dX7_init_101 ?_
  refine cm_bipush (pc := 102) (v := 12) dX7_init_102 (by decide) ?_
  refine nw_I (pc := 104) (N := 12) zz24 zn23 arr_int dX7_init_104 (by decide) (by decide) (by decide) (by decide) (by decide) ?_
  have zn25 := la1 (q := .inr (0, 12)) zn23
  clear zn23
  have zz25 := zz24.up
  clear zz24
  refine put_F (pc := 106) rfl ffX7_46 dX7_init_106 ⟨by decide, by decide +kernel⟩ ?_
  have zz26 := zz25.st 114 17 127 (by decide)
  clear zz25
  refine cm_aload0 (pc := 109) dX7_init_109 ?_
  refine cm_bipush (pc := 110) (v := 6) dX7_init_110 (by decide) ?_
  refine nw_I (pc := 112) (N := 6) zz26 zn25 arr_int dX7_init_112 (by decide) (by decide) (by decide) (by decide) (by decide) ?_
  have zn27 := la1 (q := .inr (0, 6)) zn25
  clear zn25
  have zz27 := zz26.up
  clear zz26
  refine put_F (pc := 114) rfl ffX7_49 dX7_init_114 ⟨by decide, by decide +kernel⟩ ?_
  have zz28 := zz27.st 114 18 128 (by decide)
  clear zz27
  refine cm_aload0 (pc := 117) dX7_init_117 ?_
  refine cm_sipush (pc := 118) (v := 1440) dX7_init_118 (by decide) ?_
  refine nw_I (pc := 121) (N := 1440) zz28 zn27 arr_int dX7_init_121 (by decide) (by decide) (by decide) (by decide) (by decide) ?_
  have zn29 := la1 (q := .inr (0, 1440)) zn27
  clear zn27
  have zz29 := zz28.up
  clear zz28
  refine put_F (pc := 123) rfl ffX7_52 dX7_init_123 ⟨by decide, by decide +kernel⟩ ?_
  have zz30 := zz29.st 114 28 129 (by decide)
  clear zz29
  refine cm_aload0 (pc := 126) dX7_init_126 ?_
  refine cm_bipush (pc := 127) (v := 96) dX7_init_127 (by decide) ?_
  refine nw_I (pc := 129) (N := 96) zz30 zn29 arr_int dX7_init_129 (by decide) (by decide) (by decide) (by decide) (by decide) ?_
  have zn31 := la1 (q := .inr (0, 96)) zn29
  clear zn29
  have zz31 := zz30.up
  clear zz30
  refine put_F (pc := 131) rfl ffX7_55 dX7_init_131 ⟨by decide, by decide +kernel⟩ ?_
  have zz32 := zz31.st 114 29 130 (by decide)
  clear zz31
  refine cm_aload0 (pc := 134) dX7_init_134 ?_
  refine cm_bipush (pc := 135) (v := 24) dX7_init_135 (by decide) ?_
  refine nw_I (pc := 137) (N := 24) zz32 zn31 arr_int dX7_init_137 (by decide) (by decide) (by decide) (by decide) (by decide) ?_
  have zn33 := la1 (q := .inr (0, 24)) zn31
  clear zn31
  have zz33 := zz32.up
  clear zz32
  refine put_F (pc := 139) rfl ffX7_58 dX7_init_139 ⟨by decide, by decide +kernel⟩ ?_
  have zz34 := zz33.st 114 30 131 (by decide)
  clear zz33
  refine cm_aload0 (pc := 142) dX7_init_142 ?_
  refine cm_bipush (pc := 143) (v := 84) dX7_init_143 (by decide) ?_
  refine nw_I (pc := 145) (N := 84) zz34 zn33 arr_int dX7_init_145 (by decide) (by decide) (by decide) (by decide) (by decide) ?_
  have zn35 := la1 (q := .inr (0, 84)) zn33
  clear zn33
  have zz35 := zz34.up
  clear zz34
  refine put_F (pc := 147) rfl ffX7_61 dX7_init_147 ⟨by decide, by decide +kernel⟩ ?_
  have zz36 := zz35.st 114 34 132 (by decide)
  clear zz35
  refine cm_aload0 (pc := 150) dX7_init_150 ?_
  refine cm_bipush (pc := 151) (v := 6) dX7_init_151 (by decide) ?_
  refine nw_I (pc := 153) (N := 6) zz36 zn35 arr_int dX7_init_153 (by decide) (by decide) (by decide) (by decide) (by decide) ?_
  have zn37 := la1 (q := .inr (0, 6)) zn35
  clear zn35
  have zz37 := zz36.up
  clear zz36
  refine put_F (pc := 155) rfl ffX7_64 dX7_init_155 ⟨by decide, by decide +kernel⟩ ?_
  have zz38 := zz37.st 114 37 133 (by decide)
  clear zz37
  refine cm_aload0 (pc := 158) dX7_init_158 ?_
  refine cm_bipush (pc := 159) (v := 6) dX7_init_159 (by decide) ?_
  refine nw_I (pc := 161) (N := 6) zz38 zn37 arr_int dX7_init_161 (by decide) (by decide) (by decide) (by decide) (by decide) ?_
  have zn39 := la1 (q := .inr (0, 6)) zn37
  clear zn37
  have zz39 := zz38.up
  clear zz38
  refine put_F (pc := 163) rfl ffX7_67 dX7_init_163 ⟨by decide, by decide +kernel⟩ ?_
  have zz40 := zz39.st 114 38 134 (by decide)
  clear zz39
  refine cm_aload0 (pc := 166) dX7_init_166 ?_
  refine cm_bipush (pc := 167) (v := 6) dX7_init_167 (by decide) ?_
  refine nw_I (pc := 169) (N := 6) zz40 zn39 arr_int dX7_init_169 (by decide) (by decide) (by decide) (by decide) (by decide) ?_
  have zn41 := la1 (q := .inr (0, 6)) zn39
  clear zn39
  have zz41 := zz40.up
  clear zz40
  refine put_F (pc := 171) rfl ffX7_70 dX7_init_171 ⟨by decide, by decide +kernel⟩ ?_
  have zz42 := zz41.st 114 39 135 (by decide)
  clear zz41
  refine cm_aload0 (pc := 174) dX7_init_174 ?_
  refine cm_bipush (pc := 175) (v := 6) dX7_init_175 (by decide) ?_
  refine nw_I (pc := 177) (N := 6) zz42 zn41 arr_int dX7_init_177 (by decide) (by decide) (by decide) (by decide) (by decide) ?_
  have zn43 := la1 (q := .inr (0, 6)) zn41
  clear zn41
  have zz43 := zz42.up
  clear zz42
  refine put_F (pc := 179) rfl ffX7_73 dX7_init_179 ⟨by decide, by decide +kernel⟩ ?_
  have zz44 := zz43.st 114 42 136 (by decide)
  clear zz43
  refine cm_iconst (pc := 182) (v := 0) dX7_init_182 (by decide) ?_
  refine cm_istore1 (pc := 183) dX7_init_183 (by decide) rfl ?_
  refine cm_iload1 (pc := 184) dX7_init_184 ?_
  refine cm_bipush (pc := 185) (v := 6) dX7_init_185 (by decide) ?_
  refine cm_icmp_ge (pc := 187) (tgt := 204) dX7_init_187 (by decide) (fun q => absurd q (by decide)) (fun _ => ?_)
  refine cm_aload0 (pc := 190) dX7_init_190 ?_
  refine cm_getR (pc := 191) (b := 116) flX7_13 dX7_init_191 ⟨by decide, by decide +kernel⟩ (by decide +kernel) ?_
  refine cm_iload1 (pc := 194) dX7_init_194 ?_
  refine cm_bipush (pc := 195) (v := -9) dX7_init_195 (by decide) ?_
  refine iast9 (pc := 197) (k := 0) (n := 6) dX7_init_197 ⟨by decide, by decide +kernel⟩ (by decide) (by decide) (by decide) ?_
  have zz45 := zz44.sv 116 0 (-9) (by decide)
  clear zz44
  refine cm_iinc1 (pc := 198) (1) dX7_init_198 rfl (by decide) rfl ?_
  refine cm_goto (pc := 201) (tgt := 184) dX7_init_201 (by decide) ?_
  refine cm_iload1 (pc := 184) dX7_init_184 ?_
  refine cm_bipush (pc := 185) (v := 6) dX7_init_185 (by decide) ?_
  refine cm_icmp_ge (pc := 187) (tgt := 204) dX7_init_187 (by decide) (fun q => absurd q (by decide)) (fun _ => ?_)
  refine cm_aload0 (pc := 190) dX7_init_190 ?_
  refine cm_getR (pc := 191) (b := 116) flX7_13 dX7_init_191 ⟨by decide, by decide +kernel⟩ (by decide +kernel) ?_
  refine cm_iload1 (pc := 194) dX7_init_194 ?_
  refine cm_bipush (pc := 195) (v := -9) dX7_init_195 (by decide) ?_
  refine iast9 (pc := 197) (k := 1) (n := 6) dX7_init_197 ⟨by decide, by decide +kernel⟩ (by decide) (by decide) (by decide) ?_
  have zz46 := zz45.sv 116 1 (-9) (by decide)
  clear zz45
  refine cm_iinc1 (pc := 198) (1) dX7_init_198 rfl (by decide) rfl ?_
  refine cm_goto (pc := 201) (tgt := 184) dX7_init_201 (by decide) ?_
  refine cm_iload1 (pc := 184) dX7_init_184 ?_
  refine cm_bipush (pc := 185) (v := 6) dX7_init_185 (by decide) ?_
  refine cm_icmp_ge (pc := 187) (tgt := 204) dX7_init_187 (by decide) (fun q => absurd q (by decide)) (fun _ => ?_)
  refine cm_aload0 (pc := 190) dX7_init_190 ?_
  refine cm_getR (pc := 191) (b := 116) flX7_13 dX7_init_191 ⟨by decide, by decide +kernel⟩ (by decide +kernel) ?_
  refine cm_iload1 (pc := 194) dX7_init_194 ?_
  refine cm_bipush (pc := 195) (v := -9) dX7_init_195 (by decide) ?_
  refine iast9 (pc := 197) (k := 2) (n := 6) dX7_init_197 ⟨by decide, by decide +kernel⟩ (by decide) (by decide) (by decide) ?_
  have zz47 := zz46.sv 116 2 (-9) (by decide)
  clear zz46
  refine cm_iinc1 (pc := 198) (1) dX7_init_198 rfl (by decide) rfl ?_
  refine cm_goto (pc := 201) (tgt := 184) dX7_init_201 (by decide) ?_
  refine cm_iload1 (pc := 184) dX7_init_184 ?_
  refine cm_bipush (pc := 185) (v := 6) dX7_init_185 (by decide) ?_
  refine cm_icmp_ge (pc := 187) (tgt := 204) dX7_init_187 (by decide) (fun q => absurd q (by decide)) (fun _ => ?_)
  refine cm_aload0 (pc := 190) dX7_init_190 ?_
  refine cm_getR (pc := 191) (b := 116) flX7_13 dX7_init_191 ⟨by decide, by decide +kernel⟩ (by decide +kernel) ?_
  refine cm_iload1 (pc := 194) dX7_init_194 ?_
  refine cm_bipush (pc := 195) (v := -9) dX7_init_195 (by decide) ?_
  refine iast9 (pc := 197) (k := 3) (n := 6) dX7_init_197 ⟨by decide, by decide +kernel⟩ (by decide) (by decide) (by decide) ?_
  have zz48 := zz47.sv 116 3 (-9) (by decide)
  clear zz47
  refine cm_iinc1 (pc := 198) (1) dX7_init_198 rfl (by decide) rfl ?_
  refine cm_goto (pc := 201) (tgt := 184) dX7_init_201 (by decide) ?_
  refine cm_iload1 (pc := 184) dX7_init_184 ?_
  refine cm_bipush (pc := 185) (v := 6) dX7_init_185 (by decide) ?_
  refine cm_icmp_ge (pc := 187) (tgt := 204) dX7_init_187 (by decide) (fun q => absurd q (by decide)) (fun _ => ?_)
  refine cm_aload0 (pc := 190) dX7_init_190 ?_
  refine cm_getR (pc := 191) (b := 116) flX7_13 dX7_init_191 ⟨by decide, by decide +kernel⟩ (by decide +kernel) ?_
  refine cm_iload1 (pc := 194) dX7_init_194 ?_
  refine cm_bipush (pc := 195) (v := -9) dX7_init_195 (by decide) ?_
  refine iast9 (pc := 197) (k := 4) (n := 6) dX7_init_197 ⟨by decide, by decide +kernel⟩ (by decide) (by decide) (by decide) ?_
  have zz49 := zz48.sv 116 4 (-9) (by decide)
  clear zz48
  refine cm_iinc1 (pc := 198) (1) dX7_init_198 rfl (by decide) rfl ?_
  refine cm_goto (pc := 201) (tgt := 184) dX7_init_201 (by decide) ?_
  refine cm_iload1 (pc := 184) dX7_init_184 ?_
  refine cm_bipush (pc := 185) (v := 6) dX7_init_185 (by decide) ?_
  refine cm_icmp_ge (pc := 187) (tgt := 204) dX7_init_187 (by decide) (fun q => absurd q (by decide)) (fun _ => ?_)
  refine cm_aload0 (pc := 190) dX7_init_190 ?_
  refine cm_getR (pc := 191) (b := 116) flX7_13 dX7_init_191 ⟨by decide, by decide +kernel⟩ (by decide +kernel) ?_
  refine cm_iload1 (pc := 194) dX7_init_194 ?_
  refine cm_bipush (pc := 195) (v := -9) dX7_init_195 (by decide) ?_
  refine iast9 (pc := 197) (k := 5) (n := 6) dX7_init_197 ⟨by decide, by decide +kernel⟩ (by decide) (by decide) (by decide) ?_
  have zz50 := zz49.sv 116 5 (-9) (by decide)
  clear zz49
  refine cm_iinc1 (pc := 198) (1) dX7_init_198 rfl (by decide) rfl ?_
  refine cm_goto (pc := 201) (tgt := 184) dX7_init_201 (by decide) ?_
  refine cm_iload1 (pc := 184) dX7_init_184 ?_
  refine cm_bipush (pc := 185) (v := 6) dX7_init_185 (by decide) ?_
  refine cm_icmp_ge (pc := 187) (tgt := 204) dX7_init_187 (by decide) (fun _ => ?_) (fun q => absurd (by decide) q)
  refine cm_iconst (pc := 204) (v := 0) dX7_init_204 (by decide) ?_
  refine cm_istore1 (pc := 205) dX7_init_205 (by decide) rfl ?_
  refine cm_iload1 (pc := 206) dX7_init_206 ?_
  refine cm_iconst (pc := 207) (v := 4) dX7_init_207 (by decide) ?_
  refine cm_icmp_ge (pc := 208) (tgt := 225) dX7_init_208 (by decide) (fun q => absurd q (by decide)) (fun _ => ?_)
  refine cm_aload0 (pc := 211) dX7_init_211 ?_
  refine cm_getR (pc := 212) (b := 119) flX7_22 dX7_init_212 ⟨by decide, by decide +kernel⟩ (by decide +kernel) ?_
  refine cm_iload1 (pc := 215) dX7_init_215 ?_
  refine cm_bipush (pc := 216) (v := -9) dX7_init_216 (by decide) ?_
  refine iast9 (pc := 218) (k := 0) (n := 4) dX7_init_218 ⟨by decide, by decide +kernel⟩ (by decide) (by decide) (by decide) ?_
  have zz51 := zz50.sv 119 0 (-9) (by decide)
  clear zz50
  refine cm_iinc1 (pc := 219) (1) dX7_init_219 rfl (by decide) rfl ?_
  refine cm_goto (pc := 222) (tgt := 206) dX7_init_222 (by decide) ?_
  refine cm_iload1 (pc := 206) dX7_init_206 ?_
  refine cm_iconst (pc := 207) (v := 4) dX7_init_207 (by decide) ?_
  refine cm_icmp_ge (pc := 208) (tgt := 225) dX7_init_208 (by decide) (fun q => absurd q (by decide)) (fun _ => ?_)
  refine cm_aload0 (pc := 211) dX7_init_211 ?_
  refine cm_getR (pc := 212) (b := 119) flX7_22 dX7_init_212 ⟨by decide, by decide +kernel⟩ (by decide +kernel) ?_
  refine cm_iload1 (pc := 215) dX7_init_215 ?_
  refine cm_bipush (pc := 216) (v := -9) dX7_init_216 (by decide) ?_
  refine iast9 (pc := 218) (k := 1) (n := 4) dX7_init_218 ⟨by decide, by decide +kernel⟩ (by decide) (by decide) (by decide) ?_
  have zz52 := zz51.sv 119 1 (-9) (by decide)
  clear zz51
  refine cm_iinc1 (pc := 219) (1) dX7_init_219 rfl (by decide) rfl ?_
  refine cm_goto (pc := 222) (tgt := 206) dX7_init_222 (by decide) ?_
  refine cm_iload1 (pc := 206) dX7_init_206 ?_
  refine cm_iconst (pc := 207) (v := 4) dX7_init_207 (by decide) ?_
  refine cm_icmp_ge (pc := 208) (tgt := 225) dX7_init_208 (by decide) (fun q => absurd q (by decide)) (fun _ => ?_)
  refine cm_aload0 (pc := 211) dX7_init_211 ?_
  refine cm_getR (pc := 212) (b := 119) flX7_22 dX7_init_212 ⟨by decide, by decide +kernel⟩ (by decide +kernel) ?_
  refine cm_iload1 (pc := 215) dX7_init_215 ?_
  refine cm_bipush (pc := 216) (v := -9) dX7_init_216 (by decide) ?_
  refine iast9 (pc := 218) (k := 2) (n := 4) dX7_init_218 ⟨by decide, by decide +kernel⟩ (by decide) (by decide) (by decide) ?_
  have zz53 := zz52.sv 119 2 (-9) (by decide)
  clear zz52
  refine cm_iinc1 (pc := 219) (1) dX7_init_219 rfl (by decide) rfl ?_
  refine cm_goto (pc := 222) (tgt := 206) dX7_init_222 (by decide) ?_
  refine cm_iload1 (pc := 206) dX7_init_206 ?_
  refine cm_iconst (pc := 207) (v := 4) dX7_init_207 (by decide) ?_
  refine cm_icmp_ge (pc := 208) (tgt := 225) dX7_init_208 (by decide) (fun q => absurd q (by decide)) (fun _ => ?_)
  refine cm_aload0 (pc := 211) dX7_init_211 ?_
  refine cm_getR (pc := 212) (b := 119) flX7_22 dX7_init_212 ⟨by decide, by decide +kernel⟩ (by decide +kernel) ?_
  refine cm_iload1 (pc := 215) dX7_init_215 ?_
  refine cm_bipush (pc := 216) (v := -9) dX7_init_216 (by decide) ?_
  refine iast9 (pc := 218) (k := 3) (n := 4) dX7_init_218 ⟨by decide, by decide +kernel⟩ (by decide) (by decide) (by decide) ?_
  have zz54 := zz53.sv 119 3 (-9) (by decide)
  clear zz53
  refine cm_iinc1 (pc := 219) (1) dX7_init_219 rfl (by decide) rfl ?_
  refine cm_goto (pc := 222) (tgt := 206) dX7_init_222 (by decide) ?_
  refine cm_iload1 (pc := 206) dX7_init_206 ?_
  refine cm_iconst (pc := 207) (v := 4) dX7_init_207 (by decide) ?_
  refine cm_icmp_ge (pc := 208) (tgt := 225) dX7_init_208 (by decide) (fun _ => ?_) (fun q => absurd (by decide) q)
  refine cm_iconst (pc := 225) (v := 0) dX7_init_225 (by decide) ?_
  refine cm_istore1 (pc := 226) dX7_init_226 (by decide) rfl ?_
  refine cm_iload1 (pc := 227) dX7_init_227 ?_
  refine cm_iconst (pc := 228) (v := 3) dX7_init_228 (by decide) ?_
  refine cm_icmp_ge (pc := 229) (tgt := 249) dX7_init_229 (by decide) (fun q => absurd q (by decide)) (fun _ => ?_)
  refine cm_aload0 (pc := 232) dX7_init_232 ?_
  refine cm_getR (pc := 233) (b := 130) flX7_55 dX7_init_233 ⟨by decide, by decide +kernel⟩ (by decide +kernel) ?_
  refine cm_bipush (pc := 236) (v := 32) dX7_init_236 (by decide) ?_
  refine cm_iload1 (pc := 238) dX7_init_238 ?_
  refine cm_imul (pc := 239) dX7_init_239 ?_
  refine cm_bipush (pc := 240) (v := -9) dX7_init_240 (by decide) ?_
  refine iast9 (pc := 242) (k := 0) (n := 96) dX7_init_242 ⟨by decide, by decide +kernel⟩ (by decide) (by decide) (by decide) ?_
  have zz55 := zz54.sv 130 0 (-9) (by decide)
  clear zz54
  refine cm_iinc1 (pc := 243) (1) dX7_init_243 rfl (by decide) rfl ?_
  refine cm_goto (pc := 246) (tgt := 227) dX7_init_246 (by decide) ?_
  refine cm_iload1 (pc := 227) dX7_init_227 ?_
  refine cm_iconst (pc := 228) (v := 3) dX7_init_228 (by decide) ?_
  refine cm_icmp_ge (pc := 229) (tgt := 249) dX7_init_229 (by decide) (fun q => absurd q (by decide)) (fun _ => ?_)
  refine cm_aload0 (pc := 232) dX7_init_232 ?_
  refine cm_getR (pc := 233) (b := 130) flX7_55 dX7_init_233 ⟨by decide, by decide +kernel⟩ (by decide +kernel) ?_
  refine cm_bipush (pc := 236) (v := 32) dX7_init_236 (by decide) ?_
  refine cm_iload1 (pc := 238) dX7_init_238 ?_
  refine cm_imul (pc := 239) dX7_init_239 ?_
  refine cm_bipush (pc := 240) (v := -9) dX7_init_240 (by decide) ?_
  refine iast9 (pc := 242) (k := 32) (n := 96) dX7_init_242 ⟨by decide, by decide +kernel⟩ (by decide) (by decide) (by decide) ?_
  have zz56 := zz55.sv 130 32 (-9) (by decide)
  clear zz55
  refine cm_iinc1 (pc := 243) (1) dX7_init_243 rfl (by decide) rfl ?_
  refine cm_goto (pc := 246) (tgt := 227) dX7_init_246 (by decide) ?_
  refine cm_iload1 (pc := 227) dX7_init_227 ?_
  refine cm_iconst (pc := 228) (v := 3) dX7_init_228 (by decide) ?_
  refine cm_icmp_ge (pc := 229) (tgt := 249) dX7_init_229 (by decide) (fun q => absurd q (by decide)) (fun _ => ?_)
  refine cm_aload0 (pc := 232) dX7_init_232 ?_
  refine cm_getR (pc := 233) (b := 130) flX7_55 dX7_init_233 ⟨by decide, by decide +kernel⟩ (by decide +kernel) ?_
  refine cm_bipush (pc := 236) (v := 32) dX7_init_236 (by decide) ?_
  refine cm_iload1 (pc := 238) dX7_init_238 ?_
  refine cm_imul (pc := 239) dX7_init_239 ?_
  refine cm_bipush (pc := 240) (v := -9) dX7_init_240 (by decide) ?_
  refine iast9 (pc := 242) (k := 64) (n := 96) dX7_init_242 ⟨by decide, by decide +kernel⟩ (by decide) (by decide) (by decide) ?_
  have zz57 := zz56.sv 130 64 (-9) (by decide)
  clear zz56
  refine cm_iinc1 (pc := 243) (1) dX7_init_243 rfl (by decide) rfl ?_
  refine cm_goto (pc := 246) (tgt := 227) dX7_init_246 (by decide) ?_
  refine cm_iload1 (pc := 227) dX7_init_227 ?_
  refine cm_iconst (pc := 228) (v := 3) dX7_init_228 (by decide) ?_
  refine cm_icmp_ge (pc := 229) (tgt := 249) dX7_init_229 (by decide) (fun _ => ?_) (fun q => absurd (by decide) q)
  exact cm_vret (pc := 249) dX7_init_249 rfl ⟨rfl, rfl⟩
end IN2
