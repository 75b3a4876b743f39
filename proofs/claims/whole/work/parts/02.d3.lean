theorem dX7_mark_36 : decode cX7_mark 36 = .ok (.iconst 0, 1) := by decide +kernel
theorem dX7_mark_37 : decode cX7_mark 37 = .ok (.istore 4, 2) := by decide +kernel
theorem dX7_mark_39 : decode cX7_mark 39 = .ok (.iload 4, 2) := by decide +kernel
theorem dX7_mark_41 : decode cX7_mark 41 = .ok (.aload_n 0, 1) := by decide +kernel
theorem dX7_mark_42 : decode cX7_mark 42 = .ok (.getfield 154, 3) := by decide +kernel
theorem dX7_mark_45 : decode cX7_mark 45 = .ok (.if_icmp .ge 41, 3) := by decide +kernel
theorem dX7_mark_48 : decode cX7_mark 48 = .ok (.iload_n 3, 1) := by decide +kernel
theorem dX7_mark_49 : decode cX7_mark 49 = .ok (.aload_n 0, 1) := by decide +kernel
theorem dX7_mark_50 : decode cX7_mark 50 = .ok (.getfield 40, 3) := by decide +kernel
theorem dX7_mark_53 : decode cX7_mark 53 = .ok (.iload 4, 2) := by decide +kernel
theorem dX7_mark_55 : decode cX7_mark 55 = .ok (.iaload, 1) := by decide +kernel
theorem dX7_mark_56 : decode cX7_mark 56 = .ok (.aload_n 0, 1) := by decide +kernel
theorem dX7_mark_57 : decode cX7_mark 57 = .ok (.getfield 31, 3) := by decide +kernel
theorem dX7_mark_60 : decode cX7_mark 60 = .ok (.iload_n 1, 1) := by decide +kernel
theorem dX7_mark_61 : decode cX7_mark 61 = .ok (.iaload, 1) := by decide +kernel
theorem dX7_mark_62 : decode cX7_mark 62 = .ok (.isub, 1) := by decide +kernel
theorem dX7_mark_63 : decode cX7_mark 63 = .ok (.invokestatic 178, 3) := by decide +kernel
theorem dX7_mark_66 : decode cX7_mark 66 = .ok (.aload_n 0, 1) := by decide +kernel
theorem dX7_mark_67 : decode cX7_mark 67 = .ok (.getfield 157, 3) := by decide +kernel
theorem dX7_mark_70 : decode cX7_mark 70 = .ok (.if_icmp .gt 7, 3) := by decide +kernel
theorem dX7_mark_73 : decode cX7_mark 73 = .ok (.iconst 1, 1) := by decide +kernel
theorem dX7_mark_74 : decode cX7_mark 74 = .ok (.goto 4, 3) := by decide +kernel
theorem dX7_mark_77 : decode cX7_mark 77 = .ok (.iconst 0, 1) := by decide +kernel
theorem dX7_mark_78 : decode cX7_mark 78 = .ok (.iadd, 1) := by decide +kernel
theorem dX7_mark_79 : decode cX7_mark 79 = .ok (.istore_n 3, 1) := by decide +kernel
theorem dX7_mark_80 : decode cX7_mark 80 = .ok (.iinc 4 1, 3) := by decide +kernel
theorem dX7_mark_83 : decode cX7_mark 83 = .ok (.goto (-44), 3) := by decide +kernel
theorem dX7_mark_86 : decode cX7_mark 86 = .ok (.iload_n 2, 1) := by decide +kernel
theorem dX7_mark_87 : decode cX7_mark 87 = .ok (.tableswitch 99 1 4 #[29, 54, 90, 97], 29) := by decide +kernel
theorem dX7_mark_116 : decode cX7_mark 116 = .ok (.aload_n 0, 1) := by decide +kernel
theorem dX7_mark_117 : decode cX7_mark 117 = .ok (.iload_n 1, 1) := by decide +kernel
theorem dX7_mark_118 : decode cX7_mark 118 = .ok (.iconst 1, 1) := by decide +kernel
theorem dX7_mark_119 : decode cX7_mark 119 = .ok (.invokevirtual 189, 3) := by decide +kernel
theorem dX7_mark_122 : decode cX7_mark 122 = .ok (.invokestatic 192, 3) := by decide +kernel
theorem dX7_mark_125 : decode cX7_mark 125 = .ok (.aload_n 0, 1) := by decide +kernel
theorem dX7_mark_126 : decode cX7_mark 126 = .ok (.iload_n 1, 1) := by decide +kernel
theorem dX7_mark_127 : decode cX7_mark 127 = .ok (.iconst 1, 1) := by decide +kernel
theorem dX7_mark_128 : decode cX7_mark 128 = .ok (.invokevirtual 189, 3) := by decide +kernel
theorem dX7_mark_131 : decode cX7_mark 131 = .ok (.ifCond .ne 7, 3) := by decide +kernel
theorem dX7_mark_134 : decode cX7_mark 134 = .ok (.iconst 0, 1) := by decide +kernel
theorem dX7_mark_135 : decode cX7_mark 135 = .ok (.goto 4, 3) := by decide +kernel
theorem dX7_mark_138 : decode cX7_mark 138 = .ok (.iconst 1, 1) := by decide +kernel
theorem dX7_mark_139 : decode cX7_mark 139 = .ok (.isub, 1) := by decide +kernel
theorem dX7_mark_140 : decode cX7_mark 140 = .ok (.ireturn, 1) := by decide +kernel
theorem dX7_mark_141 : decode cX7_mark 141 = .ok (.iload_n 1, 1) := by decide +kernel
theorem dX7_mark_142 : decode cX7_mark 142 = .ok (.ifCond .eq 13, 3) := by decide +kernel
theorem dX7_mark_145 : decode cX7_mark 145 = .ok (.iload_n 1, 1) := by decide +kernel
theorem dX7_mark_146 : decode cX7_mark 146 = .ok (.aload_n 0, 1) := by decide +kernel
theorem dX7_mark_147 : decode cX7_mark 147 = .ok (.getfield 151, 3) := by decide +kernel
theorem dX7_mark_150 : decode cX7_mark 150 = .ok (.iconst 1, 1) := by decide +kernel
theorem dX7_mark_151 : decode cX7_mark 151 = .ok (.isub, 1) := by decide +kernel
theorem dX7_mark_152 : decode cX7_mark 152 = .ok (.if_icmp .ne 7, 3) := by decide +kernel
theorem dX7_mark_155 : decode cX7_mark 155 = .ok (.iconst 0, 1) := by decide +kernel
theorem dX7_mark_156 : decode cX7_mark 156 = .ok (.goto 20, 3) := by decide +kernel
theorem dX7_mark_159 : decode cX7_mark 159 = .ok (.aload_n 0, 1) := by decide +kernel
theorem dX7_mark_160 : decode cX7_mark 160 = .ok (.getfield 31, 3) := by decide +kernel
theorem dX7_mark_163 : decode cX7_mark 163 = .ok (.iload_n 1, 1) := by decide +kernel
theorem dX7_mark_164 : decode cX7_mark 164 = .ok (.iconst 1, 1) := by decide +kernel
theorem dX7_mark_165 : decode cX7_mark 165 = .ok (.iadd, 1) := by decide +kernel
theorem dX7_mark_166 : decode cX7_mark 166 = .ok (.iaload, 1) := by decide +kernel
theorem dX7_mark_167 : decode cX7_mark 167 = .ok (.aload_n 0, 1) := by decide +kernel
theorem dX7_mark_168 : decode cX7_mark 168 = .ok (.getfield 31, 3) := by decide +kernel
theorem dX7_mark_171 : decode cX7_mark 171 = .ok (.iload_n 1, 1) := by decide +kernel
theorem dX7_mark_172 : decode cX7_mark 172 = .ok (.iconst 1, 1) := by decide +kernel
theorem dX7_mark_173 : decode cX7_mark 173 = .ok (.isub, 1) := by decide +kernel
theorem dX7_mark_174 : decode cX7_mark 174 = .ok (.iaload, 1) := by decide +kernel
theorem dX7_mark_175 : decode cX7_mark 175 = .ok (.isub, 1) := by decide +kernel
theorem dX7_mark_176 : decode cX7_mark 176 = .ok (.ireturn, 1) := by decide +kernel
theorem dX7_mark_177 : decode cX7_mark 177 = .ok (.aload_n 0, 1) := by decide +kernel
theorem dX7_mark_178 : decode cX7_mark 178 = .ok (.iload_n 1, 1) := by decide +kernel
theorem dX7_mark_179 : decode cX7_mark 179 = .ok (.iconst 3, 1) := by decide +kernel
theorem dX7_mark_180 : decode cX7_mark 180 = .ok (.invokevirtual 195, 3) := by decide +kernel
theorem dX7_mark_183 : decode cX7_mark 183 = .ok (.ireturn, 1) := by decide +kernel
theorem dX7_mark_184 : decode cX7_mark 184 = .ok (.iload_n 3, 1) := by decide +kernel
theorem dX7_mark_185 : decode cX7_mark 185 = .ok (.ireturn, 1) := by decide +kernel
theorem dX7_mark_186 : decode cX7_mark 186 = .ok (.aload_n 0, 1) := by decide +kernel
theorem dX7_mark_187 : decode cX7_mark 187 = .ok (.iload_n 1, 1) := by decide +kernel
theorem dX7_mark_188 : decode cX7_mark 188 = .ok (.aload_n 0, 1) := by decide +kernel
theorem dX7_mark_189 : decode cX7_mark 189 = .ok (.getfield 34, 3) := by decide +kernel
theorem dX7_mark_192 : decode cX7_mark 192 = .ok (.iload_n 1, 1) := by decide +kernel
theorem dX7_mark_193 : decode cX7_mark 193 = .ok (.iaload, 1) := by decide +kernel
theorem dX7_mark_194 : decode cX7_mark 194 = .ok (.invokevirtual 195, 3) := by decide +kernel
theorem dX7_mark_197 : decode cX7_mark 197 = .ok (.ireturn, 1) := by decide +kernel
theorem dX7_want_0 : decode cX7_want 0 = .ok (.aload_n 0, 1) := by decide +kernel
theorem dX7_want_1 : decode cX7_want 1 = .ok (.iload_n 1, 1) := by decide +kernel
theorem dX7_want_2 : decode cX7_want 2 = .ok (.invokevirtual 166, 3) := by decide +kernel
theorem dX7_want_5 : decode cX7_want 5 = .ok (.ifCond .eq 12, 3) := by decide +kernel
theorem dX7_want_8 : decode cX7_want 8 = .ok (.iload_n 2, 1) := by decide +kernel
theorem dX7_want_9 : decode cX7_want 9 = .ok (.iconst 0, 1) := by decide +kernel
theorem dX7_want_10 : decode cX7_want 10 = .ok (.iconst 4, 1) := by decide +kernel
theorem dX7_want_11 : decode cX7_want 11 = .ok (.invokestatic 83, 3) := by decide +kernel
theorem dX7_want_14 : decode cX7_want 14 = .ok (.ifCond .ne 5, 3) := by decide +kernel
theorem dX7_want_17 : decode cX7_want 17 = .ok (.iconst (-1), 1) := by decide +kernel
theorem dX7_want_18 : decode cX7_want 18 = .ok (.ireturn, 1) := by decide +kernel
theorem dX7_want_19 : decode cX7_want 19 = .ok (.aload_n 0, 1) := by decide +kernel
theorem dX7_want_20 : decode cX7_want 20 = .ok (.getfield 34, 3) := by decide +kernel
theorem dX7_want_23 : decode cX7_want 23 = .ok (.iload_n 1, 1) := by decide +kernel
theorem dX7_want_24 : decode cX7_want 24 = .ok (.iaload, 1) := by decide +kernel
theorem dX7_want_25 : decode cX7_want 25 = .ok (.istore_n 3, 1) := by decide +kernel
theorem dX7_want_26 : decode cX7_want 26 = .ok (.aload_n 0, 1) := by decide +kernel
theorem dX7_want_27 : decode cX7_want 27 = .ok (.getfield 34, 3) := by decide +kernel
theorem dX7_want_30 : decode cX7_want 30 = .ok (.iload_n 1, 1) := by decide +kernel
theorem dX7_want_31 : decode cX7_want 31 = .ok (.iload_n 2, 1) := by decide +kernel
theorem dX7_want_32 : decode cX7_want 32 = .ok (.iastore, 1) := by decide +kernel
theorem dX7_want_33 : decode cX7_want 33 = .ok (.iload_n 3, 1) := by decide +kernel
theorem dX7_want_34 : decode cX7_want 34 = .ok (.ireturn, 1) := by decide +kernel
theorem dX7_price_0 : decode cX7_price 0 = .ok (.aload_n 0, 1) := by decide +kernel
theorem dX7_price_1 : decode cX7_price 1 = .ok (.iload_n 1, 1) := by decide +kernel
theorem dX7_price_2 : decode cX7_price 2 = .ok (.invokevirtual 172, 3) := by decide +kernel
theorem dX7_price_5 : decode cX7_price 5 = .ok (.ifCond .eq 13, 3) := by decide +kernel
theorem dX7_price_8 : decode cX7_price 8 = .ok (.iload_n 2, 1) := by decide +kernel
theorem dX7_price_9 : decode cX7_price 9 = .ok (.iconst 0, 1) := by decide +kernel
theorem dX7_price_10 : decode cX7_price 10 = .ok (.bipush 99, 2) := by decide +kernel
theorem dX7_price_12 : decode cX7_price 12 = .ok (.invokestatic 83, 3) := by decide +kernel
theorem dX7_price_15 : decode cX7_price 15 = .ok (.ifCond .ne 5, 3) := by decide +kernel
theorem dX7_price_18 : decode cX7_price 18 = .ok (.iconst (-1), 1) := by decide +kernel
theorem dX7_price_19 : decode cX7_price 19 = .ok (.ireturn, 1) := by decide +kernel
theorem dX7_price_20 : decode cX7_price 20 = .ok (.aload_n 0, 1) := by decide +kernel
theorem dX7_price_21 : decode cX7_price 21 = .ok (.getfield 46, 3) := by decide +kernel
theorem dX7_price_24 : decode cX7_price 24 = .ok (.iload_n 1, 1) := by decide +kernel
theorem dX7_price_25 : decode cX7_price 25 = .ok (.iaload, 1) := by decide +kernel
theorem dX7_price_26 : decode cX7_price 26 = .ok (.istore_n 3, 1) := by decide +kernel
theorem dX7_price_27 : decode cX7_price 27 = .ok (.aload_n 0, 1) := by decide +kernel
theorem dX7_price_28 : decode cX7_price 28 = .ok (.getfield 46, 3) := by decide +kernel
theorem dX7_price_31 : decode cX7_price 31 = .ok (.iload_n 1, 1) := by decide +kernel
theorem dX7_price_32 : decode cX7_price 32 = .ok (.iload_n 2, 1) := by decide +kernel
theorem dX7_price_33 : decode cX7_price 33 = .ok (.iastore, 1) := by decide +kernel
theorem dX7_price_34 : decode cX7_price 34 = .ok (.iload_n 3, 1) := by decide +kernel
theorem dX7_price_35 : decode cX7_price 35 = .ok (.ireturn, 1) := by decide +kernel
theorem dX7_wish_0 : decode cX7_wish 0 = .ok (.aload_n 0, 1) := by decide +kernel
theorem dX7_wish_1 : decode cX7_wish 1 = .ok (.iload_n 1, 1) := by decide +kernel
theorem dX7_wish_2 : decode cX7_wish 2 = .ok (.invokevirtual 166, 3) := by decide +kernel
theorem dX7_wish_5 : decode cX7_wish 5 = .ok (.ifCond .eq 16, 3) := by decide +kernel
theorem dX7_wish_8 : decode cX7_wish 8 = .ok (.aload_n 0, 1) := by decide +kernel
theorem dX7_wish_9 : decode cX7_wish 9 = .ok (.aload_n 0, 1) := by decide +kernel
theorem dX7_wish_10 : decode cX7_wish 10 = .ok (.iload_n 1, 1) := by decide +kernel
theorem dX7_wish_11 : decode cX7_wish 11 = .ok (.invokevirtual 198, 3) := by decide +kernel
theorem dX7_wish_14 : decode cX7_wish 14 = .ok (.iconst 1, 1) := by decide +kernel
theorem dX7_wish_15 : decode cX7_wish 15 = .ok (.invokevirtual 109, 3) := by decide +kernel
theorem dX7_wish_18 : decode cX7_wish 18 = .ok (.goto 4, 3) := by decide +kernel
theorem dX7_wish_21 : decode cX7_wish 21 = .ok (.iconst (-1), 1) := by decide +kernel
theorem dX7_wish_22 : decode cX7_wish 22 = .ok (.ireturn, 1) := by decide +kernel
theorem dX7_isSpot_0 : decode cX7_isSpot 0 = .ok (.iload_n 0, 1) := by decide +kernel
theorem dX7_isSpot_1 : decode cX7_isSpot 1 = .ok (.iconst 0, 1) := by decide +kernel
theorem dX7_isSpot_2 : decode cX7_isSpot 2 = .ok (.bipush 19, 2) := by decide +kernel
theorem dX7_isSpot_4 : decode cX7_isSpot 4 = .ok (.invokestatic 83, 3) := by decide +kernel
theorem dX7_isSpot_7 : decode cX7_isSpot 7 = .ok (.ireturn, 1) := by decide +kernel
theorem dX7_isHeld_0 : decode cX7_isHeld 0 = .ok (.aload_n 0, 1) := by decide +kernel
theorem dX7_isHeld_1 : decode cX7_isHeld 1 = .ok (.getfield 28, 3) := by decide +kernel
theorem dX7_isHeld_4 : decode cX7_isHeld 4 = .ok (.iload_n 1, 1) := by decide +kernel
theorem dX7_isHeld_5 : decode cX7_isHeld 5 = .ok (.iaload, 1) := by decide +kernel
theorem dX7_isHeld_6 : decode cX7_isHeld 6 = .ok (.iconst 4, 1) := by decide +kernel
theorem dX7_isHeld_7 : decode cX7_isHeld 7 = .ok (.if_icmp .eq 15, 3) := by decide +kernel
theorem dX7_isHeld_10 : decode cX7_isHeld 10 = .ok (.aload_n 0, 1) := by decide +kernel
theorem dX7_isHeld_11 : decode cX7_isHeld 11 = .ok (.getfield 28, 3) := by decide +kernel
theorem dX7_isHeld_14 : decode cX7_isHeld 14 = .ok (.iload_n 1, 1) := by decide +kernel
theorem dX7_isHeld_15 : decode cX7_isHeld 15 = .ok (.iconst 1, 1) := by decide +kernel
theorem dX7_isHeld_16 : decode cX7_isHeld 16 = .ok (.iadd, 1) := by decide +kernel
theorem dX7_isHeld_17 : decode cX7_isHeld 17 = .ok (.iaload, 1) := by decide +kernel
theorem dX7_isHeld_18 : decode cX7_isHeld 18 = .ok (.iconst 4, 1) := by decide +kernel
theorem dX7_isHeld_19 : decode cX7_isHeld 19 = .ok (.if_icmp .ne 7, 3) := by decide +kernel
theorem dX7_isHeld_22 : decode cX7_isHeld 22 = .ok (.iconst 1, 1) := by decide +kernel
theorem dX7_isHeld_23 : decode cX7_isHeld 23 = .ok (.goto 4, 3) := by decide +kernel
theorem dX7_isHeld_26 : decode cX7_isHeld 26 = .ok (.iconst 0, 1) := by decide +kernel
theorem dX7_isHeld_27 : decode cX7_isHeld 27 = .ok (.istore 4, 2) := by decide +kernel
theorem dX7_isHeld_29 : decode cX7_isHeld 29 = .ok (.iload_n 3, 1) := by decide +kernel
theorem dX7_isHeld_30 : decode cX7_isHeld 30 = .ok (.iload_n 2, 1) := by decide +kernel
theorem dX7_isHeld_31 : decode cX7_isHeld 31 = .ok (.if_icmp .le 22, 3) := by decide +kernel
theorem dX7_isHeld_34 : decode cX7_isHeld 34 = .ok (.iload 4, 2) := by decide +kernel
theorem dX7_isHeld_36 : decode cX7_isHeld 36 = .ok (.ifCond .ne 13, 3) := by decide +kernel
theorem dX7_isHeld_39 : decode cX7_isHeld 39 = .ok (.iload_n 3, 1) := by decide +kernel
theorem dX7_isHeld_40 : decode cX7_isHeld 40 = .ok (.iload_n 2, 1) := by decide +kernel
theorem dX7_isHeld_41 : decode cX7_isHeld 41 = .ok (.isub, 1) := by decide +kernel
theorem dX7_isHeld_42 : decode cX7_isHeld 42 = .ok (.aload_n 0, 1) := by decide +kernel
theorem dX7_isHeld_43 : decode cX7_isHeld 43 = .ok (.getfield 157, 3) := by decide +kernel
theorem dX7_isHeld_46 : decode cX7_isHeld 46 = .ok (.if_icmp .gt 7, 3) := by decide +kernel
theorem dX7_isHeld_49 : decode cX7_isHeld 49 = .ok (.iconst 1, 1) := by decide +kernel
theorem dX7_isHeld_50 : decode cX7_isHeld 50 = .ok (.goto 4, 3) := by decide +kernel
theorem dX7_isHeld_53 : decode cX7_isHeld 53 = .ok (.iconst 0, 1) := by decide +kernel
theorem dX7_isHeld_54 : decode cX7_isHeld 54 = .ok (.ireturn, 1) := by decide +kernel
theorem dX7_stepPlain_0 : decode cX7_stepPlain 0 = .ok (.aload_n 0, 1) := by decide +kernel
theorem dX7_stepPlain_1 : decode cX7_stepPlain 1 = .ok (.getfield 31, 3) := by decide +kernel
theorem dX7_stepPlain_4 : decode cX7_stepPlain 4 = .ok (.iload_n 1, 1) := by decide +kernel
theorem dX7_stepPlain_5 : decode cX7_stepPlain 5 = .ok (.iaload, 1) := by decide +kernel
theorem dX7_stepPlain_6 : decode cX7_stepPlain 6 = .ok (.iload_n 2, 1) := by decide +kernel
theorem dX7_stepPlain_7 : decode cX7_stepPlain 7 = .ok (.iadd, 1) := by decide +kernel
theorem dX7_stepPlain_8 : decode cX7_stepPlain 8 = .ok (.istore_n 3, 1) := by decide +kernel
theorem dX7_stepPlain_9 : decode cX7_stepPlain 9 = .ok (.iload_n 1, 1) := by decide +kernel
theorem dX7_stepPlain_10 : decode cX7_stepPlain 10 = .ok (.ifCond .eq 22, 3) := by decide +kernel
theorem dX7_stepPlain_13 : decode cX7_stepPlain 13 = .ok (.aload_n 0, 1) := by decide +kernel
theorem dX7_stepPlain_14 : decode cX7_stepPlain 14 = .ok (.iload_n 1, 1) := by decide +kernel
theorem dX7_stepPlain_15 : decode cX7_stepPlain 15 = .ok (.iconst 1, 1) := by decide +kernel
theorem dX7_stepPlain_16 : decode cX7_stepPlain 16 = .ok (.isub, 1) := by decide +kernel
theorem dX7_stepPlain_17 : decode cX7_stepPlain 17 = .ok (.aload_n 0, 1) := by decide +kernel
theorem dX7_stepPlain_18 : decode cX7_stepPlain 18 = .ok (.getfield 31, 3) := by decide +kernel
theorem dX7_stepPlain_21 : decode cX7_stepPlain 21 = .ok (.iload_n 1, 1) := by decide +kernel
theorem dX7_stepPlain_22 : decode cX7_stepPlain 22 = .ok (.iconst 1, 1) := by decide +kernel
theorem dX7_stepPlain_23 : decode cX7_stepPlain 23 = .ok (.isub, 1) := by decide +kernel
theorem dX7_stepPlain_24 : decode cX7_stepPlain 24 = .ok (.iaload, 1) := by decide +kernel
theorem dX7_stepPlain_25 : decode cX7_stepPlain 25 = .ok (.iload_n 3, 1) := by decide +kernel
theorem dX7_stepPlain_26 : decode cX7_stepPlain 26 = .ok (.invokevirtual 201, 3) := by decide +kernel
theorem dX7_stepPlain_29 : decode cX7_stepPlain 29 = .ok (.ifCond .eq 7, 3) := by decide +kernel
theorem dX7_stepPlain_32 : decode cX7_stepPlain 32 = .ok (.iconst 1, 1) := by decide +kernel
theorem dX7_stepPlain_33 : decode cX7_stepPlain 33 = .ok (.goto 4, 3) := by decide +kernel
theorem dX7_stepPlain_36 : decode cX7_stepPlain 36 = .ok (.iconst 0, 1) := by decide +kernel
theorem dX7_stepPlain_37 : decode cX7_stepPlain 37 = .ok (.istore 4, 2) := by decide +kernel
theorem dX7_stepPlain_39 : decode cX7_stepPlain 39 = .ok (.iload_n 1, 1) := by decide +kernel
theorem dX7_stepPlain_40 : decode cX7_stepPlain 40 = .ok (.aload_n 0, 1) := by decide +kernel
theorem dX7_stepPlain_41 : decode cX7_stepPlain 41 = .ok (.getfield 151, 3) := by decide +kernel
theorem dX7_stepPlain_44 : decode cX7_stepPlain 44 = .ok (.iconst 1, 1) := by decide +kernel
theorem dX7_stepPlain_45 : decode cX7_stepPlain 45 = .ok (.isub, 1) := by decide +kernel
theorem dX7_stepPlain_46 : decode cX7_stepPlain 46 = .ok (.if_icmp .eq 20, 3) := by decide +kernel
theorem dX7_stepPlain_49 : decode cX7_stepPlain 49 = .ok (.aload_n 0, 1) := by decide +kernel
theorem dX7_stepPlain_50 : decode cX7_stepPlain 50 = .ok (.iload_n 1, 1) := by decide +kernel
theorem dX7_stepPlain_51 : decode cX7_stepPlain 51 = .ok (.iload_n 3, 1) := by decide +kernel
theorem dX7_stepPlain_52 : decode cX7_stepPlain 52 = .ok (.aload_n 0, 1) := by decide +kernel
theorem dX7_stepPlain_53 : decode cX7_stepPlain 53 = .ok (.getfield 31, 3) := by decide +kernel
theorem dX7_stepPlain_56 : decode cX7_stepPlain 56 = .ok (.iload_n 1, 1) := by decide +kernel
theorem dX7_stepPlain_57 : decode cX7_stepPlain 57 = .ok (.iconst 1, 1) := by decide +kernel
theorem dX7_stepPlain_58 : decode cX7_stepPlain 58 = .ok (.iadd, 1) := by decide +kernel
theorem dX7_stepPlain_59 : decode cX7_stepPlain 59 = .ok (.iaload, 1) := by decide +kernel
theorem dX7_stepPlain_60 : decode cX7_stepPlain 60 = .ok (.invokevirtual 201, 3) := by decide +kernel
theorem dX7_stepPlain_63 : decode cX7_stepPlain 63 = .ok (.ifCond .eq 7, 3) := by decide +kernel
theorem dX7_stepPlain_66 : decode cX7_stepPlain 66 = .ok (.iconst 1, 1) := by decide +kernel
theorem dX7_stepPlain_67 : decode cX7_stepPlain 67 = .ok (.goto 4, 3) := by decide +kernel
theorem dX7_stepPlain_70 : decode cX7_stepPlain 70 = .ok (.iconst 0, 1) := by decide +kernel
theorem dX7_stepPlain_71 : decode cX7_stepPlain 71 = .ok (.istore 5, 2) := by decide +kernel
theorem dX7_stepPlain_73 : decode cX7_stepPlain 73 = .ok (.iload_n 3, 1) := by decide +kernel
theorem dX7_stepPlain_74 : decode cX7_stepPlain 74 = .ok (.invokestatic 204, 3) := by decide +kernel
theorem dX7_stepPlain_77 : decode cX7_stepPlain 77 = .ok (.ifCond .eq 20, 3) := by decide +kernel
theorem dX7_stepPlain_80 : decode cX7_stepPlain 80 = .ok (.iload 4, 2) := by decide +kernel
theorem dX7_stepPlain_82 : decode cX7_stepPlain 82 = .ok (.ifCond .eq 15, 3) := by decide +kernel
theorem dX7_stepPlain_85 : decode cX7_stepPlain 85 = .ok (.iload 5, 2) := by decide +kernel
theorem dX7_stepPlain_87 : decode cX7_stepPlain 87 = .ok (.ifCond .eq 10, 3) := by decide +kernel
theorem dX7_stepPlain_90 : decode cX7_stepPlain 90 = .ok (.aload_n 0, 1) := by decide +kernel
theorem dX7_stepPlain_91 : decode cX7_stepPlain 91 = .ok (.getfield 31, 3) := by decide +kernel
theorem dX7_stepPlain_94 : decode cX7_stepPlain 94 = .ok (.iload_n 1, 1) := by decide +kernel
theorem dX7_stepPlain_95 : decode cX7_stepPlain 95 = .ok (.iload_n 3, 1) := by decide +kernel
theorem dX7_stepPlain_96 : decode cX7_stepPlain 96 = .ok (.iastore, 1) := by decide +kernel
theorem dX7_stepPlain_97 : decode cX7_stepPlain 97 = .ok (.return_, 1) := by decide +kernel
theorem dX7_goers_0 : decode cX7_goers 0 = .ok (.iconst 1, 1) := by decide +kernel
theorem dX7_goers_1 : decode cX7_goers 1 = .ok (.iload_n 1, 1) := by decide +kernel
theorem dX7_goers_2 : decode cX7_goers 2 = .ok (.ishl, 1) := by decide +kernel
theorem dX7_goers_3 : decode cX7_goers 3 = .ok (.istore_n 3, 1) := by decide +kernel
theorem dX7_goers_4 : decode cX7_goers 4 = .ok (.iload_n 1, 1) := by decide +kernel
theorem dX7_goers_5 : decode cX7_goers 5 = .ok (.istore 4, 2) := by decide +kernel
theorem dX7_goers_7 : decode cX7_goers 7 = .ok (.iload 4, 2) := by decide +kernel
theorem dX7_goers_9 : decode cX7_goers 9 = .ok (.ifCond .le 45, 3) := by decide +kernel
theorem dX7_goers_12 : decode cX7_goers 12 = .ok (.aload_n 0, 1) := by decide +kernel
theorem dX7_goers_13 : decode cX7_goers 13 = .ok (.iload 4, 2) := by decide +kernel
theorem dX7_goers_15 : decode cX7_goers 15 = .ok (.iconst 1, 1) := by decide +kernel
theorem dX7_goers_16 : decode cX7_goers 16 = .ok (.isub, 1) := by decide +kernel
theorem dX7_goers_17 : decode cX7_goers 17 = .ok (.aload_n 0, 1) := by decide +kernel
theorem dX7_goers_18 : decode cX7_goers 18 = .ok (.getfield 31, 3) := by decide +kernel
theorem dX7_goers_21 : decode cX7_goers 21 = .ok (.iload 4, 2) := by decide +kernel
theorem dX7_goers_23 : decode cX7_goers 23 = .ok (.iconst 1, 1) := by decide +kernel
theorem dX7_goers_24 : decode cX7_goers 24 = .ok (.isub, 1) := by decide +kernel
theorem dX7_goers_25 : decode cX7_goers 25 = .ok (.iaload, 1) := by decide +kernel
theorem dX7_goers_26 : decode cX7_goers 26 = .ok (.aload_n 0, 1) := by decide +kernel
theorem dX7_goers_27 : decode cX7_goers 27 = .ok (.getfield 31, 3) := by decide +kernel
theorem dX7_goers_30 : decode cX7_goers 30 = .ok (.iload 4, 2) := by decide +kernel
theorem dX7_goers_32 : decode cX7_goers 32 = .ok (.iaload, 1) := by decide +kernel
theorem dX7_goers_33 : decode cX7_goers 33 = .ok (.iload_n 2, 1) := by decide +kernel
theorem dX7_goers_34 : decode cX7_goers 34 = .ok (.iadd, 1) := by decide +kernel
theorem dX7_goers_35 : decode cX7_goers 35 = .ok (.invokevirtual 201, 3) := by decide +kernel
theorem dX7_goers_38 : decode cX7_goers 38 = .ok (.ifCond .ne 16, 3) := by decide +kernel
theorem dX7_goers_41 : decode cX7_goers 41 = .ok (.iinc 4 (-1), 3) := by decide +kernel
theorem dX7_goers_44 : decode cX7_goers 44 = .ok (.iload_n 3, 1) := by decide +kernel
theorem dX7_goers_45 : decode cX7_goers 45 = .ok (.iconst 1, 1) := by decide +kernel
theorem dX7_goers_46 : decode cX7_goers 46 = .ok (.iload 4, 2) := by decide +kernel
theorem dX7_goers_48 : decode cX7_goers 48 = .ok (.ishl, 1) := by decide +kernel
theorem dX7_goers_49 : decode cX7_goers 49 = .ok (.ior, 1) := by decide +kernel
theorem dX7_goers_50 : decode cX7_goers 50 = .ok (.istore_n 3, 1) := by decide +kernel
theorem dX7_goers_51 : decode cX7_goers 51 = .ok (.goto (-44), 3) := by decide +kernel
theorem dX7_goers_54 : decode cX7_goers 54 = .ok (.iload_n 1, 1) := by decide +kernel
theorem dX7_goers_55 : decode cX7_goers 55 = .ok (.istore 4, 2) := by decide +kernel
theorem dX7_goers_57 : decode cX7_goers 57 = .ok (.iload 4, 2) := by decide +kernel
theorem dX7_goers_59 : decode cX7_goers 59 = .ok (.aload_n 0, 1) := by decide +kernel
theorem dX7_goers_60 : decode cX7_goers 60 = .ok (.getfield 151, 3) := by decide +kernel
theorem dX7_goers_63 : decode cX7_goers 63 = .ok (.iconst 1, 1) := by decide +kernel
theorem dX7_goers_64 : decode cX7_goers 64 = .ok (.isub, 1) := by decide +kernel
theorem dX7_goers_65 : decode cX7_goers 65 = .ok (.if_icmp .ge 43, 3) := by decide +kernel
theorem dX7_goers_68 : decode cX7_goers 68 = .ok (.aload_n 0, 1) := by decide +kernel
theorem dX7_goers_69 : decode cX7_goers 69 = .ok (.iload 4, 2) := by decide +kernel
theorem dX7_goers_71 : decode cX7_goers 71 = .ok (.aload_n 0, 1) := by decide +kernel
theorem dX7_goers_72 : decode cX7_goers 72 = .ok (.getfield 31, 3) := by decide +kernel
theorem dX7_goers_75 : decode cX7_goers 75 = .ok (.iload 4, 2) := by decide +kernel
theorem dX7_goers_77 : decode cX7_goers 77 = .ok (.iaload, 1) := by decide +kernel
theorem dX7_goers_78 : decode cX7_goers 78 = .ok (.iload_n 2, 1) := by decide +kernel
theorem dX7_goers_79 : decode cX7_goers 79 = .ok (.iadd, 1) := by decide +kernel
theorem dX7_goers_80 : decode cX7_goers 80 = .ok (.aload_n 0, 1) := by decide +kernel
theorem dX7_goers_81 : decode cX7_goers 81 = .ok (.getfield 31, 3) := by decide +kernel
theorem dX7_goers_84 : decode cX7_goers 84 = .ok (.iload 4, 2) := by decide +kernel
theorem dX7_goers_86 : decode cX7_goers 86 = .ok (.iconst 1, 1) := by decide +kernel
theorem dX7_goers_87 : decode cX7_goers 87 = .ok (.iadd, 1) := by decide +kernel
theorem dX7_goers_88 : decode cX7_goers 88 = .ok (.iaload, 1) := by decide +kernel
theorem dX7_goers_89 : decode cX7_goers 89 = .ok (.invokevirtual 201, 3) := by decide +kernel
theorem dX7_goers_92 : decode cX7_goers 92 = .ok (.ifCond .ne 16, 3) := by decide +kernel
theorem dX7_goers_95 : decode cX7_goers 95 = .ok (.iinc 4 1, 3) := by decide +kernel
theorem dX7_goers_98 : decode cX7_goers 98 = .ok (.iload_n 3, 1) := by decide +kernel
theorem dX7_goers_99 : decode cX7_goers 99 = .ok (.iconst 1, 1) := by decide +kernel
theorem dX7_goers_100 : decode cX7_goers 100 = .ok (.iload 4, 2) := by decide +kernel
theorem dX7_goers_102 : decode cX7_goers 102 = .ok (.ishl, 1) := by decide +kernel
theorem dX7_goers_103 : decode cX7_goers 103 = .ok (.ior, 1) := by decide +kernel
theorem dX7_goers_104 : decode cX7_goers 104 = .ok (.istore_n 3, 1) := by decide +kernel
theorem dX7_goers_105 : decode cX7_goers 105 = .ok (.goto (-48), 3) := by decide +kernel
theorem dX7_goers_108 : decode cX7_goers 108 = .ok (.iconst 0, 1) := by decide +kernel
theorem dX7_goers_109 : decode cX7_goers 109 = .ok (.istore 5, 2) := by decide +kernel
theorem dX7_goers_111 : decode cX7_goers 111 = .ok (.iload 5, 2) := by decide +kernel
theorem dX7_goers_113 : decode cX7_goers 113 = .ok (.aload_n 0, 1) := by decide +kernel
theorem dX7_goers_114 : decode cX7_goers 114 = .ok (.getfield 151, 3) := by decide +kernel
theorem dX7_goers_117 : decode cX7_goers 117 = .ok (.if_icmp .ge 51, 3) := by decide +kernel
theorem dX7_goers_120 : decode cX7_goers 120 = .ok (.iload_n 3, 1) := by decide +kernel
theorem dX7_goers_121 : decode cX7_goers 121 = .ok (.iload 5, 2) := by decide +kernel
theorem dX7_goers_123 : decode cX7_goers 123 = .ok (.invokestatic 207, 3) := by decide +kernel
theorem dX7_goers_126 : decode cX7_goers 126 = .ok (.ifCond .eq 36, 3) := by decide +kernel
theorem dX7_goers_129 : decode cX7_goers 129 = .ok (.aload_n 0, 1) := by decide +kernel
theorem dX7_goers_130 : decode cX7_goers 130 = .ok (.getfield 31, 3) := by decide +kernel
theorem dX7_goers_133 : decode cX7_goers 133 = .ok (.iload 5, 2) := by decide +kernel
theorem dX7_goers_135 : decode cX7_goers 135 = .ok (.iaload, 1) := by decide +kernel
theorem dX7_goers_136 : decode cX7_goers 136 = .ok (.iload_n 2, 1) := by decide +kernel
theorem dX7_goers_137 : decode cX7_goers 137 = .ok (.iadd, 1) := by decide +kernel
theorem dX7_goers_138 : decode cX7_goers 138 = .ok (.invokestatic 204, 3) := by decide +kernel
theorem dX7_goers_141 : decode cX7_goers 141 = .ok (.ifCond .eq 19, 3) := by decide +kernel
theorem dX7_goers_144 : decode cX7_goers 144 = .ok (.iload 5, 2) := by decide +kernel
theorem dX7_goers_146 : decode cX7_goers 146 = .ok (.iload_n 1, 1) := by decide +kernel
theorem dX7_goers_147 : decode cX7_goers 147 = .ok (.if_icmp .eq 15, 3) := by decide +kernel
theorem dX7_goers_150 : decode cX7_goers 150 = .ok (.aload_n 0, 1) := by decide +kernel
theorem dX7_goers_151 : decode cX7_goers 151 = .ok (.iload 5, 2) := by decide +kernel
theorem dX7_goers_153 : decode cX7_goers 153 = .ok (.iconst 1, 1) := by decide +kernel
theorem dX7_goers_154 : decode cX7_goers 154 = .ok (.invokevirtual 185, 3) := by decide +kernel
theorem dX7_goers_157 : decode cX7_goers 157 = .ok (.ifCond .eq 5, 3) := by decide +kernel
theorem dX7_goers_160 : decode cX7_goers 160 = .ok (.iconst 0, 1) := by decide +kernel
theorem dX7_goers_161 : decode cX7_goers 161 = .ok (.ireturn, 1) := by decide +kernel
theorem dX7_goers_162 : decode cX7_goers 162 = .ok (.iinc 5 1, 3) := by decide +kernel
theorem dX7_goers_165 : decode cX7_goers 165 = .ok (.goto (-54), 3) := by decide +kernel
theorem dX7_goers_168 : decode cX7_goers 168 = .ok (.iload_n 3, 1) := by decide +kernel
theorem dX7_goers_169 : decode cX7_goers 169 = .ok (.ireturn, 1) := by decide +kernel
theorem dX7_stepRich_0 : decode cX7_stepRich 0 = .ok (.aload_n 0, 1) := by decide +kernel
theorem dX7_stepRich_1 : decode cX7_stepRich 1 = .ok (.iload_n 1, 1) := by decide +kernel
theorem dX7_stepRich_2 : decode cX7_stepRich 2 = .ok (.invokevirtual 198, 3) := by decide +kernel
theorem dX7_stepRich_5 : decode cX7_stepRich 5 = .ok (.istore_n 2, 1) := by decide +kernel
theorem dX7_stepRich_6 : decode cX7_stepRich 6 = .ok (.iload_n 2, 1) := by decide +kernel
theorem dX7_stepRich_7 : decode cX7_stepRich 7 = .ok (.ifCond .ne 7, 3) := by decide +kernel
theorem dX7_stepRich_10 : decode cX7_stepRich 10 = .ok (.iconst 0, 1) := by decide +kernel
theorem dX7_stepRich_11 : decode cX7_stepRich 11 = .ok (.goto 9, 3) := by decide +kernel
theorem dX7_stepRich_14 : decode cX7_stepRich 14 = .ok (.aload_n 0, 1) := by decide +kernel
theorem dX7_stepRich_15 : decode cX7_stepRich 15 = .ok (.iload_n 1, 1) := by decide +kernel
theorem dX7_stepRich_16 : decode cX7_stepRich 16 = .ok (.iload_n 2, 1) := by decide +kernel
theorem dX7_stepRich_17 : decode cX7_stepRich 17 = .ok (.invokevirtual 189, 3) := by decide +kernel
theorem dX7_stepRich_20 : decode cX7_stepRich 20 = .ok (.istore_n 3, 1) := by decide +kernel
theorem dX7_stepRich_21 : decode cX7_stepRich 21 = .ok (.iconst 0, 1) := by decide +kernel
theorem dX7_stepRich_22 : decode cX7_stepRich 22 = .ok (.istore 4, 2) := by decide +kernel
theorem dX7_stepRich_24 : decode cX7_stepRich 24 = .ok (.iload 4, 2) := by decide +kernel
theorem dX7_stepRich_26 : decode cX7_stepRich 26 = .ok (.aload_n 0, 1) := by decide +kernel
theorem dX7_stepRich_27 : decode cX7_stepRich 27 = .ok (.getfield 151, 3) := by decide +kernel
theorem dX7_stepRich_30 : decode cX7_stepRich 30 = .ok (.if_icmp .ge 33, 3) := by decide +kernel
theorem dX7_stepRich_33 : decode cX7_stepRich 33 = .ok (.aload_n 0, 1) := by decide +kernel
theorem dX7_stepRich_34 : decode cX7_stepRich 34 = .ok (.getfield 31, 3) := by decide +kernel
theorem dX7_stepRich_37 : decode cX7_stepRich 37 = .ok (.iload 4, 2) := by decide +kernel
theorem dX7_stepRich_39 : decode cX7_stepRich 39 = .ok (.dup2, 1) := by decide +kernel
theorem dX7_stepRich_40 : decode cX7_stepRich 40 = .ok (.iaload, 1) := by decide +kernel
theorem dX7_stepRich_41 : decode cX7_stepRich 41 = .ok (.iload_n 3, 1) := by decide +kernel
theorem dX7_stepRich_42 : decode cX7_stepRich 42 = .ok (.iload 4, 2) := by decide +kernel
theorem dX7_stepRich_44 : decode cX7_stepRich 44 = .ok (.invokestatic 207, 3) := by decide +kernel
theorem dX7_stepRich_47 : decode cX7_stepRich 47 = .ok (.ifCond .eq 7, 3) := by decide +kernel
theorem dX7_stepRich_50 : decode cX7_stepRich 50 = .ok (.iload_n 2, 1) := by decide +kernel
theorem dX7_stepRich_51 : decode cX7_stepRich 51 = .ok (.goto 4, 3) := by decide +kernel
theorem dX7_stepRich_54 : decode cX7_stepRich 54 = .ok (.iconst 0, 1) := by decide +kernel
theorem dX7_stepRich_55 : decode cX7_stepRich 55 = .ok (.iadd, 1) := by decide +kernel
theorem dX7_stepRich_56 : decode cX7_stepRich 56 = .ok (.iastore, 1) := by decide +kernel
theorem dX7_stepRich_57 : decode cX7_stepRich 57 = .ok (.iinc 4 1, 3) := by decide +kernel
theorem dX7_stepRich_60 : decode cX7_stepRich 60 = .ok (.goto (-36), 3) := by decide +kernel
theorem dX7_stepRich_63 : decode cX7_stepRich 63 = .ok (.return_, 1) := by decide +kernel
theorem dX7_sunNow_0 : decode cX7_sunNow 0 = .ok (.aload_n 0, 1) := by decide +kernel
theorem dX7_sunNow_1 : decode cX7_sunNow 1 = .ok (.getfield 160, 3) := by decide +kernel
theorem dX7_sunNow_4 : decode cX7_sunNow 4 = .ok (.bipush 7, 2) := by decide +kernel
theorem dX7_sunNow_6 : decode cX7_sunNow 6 = .ok (.irem, 1) := by decide +kernel
theorem dX7_sunNow_7 : decode cX7_sunNow 7 = .ok (.iconst 3, 1) := by decide +kernel
theorem dX7_sunNow_8 : decode cX7_sunNow 8 = .ok (.isub, 1) := by decide +kernel
theorem dX7_sunNow_9 : decode cX7_sunNow 9 = .ok (.ireturn, 1) := by decide +kernel
theorem dX7_isShaded_0 : decode cX7_isShaded 0 = .ok (.aload_n 0, 1) := by decide +kernel
theorem dX7_isShaded_1 : decode cX7_isShaded 1 = .ok (.getfield 151, 3) := by decide +kernel
theorem dX7_isShaded_4 : decode cX7_isShaded 4 = .ok (.ifCond .le 33, 3) := by decide +kernel
theorem dX7_isShaded_7 : decode cX7_isShaded 7 = .ok (.iload_n 1, 1) := by decide +kernel
theorem dX7_isShaded_8 : decode cX7_isShaded 8 = .ok (.iload_n 2, 1) := by decide +kernel
theorem dX7_isShaded_9 : decode cX7_isShaded 9 = .ok (.isub, 1) := by decide +kernel
theorem dX7_isShaded_10 : decode cX7_isShaded 10 = .ok (.aload_n 0, 1) := by decide +kernel
theorem dX7_isShaded_11 : decode cX7_isShaded 11 = .ok (.getfield 31, 3) := by decide +kernel
theorem dX7_isShaded_14 : decode cX7_isShaded 14 = .ok (.iconst 0, 1) := by decide +kernel
theorem dX7_isShaded_15 : decode cX7_isShaded 15 = .ok (.iaload, 1) := by decide +kernel
theorem dX7_isShaded_16 : decode cX7_isShaded 16 = .ok (.aload_n 0, 1) := by decide +kernel
theorem dX7_isShaded_17 : decode cX7_isShaded 17 = .ok (.getfield 31, 3) := by decide +kernel
theorem dX7_isShaded_20 : decode cX7_isShaded 20 = .ok (.aload_n 0, 1) := by decide +kernel
theorem dX7_isShaded_21 : decode cX7_isShaded 21 = .ok (.getfield 151, 3) := by decide +kernel
theorem dX7_isShaded_24 : decode cX7_isShaded 24 = .ok (.iconst 1, 1) := by decide +kernel
theorem dX7_isShaded_25 : decode cX7_isShaded 25 = .ok (.isub, 1) := by decide +kernel
theorem dX7_isShaded_26 : decode cX7_isShaded 26 = .ok (.iaload, 1) := by decide +kernel
theorem dX7_isShaded_27 : decode cX7_isShaded 27 = .ok (.invokestatic 83, 3) := by decide +kernel
theorem dX7_isShaded_30 : decode cX7_isShaded 30 = .ok (.ifCond .eq 7, 3) := by decide +kernel
theorem dX7_isShaded_33 : decode cX7_isShaded 33 = .ok (.iconst 1, 1) := by decide +kernel
theorem dX7_isShaded_34 : decode cX7_isShaded 34 = .ok (.goto 4, 3) := by decide +kernel
theorem dX7_isShaded_37 : decode cX7_isShaded 37 = .ok (.iconst 0, 1) := by decide +kernel
theorem dX7_isShaded_38 : decode cX7_isShaded 38 = .ok (.ireturn, 1) := by decide +kernel
theorem dX7_passMinute_0 : decode cX7_passMinute 0 = .ok (.iconst 0, 1) := by decide +kernel
theorem dX7_passMinute_1 : decode cX7_passMinute 1 = .ok (.istore_n 3, 1) := by decide +kernel
theorem dX7_passMinute_2 : decode cX7_passMinute 2 = .ok (.iload_n 3, 1) := by decide +kernel
theorem dX7_passMinute_3 : decode cX7_passMinute 3 = .ok (.aload_n 0, 1) := by decide +kernel
theorem dX7_passMinute_4 : decode cX7_passMinute 4 = .ok (.getfield 151, 3) := by decide +kernel
theorem dX7_passMinute_7 : decode cX7_passMinute 7 = .ok (.if_icmp .ge 38, 3) := by decide +kernel
theorem dX7_passMinute_10 : decode cX7_passMinute 10 = .ok (.aload_n 0, 1) := by decide +kernel
theorem dX7_passMinute_11 : decode cX7_passMinute 11 = .ok (.iload_n 3, 1) := by decide +kernel
theorem dX7_passMinute_12 : decode cX7_passMinute 12 = .ok (.iconst 1, 1) := by decide +kernel
theorem dX7_passMinute_13 : decode cX7_passMinute 13 = .ok (.invokevirtual 185, 3) := by decide +kernel
theorem dX7_passMinute_16 : decode cX7_passMinute 16 = .ok (.ifCond .eq 23, 3) := by decide +kernel
theorem dX7_passMinute_19 : decode cX7_passMinute 19 = .ok (.aload_n 0, 1) := by decide +kernel
theorem dX7_passMinute_20 : decode cX7_passMinute 20 = .ok (.iload_n 3, 1) := by decide +kernel
theorem dX7_passMinute_21 : decode cX7_passMinute 21 = .ok (.invokevirtual 210, 3) := by decide +kernel
theorem dX7_passMinute_24 : decode cX7_passMinute 24 = .ok (.aload_n 0, 1) := by decide +kernel
theorem dX7_passMinute_25 : decode cX7_passMinute 25 = .ok (.getfield 28, 3) := by decide +kernel
theorem dX7_passMinute_28 : decode cX7_passMinute 28 = .ok (.iload_n 3, 1) := by decide +kernel
theorem dX7_passMinute_29 : decode cX7_passMinute 29 = .ok (.iaload, 1) := by decide +kernel
theorem dX7_passMinute_30 : decode cX7_passMinute 30 = .ok (.iconst 5, 1) := by decide +kernel
theorem dX7_passMinute_31 : decode cX7_passMinute 31 = .ok (.if_icmp .ne 8, 3) := by decide +kernel
theorem dX7_passMinute_34 : decode cX7_passMinute 34 = .ok (.aload_n 0, 1) := by decide +kernel
theorem dX7_passMinute_35 : decode cX7_passMinute 35 = .ok (.iload_n 3, 1) := by decide +kernel
theorem dX7_passMinute_36 : decode cX7_passMinute 36 = .ok (.invokevirtual 210, 3) := by decide +kernel
theorem dX7_passMinute_39 : decode cX7_passMinute 39 = .ok (.iinc 3 1, 3) := by decide +kernel
theorem dX7_passMinute_42 : decode cX7_passMinute 42 = .ok (.goto (-40), 3) := by decide +kernel
theorem dX7_passMinute_45 : decode cX7_passMinute 45 = .ok (.iconst 0, 1) := by decide +kernel
theorem dX7_passMinute_46 : decode cX7_passMinute 46 = .ok (.istore_n 3, 1) := by decide +kernel
theorem dX7_passMinute_47 : decode cX7_passMinute 47 = .ok (.iload_n 3, 1) := by decide +kernel
theorem dX7_passMinute_48 : decode cX7_passMinute 48 = .ok (.aload_n 0, 1) := by decide +kernel
theorem dX7_passMinute_49 : decode cX7_passMinute 49 = .ok (.getfield 151, 3) := by decide +kernel
theorem dX7_passMinute_52 : decode cX7_passMinute 52 = .ok (.if_icmp .ge 41, 3) := by decide +kernel
theorem dX7_passMinute_55 : decode cX7_passMinute 55 = .ok (.aload_n 0, 1) := by decide +kernel
theorem dX7_passMinute_56 : decode cX7_passMinute 56 = .ok (.iload_n 3, 1) := by decide +kernel
theorem dX7_passMinute_57 : decode cX7_passMinute 57 = .ok (.iconst 1, 1) := by decide +kernel
theorem dX7_passMinute_58 : decode cX7_passMinute 58 = .ok (.invokevirtual 185, 3) := by decide +kernel
theorem dX7_passMinute_61 : decode cX7_passMinute 61 = .ok (.ifCond .eq 7, 3) := by decide +kernel
theorem dX7_passMinute_64 : decode cX7_passMinute 64 = .ok (.iconst 0, 1) := by decide +kernel
theorem dX7_passMinute_65 : decode cX7_passMinute 65 = .ok (.goto 8, 3) := by decide +kernel
theorem dX7_passMinute_68 : decode cX7_passMinute 68 = .ok (.aload_n 0, 1) := by decide +kernel
theorem dX7_passMinute_69 : decode cX7_passMinute 69 = .ok (.iload_n 3, 1) := by decide +kernel
theorem dX7_passMinute_70 : decode cX7_passMinute 70 = .ok (.invokevirtual 198, 3) := by decide +kernel
theorem dX7_passMinute_73 : decode cX7_passMinute 73 = .ok (.istore 4, 2) := by decide +kernel
theorem dX7_passMinute_75 : decode cX7_passMinute 75 = .ok (.iload 4, 2) := by decide +kernel
theorem dX7_passMinute_77 : decode cX7_passMinute 77 = .ok (.ifCond .eq 10, 3) := by decide +kernel
theorem dX7_passMinute_80 : decode cX7_passMinute 80 = .ok (.aload_n 0, 1) := by decide +kernel
theorem dX7_passMinute_81 : decode cX7_passMinute 81 = .ok (.iload_n 3, 1) := by decide +kernel
theorem dX7_passMinute_82 : decode cX7_passMinute 82 = .ok (.iload 4, 2) := by decide +kernel
theorem dX7_passMinute_84 : decode cX7_passMinute 84 = .ok (.invokevirtual 214, 3) := by decide +kernel
theorem dX7_passMinute_87 : decode cX7_passMinute 87 = .ok (.iinc 3 1, 3) := by decide +kernel
theorem dX7_passMinute_90 : decode cX7_passMinute 90 = .ok (.goto (-43), 3) := by decide +kernel
theorem dX7_passMinute_93 : decode cX7_passMinute 93 = .ok (.aload_n 0, 1) := by decide +kernel
theorem dX7_passMinute_94 : decode cX7_passMinute 94 = .ok (.dup, 1) := by decide +kernel
theorem dX7_passMinute_95 : decode cX7_passMinute 95 = .ok (.getfield 160, 3) := by decide +kernel
theorem dX7_passMinute_98 : decode cX7_passMinute 98 = .ok (.iconst 1, 1) := by decide +kernel
theorem dX7_passMinute_99 : decode cX7_passMinute 99 = .ok (.iadd, 1) := by decide +kernel
theorem dX7_passMinute_100 : decode cX7_passMinute 100 = .ok (.putfield 160, 3) := by decide +kernel
theorem dX7_passMinute_103 : decode cX7_passMinute 103 = .ok (.aload_n 0, 1) := by decide +kernel
theorem dX7_passMinute_104 : decode cX7_passMinute 104 = .ok (.iconst 0, 1) := by decide +kernel
theorem dX7_passMinute_105 : decode cX7_passMinute 105 = .ok (.putfield 218, 3) := by decide +kernel
theorem dX7_passMinute_108 : decode cX7_passMinute 108 = .ok (.aload_n 0, 1) := by decide +kernel
theorem dX7_passMinute_109 : decode cX7_passMinute 109 = .ok (.iconst 0, 1) := by decide +kernel
theorem dX7_passMinute_110 : decode cX7_passMinute 110 = .ok (.putfield 221, 3) := by decide +kernel
theorem dX7_passMinute_113 : decode cX7_passMinute 113 = .ok (.iconst 0, 1) := by decide +kernel
theorem dX7_passMinute_114 : decode cX7_passMinute 114 = .ok (.istore_n 3, 1) := by decide +kernel
theorem dX7_passMinute_115 : decode cX7_passMinute 115 = .ok (.iload_n 3, 1) := by decide +kernel
theorem dX7_passMinute_116 : decode cX7_passMinute 116 = .ok (.aload_n 0, 1) := by decide +kernel
theorem dX7_passMinute_117 : decode cX7_passMinute 117 = .ok (.getfield 151, 3) := by decide +kernel
theorem dX7_passMinute_120 : decode cX7_passMinute 120 = .ok (.if_icmp .ge 109, 3) := by decide +kernel
theorem dX7_passMinute_123 : decode cX7_passMinute 123 = .ok (.aload_n 0, 1) := by decide +kernel
theorem dX7_passMinute_124 : decode cX7_passMinute 124 = .ok (.iload_n 3, 1) := by decide +kernel
theorem dX7_passMinute_125 : decode cX7_passMinute 125 = .ok (.aload_n 0, 1) := by decide +kernel
theorem dX7_passMinute_126 : decode cX7_passMinute 126 = .ok (.invokevirtual 224, 3) := by decide +kernel
theorem dX7_passMinute_129 : decode cX7_passMinute 129 = .ok (.iload_n 1, 1) := by decide +kernel
theorem dX7_passMinute_130 : decode cX7_passMinute 130 = .ok (.iadd, 1) := by decide +kernel
theorem dX7_passMinute_131 : decode cX7_passMinute 131 = .ok (.invokevirtual 228, 3) := by decide +kernel
theorem dX7_passMinute_134 : decode cX7_passMinute 134 = .ok (.istore 4, 2) := by decide +kernel
theorem dX7_passMinute_136 : decode cX7_passMinute 136 = .ok (.iload 4, 2) := by decide +kernel
theorem dX7_passMinute_138 : decode cX7_passMinute 138 = .ok (.bipush (-9), 2) := by decide +kernel
theorem dX7_passMinute_140 : decode cX7_passMinute 140 = .ok (.if_icmp .eq 83, 3) := by decide +kernel
theorem dX7_passMinute_143 : decode cX7_passMinute 143 = .ok (.aload_n 0, 1) := by decide +kernel
theorem dX7_passMinute_144 : decode cX7_passMinute 144 = .ok (.dup, 1) := by decide +kernel
theorem dX7_passMinute_145 : decode cX7_passMinute 145 = .ok (.getfield 218, 3) := by decide +kernel
theorem dX7_passMinute_148 : decode cX7_passMinute 148 = .ok (.iconst 1, 1) := by decide +kernel
theorem dX7_passMinute_149 : decode cX7_passMinute 149 = .ok (.iload_n 3, 1) := by decide +kernel
theorem dX7_passMinute_150 : decode cX7_passMinute 150 = .ok (.ishl, 1) := by decide +kernel
theorem dX7_passMinute_151 : decode cX7_passMinute 151 = .ok (.ior, 1) := by decide +kernel
theorem dX7_passMinute_152 : decode cX7_passMinute 152 = .ok (.putfield 218, 3) := by decide +kernel
theorem dX7_passMinute_155 : decode cX7_passMinute 155 = .ok (.aload_n 0, 1) := by decide +kernel
theorem dX7_passMinute_156 : decode cX7_passMinute 156 = .ok (.dup, 1) := by decide +kernel
theorem dX7_passMinute_157 : decode cX7_passMinute 157 = .ok (.getfield 221, 3) := by decide +kernel
theorem dX7_passMinute_160 : decode cX7_passMinute 160 = .ok (.aload_n 0, 1) := by decide +kernel
theorem dX7_passMinute_161 : decode cX7_passMinute 161 = .ok (.getfield 46, 3) := by decide +kernel
theorem dX7_passMinute_164 : decode cX7_passMinute 164 = .ok (.iload 4, 2) := by decide +kernel
theorem dX7_passMinute_166 : decode cX7_passMinute 166 = .ok (.iaload, 1) := by decide +kernel
theorem dX7_passMinute_167 : decode cX7_passMinute 167 = .ok (.iadd, 1) := by decide +kernel
theorem dX7_passMinute_168 : decode cX7_passMinute 168 = .ok (.putfield 221, 3) := by decide +kernel
theorem dX7_passMinute_171 : decode cX7_passMinute 171 = .ok (.aload_n 0, 1) := by decide +kernel
theorem dX7_passMinute_172 : decode cX7_passMinute 172 = .ok (.getfield 37, 3) := by decide +kernel
theorem dX7_passMinute_175 : decode cX7_passMinute 175 = .ok (.iload_n 3, 1) := by decide +kernel
theorem dX7_passMinute_176 : decode cX7_passMinute 176 = .ok (.dup2, 1) := by decide +kernel
theorem dX7_passMinute_177 : decode cX7_passMinute 177 = .ok (.iaload, 1) := by decide +kernel
theorem dX7_passMinute_178 : decode cX7_passMinute 178 = .ok (.aload_n 0, 1) := by decide +kernel
theorem dX7_passMinute_179 : decode cX7_passMinute 179 = .ok (.getfield 46, 3) := by decide +kernel
theorem dX7_passMinute_182 : decode cX7_passMinute 182 = .ok (.iload 4, 2) := by decide +kernel
theorem dX7_passMinute_184 : decode cX7_passMinute 184 = .ok (.iaload, 1) := by decide +kernel
theorem dX7_passMinute_185 : decode cX7_passMinute 185 = .ok (.iadd, 1) := by decide +kernel
theorem dX7_passMinute_186 : decode cX7_passMinute 186 = .ok (.iastore, 1) := by decide +kernel
theorem dX7_passMinute_187 : decode cX7_passMinute 187 = .ok (.aload_n 0, 1) := by decide +kernel
theorem dX7_passMinute_188 : decode cX7_passMinute 188 = .ok (.getfield 49, 3) := by decide +kernel
theorem dX7_passMinute_191 : decode cX7_passMinute 191 = .ok (.iload 4, 2) := by decide +kernel
theorem dX7_passMinute_193 : decode cX7_passMinute 193 = .ok (.dup2, 1) := by decide +kernel
theorem dX7_passMinute_194 : decode cX7_passMinute 194 = .ok (.iaload, 1) := by decide +kernel
theorem dX7_passMinute_195 : decode cX7_passMinute 195 = .ok (.iconst 1, 1) := by decide +kernel
theorem dX7_passMinute_196 : decode cX7_passMinute 196 = .ok (.iadd, 1) := by decide +kernel
theorem dX7_passMinute_197 : decode cX7_passMinute 197 = .ok (.iastore, 1) := by decide +kernel
theorem dX7_passMinute_198 : decode cX7_passMinute 198 = .ok (.aload_n 0, 1) := by decide +kernel
theorem dX7_passMinute_199 : decode cX7_passMinute 199 = .ok (.getfield 34, 3) := by decide +kernel
theorem dX7_passMinute_202 : decode cX7_passMinute 202 = .ok (.iload_n 3, 1) := by decide +kernel
theorem dX7_passMinute_203 : decode cX7_passMinute 203 = .ok (.iconst 4, 1) := by decide +kernel
theorem dX7_passMinute_204 : decode cX7_passMinute 204 = .ok (.iastore, 1) := by decide +kernel
theorem dX7_passMinute_205 : decode cX7_passMinute 205 = .ok (.aload_n 0, 1) := by decide +kernel
theorem dX7_passMinute_206 : decode cX7_passMinute 206 = .ok (.iload_n 3, 1) := by decide +kernel
theorem dX7_passMinute_207 : decode cX7_passMinute 207 = .ok (.iload_n 2, 1) := by decide +kernel
theorem dX7_passMinute_208 : decode cX7_passMinute 208 = .ok (.if_icmp .ne 8, 3) := by decide +kernel
theorem dX7_passMinute_211 : decode cX7_passMinute 211 = .ok (.iload 4, 2) := by decide +kernel
theorem dX7_passMinute_213 : decode cX7_passMinute 213 = .ok (.goto 7, 3) := by decide +kernel
theorem dX7_passMinute_216 : decode cX7_passMinute 216 = .ok (.aload_n 0, 1) := by decide +kernel
theorem dX7_passMinute_217 : decode cX7_passMinute 217 = .ok (.getfield 231, 3) := by decide +kernel
theorem dX7_passMinute_220 : decode cX7_passMinute 220 = .ok (.putfield 231, 3) := by decide +kernel
theorem dX7_passMinute_223 : decode cX7_passMinute 223 = .ok (.iinc 3 1, 3) := by decide +kernel
theorem dX7_passMinute_226 : decode cX7_passMinute 226 = .ok (.goto (-111), 3) := by decide +kernel
theorem dX7_passMinute_229 : decode cX7_passMinute 229 = .ok (.return_, 1) := by decide +kernel
theorem dX7_boughtAt_0 : decode cX7_boughtAt 0 = .ok (.iconst 0, 1) := by decide +kernel
theorem dX7_boughtAt_1 : decode cX7_boughtAt 1 = .ok (.istore_n 3, 1) := by decide +kernel
theorem dX7_boughtAt_2 : decode cX7_boughtAt 2 = .ok (.iload_n 3, 1) := by decide +kernel
theorem dX7_boughtAt_3 : decode cX7_boughtAt 3 = .ok (.aload_n 0, 1) := by decide +kernel
theorem dX7_boughtAt_4 : decode cX7_boughtAt 4 = .ok (.getfield 154, 3) := by decide +kernel
theorem dX7_boughtAt_7 : decode cX7_boughtAt 7 = .ok (.if_icmp .ge 55, 3) := by decide +kernel
theorem dX7_boughtAt_10 : decode cX7_boughtAt 10 = .ok (.aload_n 0, 1) := by decide +kernel
theorem dX7_boughtAt_11 : decode cX7_boughtAt 11 = .ok (.getfield 40, 3) := by decide +kernel
theorem dX7_boughtAt_14 : decode cX7_boughtAt 14 = .ok (.iload_n 3, 1) := by decide +kernel
theorem dX7_boughtAt_15 : decode cX7_boughtAt 15 = .ok (.iaload, 1) := by decide +kernel
theorem dX7_boughtAt_16 : decode cX7_boughtAt 16 = .ok (.aload_n 0, 1) := by decide +kernel
theorem dX7_boughtAt_17 : decode cX7_boughtAt 17 = .ok (.getfield 31, 3) := by decide +kernel
theorem dX7_boughtAt_20 : decode cX7_boughtAt 20 = .ok (.iload_n 1, 1) := by decide +kernel
theorem dX7_boughtAt_21 : decode cX7_boughtAt 21 = .ok (.iaload, 1) := by decide +kernel
theorem dX7_boughtAt_22 : decode cX7_boughtAt 22 = .ok (.if_icmp .ne 34, 3) := by decide +kernel
theorem dX7_boughtAt_25 : decode cX7_boughtAt 25 = .ok (.aload_n 0, 1) := by decide +kernel
theorem dX7_boughtAt_26 : decode cX7_boughtAt 26 = .ok (.getfield 43, 3) := by decide +kernel
theorem dX7_boughtAt_29 : decode cX7_boughtAt 29 = .ok (.iload_n 3, 1) := by decide +kernel
theorem dX7_boughtAt_30 : decode cX7_boughtAt 30 = .ok (.iaload, 1) := by decide +kernel
theorem dX7_boughtAt_31 : decode cX7_boughtAt 31 = .ok (.aload_n 0, 1) := by decide +kernel
theorem dX7_boughtAt_32 : decode cX7_boughtAt 32 = .ok (.getfield 34, 3) := by decide +kernel
theorem dX7_boughtAt_35 : decode cX7_boughtAt 35 = .ok (.iload_n 1, 1) := by decide +kernel
theorem dX7_boughtAt_36 : decode cX7_boughtAt 36 = .ok (.iaload, 1) := by decide +kernel
theorem dX7_boughtAt_37 : decode cX7_boughtAt 37 = .ok (.if_icmp .ne 19, 3) := by decide +kernel
theorem dX7_boughtAt_40 : decode cX7_boughtAt 40 = .ok (.aload_n 0, 1) := by decide +kernel
theorem dX7_boughtAt_41 : decode cX7_boughtAt 41 = .ok (.aload_n 0, 1) := by decide +kernel
theorem dX7_boughtAt_42 : decode cX7_boughtAt 42 = .ok (.getfield 31, 3) := by decide +kernel
theorem dX7_boughtAt_45 : decode cX7_boughtAt 45 = .ok (.iload_n 1, 1) := by decide +kernel
theorem dX7_boughtAt_46 : decode cX7_boughtAt 46 = .ok (.iaload, 1) := by decide +kernel
theorem dX7_boughtAt_47 : decode cX7_boughtAt 47 = .ok (.iload_n 2, 1) := by decide +kernel
theorem dX7_boughtAt_48 : decode cX7_boughtAt 48 = .ok (.invokevirtual 234, 3) := by decide +kernel
theorem dX7_boughtAt_51 : decode cX7_boughtAt 51 = .ok (.ifCond .eq 5, 3) := by decide +kernel
theorem dX7_boughtAt_54 : decode cX7_boughtAt 54 = .ok (.iload_n 3, 1) := by decide +kernel
theorem dX7_boughtAt_55 : decode cX7_boughtAt 55 = .ok (.ireturn, 1) := by decide +kernel
theorem dX7_boughtAt_56 : decode cX7_boughtAt 56 = .ok (.iinc 3 1, 3) := by decide +kernel
theorem dX7_boughtAt_59 : decode cX7_boughtAt 59 = .ok (.goto (-57), 3) := by decide +kernel
theorem dX7_boughtAt_62 : decode cX7_boughtAt 62 = .ok (.bipush (-9), 2) := by decide +kernel
theorem dX7_boughtAt_64 : decode cX7_boughtAt 64 = .ok (.ireturn, 1) := by decide +kernel
theorem dX7_write_0 : decode cX7_write 0 = .ok (.iconst 0, 1) := by decide +kernel
theorem dX7_write_1 : decode cX7_write 1 = .ok (.istore_n 3, 1) := by decide +kernel
theorem dX7_write_2 : decode cX7_write 2 = .ok (.iload_n 3, 1) := by decide +kernel
theorem dX7_write_3 : decode cX7_write 3 = .ok (.bipush 6, 2) := by decide +kernel
theorem dX7_write_5 : decode cX7_write 5 = .ok (.if_icmp .ge 62, 3) := by decide +kernel
theorem dX7_write_8 : decode cX7_write 8 = .ok (.aload_n 1, 1) := by decide +kernel
theorem dX7_write_9 : decode cX7_write 9 = .ok (.iload_n 2, 1) := by decide +kernel
theorem dX7_write_10 : decode cX7_write 10 = .ok (.iload_n 3, 1) := by decide +kernel
theorem dX7_write_11 : decode cX7_write 11 = .ok (.iadd, 1) := by decide +kernel
theorem dX7_write_12 : decode cX7_write 12 = .ok (.aload_n 0, 1) := by decide +kernel
theorem dX7_write_13 : decode cX7_write 13 = .ok (.getfield 31, 3) := by decide +kernel
theorem dX7_write_16 : decode cX7_write 16 = .ok (.iload_n 3, 1) := by decide +kernel
theorem dX7_write_17 : decode cX7_write 17 = .ok (.iaload, 1) := by decide +kernel
theorem dX7_write_18 : decode cX7_write 18 = .ok (.iastore, 1) := by decide +kernel
theorem dX7_write_19 : decode cX7_write 19 = .ok (.aload_n 1, 1) := by decide +kernel
theorem dX7_write_20 : decode cX7_write 20 = .ok (.iload_n 2, 1) := by decide +kernel
theorem dX7_write_21 : decode cX7_write 21 = .ok (.bipush 6, 2) := by decide +kernel
theorem dX7_write_23 : decode cX7_write 23 = .ok (.iadd, 1) := by decide +kernel
theorem dX7_write_24 : decode cX7_write 24 = .ok (.iload_n 3, 1) := by decide +kernel
theorem dX7_write_25 : decode cX7_write 25 = .ok (.iadd, 1) := by decide +kernel
theorem dX7_write_26 : decode cX7_write 26 = .ok (.aload_n 0, 1) := by decide +kernel
theorem dX7_write_27 : decode cX7_write 27 = .ok (.getfield 34, 3) := by decide +kernel
theorem dX7_write_30 : decode cX7_write 30 = .ok (.iload_n 3, 1) := by decide +kernel
theorem dX7_write_31 : decode cX7_write 31 = .ok (.iaload, 1) := by decide +kernel
theorem dX7_write_32 : decode cX7_write 32 = .ok (.iastore, 1) := by decide +kernel
theorem dX7_write_33 : decode cX7_write 33 = .ok (.aload_n 1, 1) := by decide +kernel
theorem dX7_write_34 : decode cX7_write 34 = .ok (.iload_n 2, 1) := by decide +kernel
theorem dX7_write_35 : decode cX7_write 35 = .ok (.bipush 12, 2) := by decide +kernel
theorem dX7_write_37 : decode cX7_write 37 = .ok (.iadd, 1) := by decide +kernel
theorem dX7_write_38 : decode cX7_write 38 = .ok (.iload_n 3, 1) := by decide +kernel
theorem dX7_write_39 : decode cX7_write 39 = .ok (.iadd, 1) := by decide +kernel
theorem dX7_write_40 : decode cX7_write 40 = .ok (.aload_n 0, 1) := by decide +kernel
theorem dX7_write_41 : decode cX7_write 41 = .ok (.getfield 37, 3) := by decide +kernel
theorem dX7_write_44 : decode cX7_write 44 = .ok (.iload_n 3, 1) := by decide +kernel
theorem dX7_write_45 : decode cX7_write 45 = .ok (.iaload, 1) := by decide +kernel
theorem dX7_write_46 : decode cX7_write 46 = .ok (.iastore, 1) := by decide +kernel
theorem dX7_write_47 : decode cX7_write 47 = .ok (.aload_n 1, 1) := by decide +kernel
theorem dX7_write_48 : decode cX7_write 48 = .ok (.iload_n 2, 1) := by decide +kernel
theorem dX7_write_49 : decode cX7_write 49 = .ok (.bipush 18, 2) := by decide +kernel
theorem dX7_write_51 : decode cX7_write 51 = .ok (.iadd, 1) := by decide +kernel
theorem dX7_write_52 : decode cX7_write 52 = .ok (.iload_n 3, 1) := by decide +kernel
theorem dX7_write_53 : decode cX7_write 53 = .ok (.iadd, 1) := by decide +kernel
theorem dX7_write_54 : decode cX7_write 54 = .ok (.aload_n 0, 1) := by decide +kernel
theorem dX7_write_55 : decode cX7_write 55 = .ok (.getfield 49, 3) := by decide +kernel
theorem dX7_write_58 : decode cX7_write 58 = .ok (.iload_n 3, 1) := by decide +kernel
theorem dX7_write_59 : decode cX7_write 59 = .ok (.iaload, 1) := by decide +kernel
theorem dX7_write_60 : decode cX7_write 60 = .ok (.iastore, 1) := by decide +kernel
theorem dX7_write_61 : decode cX7_write 61 = .ok (.iinc 3 1, 3) := by decide +kernel
theorem dX7_write_64 : decode cX7_write 64 = .ok (.goto (-62), 3) := by decide +kernel
theorem dX7_write_67 : decode cX7_write 67 = .ok (.return_, 1) := by decide +kernel
theorem dX7_read_0 : decode cX7_read 0 = .ok (.iconst 0, 1) := by decide +kernel
theorem dX7_read_1 : decode cX7_read 1 = .ok (.istore_n 3, 1) := by decide +kernel
theorem dX7_read_2 : decode cX7_read 2 = .ok (.iload_n 3, 1) := by decide +kernel
theorem dX7_read_3 : decode cX7_read 3 = .ok (.bipush 6, 2) := by decide +kernel
theorem dX7_read_5 : decode cX7_read 5 = .ok (.if_icmp .ge 62, 3) := by decide +kernel
theorem dX7_read_8 : decode cX7_read 8 = .ok (.aload_n 0, 1) := by decide +kernel
theorem dX7_read_9 : decode cX7_read 9 = .ok (.getfield 31, 3) := by decide +kernel
theorem dX7_read_12 : decode cX7_read 12 = .ok (.iload_n 3, 1) := by decide +kernel
theorem dX7_read_13 : decode cX7_read 13 = .ok (.aload_n 1, 1) := by decide +kernel
theorem dX7_read_14 : decode cX7_read 14 = .ok (.iload_n 2, 1) := by decide +kernel
theorem dX7_read_15 : decode cX7_read 15 = .ok (.iload_n 3, 1) := by decide +kernel
theorem dX7_read_16 : decode cX7_read 16 = .ok (.iadd, 1) := by decide +kernel
theorem dX7_read_17 : decode cX7_read 17 = .ok (.iaload, 1) := by decide +kernel
theorem dX7_read_18 : decode cX7_read 18 = .ok (.iastore, 1) := by decide +kernel
theorem dX7_read_19 : decode cX7_read 19 = .ok (.aload_n 0, 1) := by decide +kernel
theorem dX7_read_20 : decode cX7_read 20 = .ok (.getfield 34, 3) := by decide +kernel
theorem dX7_read_23 : decode cX7_read 23 = .ok (.iload_n 3, 1) := by decide +kernel
theorem dX7_read_24 : decode cX7_read 24 = .ok (.aload_n 1, 1) := by decide +kernel
theorem dX7_read_25 : decode cX7_read 25 = .ok (.iload_n 2, 1) := by decide +kernel
theorem dX7_read_26 : decode cX7_read 26 = .ok (.bipush 6, 2) := by decide +kernel
theorem dX7_read_28 : decode cX7_read 28 = .ok (.iadd, 1) := by decide +kernel
theorem dX7_read_29 : decode cX7_read 29 = .ok (.iload_n 3, 1) := by decide +kernel
theorem dX7_read_30 : decode cX7_read 30 = .ok (.iadd, 1) := by decide +kernel
theorem dX7_read_31 : decode cX7_read 31 = .ok (.iaload, 1) := by decide +kernel
theorem dX7_read_32 : decode cX7_read 32 = .ok (.iastore, 1) := by decide +kernel
theorem dX7_read_33 : decode cX7_read 33 = .ok (.aload_n 0, 1) := by decide +kernel
theorem dX7_read_34 : decode cX7_read 34 = .ok (.getfield 37, 3) := by decide +kernel
theorem dX7_read_37 : decode cX7_read 37 = .ok (.iload_n 3, 1) := by decide +kernel
theorem dX7_read_38 : decode cX7_read 38 = .ok (.aload_n 1, 1) := by decide +kernel
theorem dX7_read_39 : decode cX7_read 39 = .ok (.iload_n 2, 1) := by decide +kernel
theorem dX7_read_40 : decode cX7_read 40 = .ok (.bipush 12, 2) := by decide +kernel
theorem dX7_read_42 : decode cX7_read 42 = .ok (.iadd, 1) := by decide +kernel
theorem dX7_read_43 : decode cX7_read 43 = .ok (.iload_n 3, 1) := by decide +kernel
theorem dX7_read_44 : decode cX7_read 44 = .ok (.iadd, 1) := by decide +kernel
theorem dX7_read_45 : decode cX7_read 45 = .ok (.iaload, 1) := by decide +kernel
theorem dX7_read_46 : decode cX7_read 46 = .ok (.iastore, 1) := by decide +kernel
theorem dX7_read_47 : decode cX7_read 47 = .ok (.aload_n 0, 1) := by decide +kernel
theorem dX7_read_48 : decode cX7_read 48 = .ok (.getfield 49, 3) := by decide +kernel
theorem dX7_read_51 : decode cX7_read 51 = .ok (.iload_n 3, 1) := by decide +kernel
theorem dX7_read_52 : decode cX7_read 52 = .ok (.aload_n 1, 1) := by decide +kernel
theorem dX7_read_53 : decode cX7_read 53 = .ok (.iload_n 2, 1) := by decide +kernel
theorem dX7_read_54 : decode cX7_read 54 = .ok (.bipush 18, 2) := by decide +kernel
theorem dX7_read_56 : decode cX7_read 56 = .ok (.iadd, 1) := by decide +kernel
theorem dX7_read_57 : decode cX7_read 57 = .ok (.iload_n 3, 1) := by decide +kernel
theorem dX7_read_58 : decode cX7_read 58 = .ok (.iadd, 1) := by decide +kernel
theorem dX7_read_59 : decode cX7_read 59 = .ok (.iaload, 1) := by decide +kernel
theorem dX7_read_60 : decode cX7_read 60 = .ok (.iastore, 1) := by decide +kernel
theorem dX7_read_61 : decode cX7_read 61 = .ok (.iinc 3 1, 3) := by decide +kernel
theorem dX7_read_64 : decode cX7_read 64 = .ok (.goto (-62), 3) := by decide +kernel
theorem dX7_read_67 : decode cX7_read 67 = .ok (.return_, 1) := by decide +kernel
theorem dX7_minutes_0 : decode cX7_minutes 0 = .ok (.iload_n 1, 1) := by decide +kernel
theorem dX7_minutes_1 : decode cX7_minutes 1 = .ok (.iconst 0, 1) := by decide +kernel
theorem dX7_minutes_2 : decode cX7_minutes 2 = .ok (.bipush 20, 2) := by decide +kernel
theorem dX7_minutes_4 : decode cX7_minutes 4 = .ok (.invokestatic 83, 3) := by decide +kernel
theorem dX7_minutes_7 : decode cX7_minutes 7 = .ok (.ifCond .ne 5, 3) := by decide +kernel
theorem dX7_minutes_10 : decode cX7_minutes 10 = .ok (.iconst (-1), 1) := by decide +kernel
theorem dX7_minutes_11 : decode cX7_minutes 11 = .ok (.ireturn, 1) := by decide +kernel
theorem dX7_minutes_12 : decode cX7_minutes 12 = .ok (.aload_n 0, 1) := by decide +kernel
theorem dX7_minutes_13 : decode cX7_minutes 13 = .ok (.getfield 151, 3) := by decide +kernel
theorem dX7_minutes_16 : decode cX7_minutes 16 = .ok (.ifCond .ne 6, 3) := by decide +kernel
theorem dX7_minutes_19 : decode cX7_minutes 19 = .ok (.bipush (-4), 2) := by decide +kernel
theorem dX7_minutes_21 : decode cX7_minutes 21 = .ok (.ireturn, 1) := by decide +kernel
theorem dX7_minutes_22 : decode cX7_minutes 22 = .ok (.aload_n 0, 1) := by decide +kernel
theorem dX7_minutes_23 : decode cX7_minutes 23 = .ok (.getfield 160, 3) := by decide +kernel
theorem dX7_minutes_26 : decode cX7_minutes 26 = .ok (.iload_n 1, 1) := by decide +kernel
theorem dX7_minutes_27 : decode cX7_minutes 27 = .ok (.iadd, 1) := by decide +kernel
theorem dX7_minutes_28 : decode cX7_minutes 28 = .ok (.bipush 60, 2) := by decide +kernel
theorem dX7_minutes_30 : decode cX7_minutes 30 = .ok (.if_icmp .le 6, 3) := by decide +kernel
theorem dX7_minutes_33 : decode cX7_minutes 33 = .ok (.bipush (-2), 2) := by decide +kernel
theorem dX7_minutes_35 : decode cX7_minutes 35 = .ok (.ireturn, 1) := by decide +kernel
theorem dX7_minutes_36 : decode cX7_minutes 36 = .ok (.iconst 0, 1) := by decide +kernel
theorem dX7_minutes_37 : decode cX7_minutes 37 = .ok (.istore_n 2, 1) := by decide +kernel
theorem dX7_minutes_38 : decode cX7_minutes 38 = .ok (.iconst 0, 1) := by decide +kernel
theorem dX7_minutes_39 : decode cX7_minutes 39 = .ok (.istore_n 3, 1) := by decide +kernel
theorem dX7_minutes_40 : decode cX7_minutes 40 = .ok (.iload_n 3, 1) := by decide +kernel
theorem dX7_minutes_41 : decode cX7_minutes 41 = .ok (.iload_n 1, 1) := by decide +kernel
theorem dX7_minutes_42 : decode cX7_minutes 42 = .ok (.if_icmp .ge 41, 3) := by decide +kernel
theorem dX7_minutes_45 : decode cX7_minutes 45 = .ok (.aload_n 0, 1) := by decide +kernel
theorem dX7_minutes_46 : decode cX7_minutes 46 = .ok (.aload_n 0, 1) := by decide +kernel
theorem dX7_minutes_47 : decode cX7_minutes 47 = .ok (.getfield 52, 3) := by decide +kernel
theorem dX7_minutes_50 : decode cX7_minutes 50 = .ok (.bipush 24, 2) := by decide +kernel
theorem dX7_minutes_52 : decode cX7_minutes 52 = .ok (.aload_n 0, 1) := by decide +kernel
theorem dX7_minutes_53 : decode cX7_minutes 53 = .ok (.getfield 160, 3) := by decide +kernel
theorem dX7_minutes_56 : decode cX7_minutes 56 = .ok (.imul, 1) := by decide +kernel
theorem dX7_minutes_57 : decode cX7_minutes 57 = .ok (.invokevirtual 237, 3) := by decide +kernel
theorem dX7_minutes_60 : decode cX7_minutes 60 = .ok (.aload_n 0, 1) := by decide +kernel
theorem dX7_minutes_61 : decode cX7_minutes 61 = .ok (.iconst 0, 1) := by decide +kernel
theorem dX7_minutes_62 : decode cX7_minutes 62 = .ok (.bipush (-9), 2) := by decide +kernel
theorem dX7_minutes_64 : decode cX7_minutes 64 = .ok (.invokevirtual 241, 3) := by decide +kernel
theorem dX7_minutes_67 : decode cX7_minutes 67 = .ok (.iload_n 2, 1) := by decide +kernel
theorem dX7_minutes_68 : decode cX7_minutes 68 = .ok (.aload_n 0, 1) := by decide +kernel
theorem dX7_minutes_69 : decode cX7_minutes 69 = .ok (.getfield 218, 3) := by decide +kernel
theorem dX7_minutes_72 : decode cX7_minutes 72 = .ok (.invokestatic 192, 3) := by decide +kernel
theorem dX7_minutes_75 : decode cX7_minutes 75 = .ok (.iadd, 1) := by decide +kernel
theorem dX7_minutes_76 : decode cX7_minutes 76 = .ok (.istore_n 2, 1) := by decide +kernel
theorem dX7_minutes_77 : decode cX7_minutes 77 = .ok (.iinc 3 1, 3) := by decide +kernel
theorem dX7_minutes_80 : decode cX7_minutes 80 = .ok (.goto (-40), 3) := by decide +kernel
theorem dX7_minutes_83 : decode cX7_minutes 83 = .ok (.iload_n 2, 1) := by decide +kernel
theorem dX7_minutes_84 : decode cX7_minutes 84 = .ok (.ireturn, 1) := by decide +kernel
theorem dX7_undo_0 : decode cX7_undo 0 = .ok (.iload_n 1, 1) := by decide +kernel
theorem dX7_undo_1 : decode cX7_undo 1 = .ok (.aload_n 0, 1) := by decide +kernel
theorem dX7_undo_2 : decode cX7_undo 2 = .ok (.getfield 163, 3) := by decide +kernel
theorem dX7_undo_5 : decode cX7_undo 5 = .ok (.aload_n 0, 1) := by decide +kernel
theorem dX7_undo_6 : decode cX7_undo 6 = .ok (.getfield 160, 3) := by decide +kernel
theorem dX7_undo_9 : decode cX7_undo 9 = .ok (.invokestatic 83, 3) := by decide +kernel
theorem dX7_undo_12 : decode cX7_undo 12 = .ok (.ifCond .ne 5, 3) := by decide +kernel
theorem dX7_undo_15 : decode cX7_undo 15 = .ok (.iconst (-1), 1) := by decide +kernel
theorem dX7_undo_16 : decode cX7_undo 16 = .ok (.ireturn, 1) := by decide +kernel
theorem dX7_undo_17 : decode cX7_undo 17 = .ok (.aload_n 0, 1) := by decide +kernel
theorem dX7_undo_18 : decode cX7_undo 18 = .ok (.getfield 160, 3) := by decide +kernel
theorem dX7_undo_21 : decode cX7_undo 21 = .ok (.iload_n 1, 1) := by decide +kernel
theorem dX7_undo_22 : decode cX7_undo 22 = .ok (.isub, 1) := by decide +kernel
theorem dX7_undo_23 : decode cX7_undo 23 = .ok (.istore_n 2, 1) := by decide +kernel
theorem dX7_undo_24 : decode cX7_undo 24 = .ok (.iload_n 2, 1) := by decide +kernel
theorem dX7_undo_25 : decode cX7_undo 25 = .ok (.ifCond .le 20, 3) := by decide +kernel
theorem dX7_undo_28 : decode cX7_undo 28 = .ok (.aload_n 0, 1) := by decide +kernel
theorem dX7_undo_29 : decode cX7_undo 29 = .ok (.aload_n 0, 1) := by decide +kernel
theorem dX7_undo_30 : decode cX7_undo 30 = .ok (.getfield 52, 3) := by decide +kernel
theorem dX7_undo_33 : decode cX7_undo 33 = .ok (.bipush 24, 2) := by decide +kernel
theorem dX7_undo_35 : decode cX7_undo 35 = .ok (.iload_n 1, 1) := by decide +kernel
theorem dX7_undo_36 : decode cX7_undo 36 = .ok (.imul, 1) := by decide +kernel
theorem dX7_undo_37 : decode cX7_undo 37 = .ok (.invokevirtual 244, 3) := by decide +kernel
theorem dX7_undo_40 : decode cX7_undo 40 = .ok (.aload_n 0, 1) := by decide +kernel
theorem dX7_undo_41 : decode cX7_undo 41 = .ok (.iload_n 1, 1) := by decide +kernel
theorem dX7_undo_42 : decode cX7_undo 42 = .ok (.putfield 160, 3) := by decide +kernel
theorem dX7_undo_45 : decode cX7_undo 45 = .ok (.iload_n 2, 1) := by decide +kernel
theorem dX7_undo_46 : decode cX7_undo 46 = .ok (.ireturn, 1) := by decide +kernel
theorem dX7_turn_0 : decode cX7_turn 0 = .ok (.iload_n 1, 1) := by decide +kernel
theorem dX7_turn_1 : decode cX7_turn 1 = .ok (.iconst 0, 1) := by decide +kernel
theorem dX7_turn_2 : decode cX7_turn 2 = .ok (.iconst 1, 1) := by decide +kernel
theorem dX7_turn_3 : decode cX7_turn 3 = .ok (.invokestatic 83, 3) := by decide +kernel
theorem dX7_turn_6 : decode cX7_turn 6 = .ok (.ifCond .ne 5, 3) := by decide +kernel
theorem dX7_turn_9 : decode cX7_turn 9 = .ok (.iconst (-1), 1) := by decide +kernel
theorem dX7_turn_10 : decode cX7_turn 10 = .ok (.ireturn, 1) := by decide +kernel
theorem dX7_turn_11 : decode cX7_turn 11 = .ok (.aload_n 0, 1) := by decide +kernel
theorem dX7_turn_12 : decode cX7_turn 12 = .ok (.getfield 151, 3) := by decide +kernel
theorem dX7_turn_15 : decode cX7_turn 15 = .ok (.ifCond .ne 6, 3) := by decide +kernel
theorem dX7_turn_18 : decode cX7_turn 18 = .ok (.bipush (-4), 2) := by decide +kernel
theorem dX7_turn_20 : decode cX7_turn 20 = .ok (.ireturn, 1) := by decide +kernel
theorem dX7_turn_21 : decode cX7_turn 21 = .ok (.iload_n 1, 1) := by decide +kernel
theorem dX7_turn_22 : decode cX7_turn 22 = .ok (.ifCond .ne 7, 3) := by decide +kernel
theorem dX7_turn_25 : decode cX7_turn 25 = .ok (.iconst (-1), 1) := by decide +kernel
theorem dX7_turn_26 : decode cX7_turn 26 = .ok (.goto 4, 3) := by decide +kernel
theorem dX7_turn_29 : decode cX7_turn 29 = .ok (.iconst 1, 1) := by decide +kernel
theorem dX7_turn_30 : decode cX7_turn 30 = .ok (.istore_n 2, 1) := by decide +kernel
theorem dX7_turn_31 : decode cX7_turn 31 = .ok (.aload_n 0, 1) := by decide +kernel
theorem dX7_turn_32 : decode cX7_turn 32 = .ok (.getfield 31, 3) := by decide +kernel
theorem dX7_turn_35 : decode cX7_turn 35 = .ok (.iconst 0, 1) := by decide +kernel
theorem dX7_turn_36 : decode cX7_turn 36 = .ok (.iaload, 1) := by decide +kernel
theorem dX7_turn_37 : decode cX7_turn 37 = .ok (.iload_n 2, 1) := by decide +kernel
theorem dX7_turn_38 : decode cX7_turn 38 = .ok (.iadd, 1) := by decide +kernel
theorem dX7_turn_39 : decode cX7_turn 39 = .ok (.invokestatic 204, 3) := by decide +kernel
theorem dX7_turn_42 : decode cX7_turn 42 = .ok (.ifCond .eq 22, 3) := by decide +kernel
theorem dX7_turn_45 : decode cX7_turn 45 = .ok (.aload_n 0, 1) := by decide +kernel
theorem dX7_turn_46 : decode cX7_turn 46 = .ok (.getfield 31, 3) := by decide +kernel
theorem dX7_turn_49 : decode cX7_turn 49 = .ok (.aload_n 0, 1) := by decide +kernel
theorem dX7_turn_50 : decode cX7_turn 50 = .ok (.getfield 151, 3) := by decide +kernel
theorem dX7_turn_53 : decode cX7_turn 53 = .ok (.iconst 1, 1) := by decide +kernel
theorem dX7_turn_54 : decode cX7_turn 54 = .ok (.isub, 1) := by decide +kernel
theorem dX7_turn_55 : decode cX7_turn 55 = .ok (.iaload, 1) := by decide +kernel
theorem dX7_turn_56 : decode cX7_turn 56 = .ok (.iload_n 2, 1) := by decide +kernel
theorem dX7_turn_57 : decode cX7_turn 57 = .ok (.iadd, 1) := by decide +kernel
theorem dX7_turn_58 : decode cX7_turn 58 = .ok (.invokestatic 204, 3) := by decide +kernel
theorem dX7_turn_61 : decode cX7_turn 61 = .ok (.ifCond .ne 5, 3) := by decide +kernel
theorem dX7_turn_64 : decode cX7_turn 64 = .ok (.iconst 0, 1) := by decide +kernel
theorem dX7_turn_65 : decode cX7_turn 65 = .ok (.ireturn, 1) := by decide +kernel
theorem dX7_turn_66 : decode cX7_turn 66 = .ok (.iconst 0, 1) := by decide +kernel
theorem dX7_turn_67 : decode cX7_turn 67 = .ok (.istore_n 3, 1) := by decide +kernel
theorem dX7_turn_68 : decode cX7_turn 68 = .ok (.iload_n 3, 1) := by decide +kernel
theorem dX7_turn_69 : decode cX7_turn 69 = .ok (.aload_n 0, 1) := by decide +kernel
theorem dX7_turn_70 : decode cX7_turn 70 = .ok (.getfield 151, 3) := by decide +kernel
theorem dX7_turn_73 : decode cX7_turn 73 = .ok (.if_icmp .ge 19, 3) := by decide +kernel
theorem dX7_turn_76 : decode cX7_turn 76 = .ok (.aload_n 0, 1) := by decide +kernel
theorem dX7_turn_77 : decode cX7_turn 77 = .ok (.getfield 31, 3) := by decide +kernel
theorem dX7_turn_80 : decode cX7_turn 80 = .ok (.iload_n 3, 1) := by decide +kernel
theorem dX7_turn_81 : decode cX7_turn 81 = .ok (.dup2, 1) := by decide +kernel
theorem dX7_turn_82 : decode cX7_turn 82 = .ok (.iaload, 1) := by decide +kernel
theorem dX7_turn_83 : decode cX7_turn 83 = .ok (.iload_n 2, 1) := by decide +kernel
theorem dX7_turn_84 : decode cX7_turn 84 = .ok (.iadd, 1) := by decide +kernel
theorem dX7_turn_85 : decode cX7_turn 85 = .ok (.iastore, 1) := by decide +kernel
theorem dX7_turn_86 : decode cX7_turn 86 = .ok (.iinc 3 1, 3) := by decide +kernel
theorem dX7_turn_89 : decode cX7_turn 89 = .ok (.goto (-21), 3) := by decide +kernel
theorem dX7_turn_92 : decode cX7_turn 92 = .ok (.iconst 1, 1) := by decide +kernel
theorem dX7_turn_93 : decode cX7_turn 93 = .ok (.ireturn, 1) := by decide +kernel
theorem dX7_shade_0 : decode cX7_shade 0 = .ok (.aload_n 0, 1) := by decide +kernel
theorem dX7_shade_1 : decode cX7_shade 1 = .ok (.getfield 151, 3) := by decide +kernel
theorem dX7_shade_4 : decode cX7_shade 4 = .ok (.ifCond .ne 8, 3) := by decide +kernel
theorem dX7_shade_7 : decode cX7_shade 7 = .ok (.bipush (-4), 2) := by decide +kernel
theorem dX7_shade_9 : decode cX7_shade 9 = .ok (.goto 38, 3) := by decide +kernel
theorem dX7_shade_12 : decode cX7_shade 12 = .ok (.aload_n 0, 1) := by decide +kernel
theorem dX7_shade_13 : decode cX7_shade 13 = .ok (.aload_n 0, 1) := by decide +kernel
theorem dX7_shade_14 : decode cX7_shade 14 = .ok (.getfield 31, 3) := by decide +kernel
theorem dX7_shade_17 : decode cX7_shade 17 = .ok (.iconst 0, 1) := by decide +kernel
theorem dX7_shade_18 : decode cX7_shade 18 = .ok (.iaload, 1) := by decide +kernel
theorem dX7_shade_19 : decode cX7_shade 19 = .ok (.aload_n 0, 1) := by decide +kernel
theorem dX7_shade_20 : decode cX7_shade 20 = .ok (.invokevirtual 224, 3) := by decide +kernel
theorem dX7_shade_23 : decode cX7_shade 23 = .ok (.iadd, 1) := by decide +kernel
theorem dX7_shade_24 : decode cX7_shade 24 = .ok (.aload_n 0, 1) := by decide +kernel
theorem dX7_shade_25 : decode cX7_shade 25 = .ok (.getfield 31, 3) := by decide +kernel
theorem dX7_shade_28 : decode cX7_shade 28 = .ok (.aload_n 0, 1) := by decide +kernel
theorem dX7_shade_29 : decode cX7_shade 29 = .ok (.getfield 151, 3) := by decide +kernel
theorem dX7_shade_32 : decode cX7_shade 32 = .ok (.iconst 1, 1) := by decide +kernel
theorem dX7_shade_33 : decode cX7_shade 33 = .ok (.isub, 1) := by decide +kernel
theorem dX7_shade_34 : decode cX7_shade 34 = .ok (.iaload, 1) := by decide +kernel
theorem dX7_shade_35 : decode cX7_shade 35 = .ok (.aload_n 0, 1) := by decide +kernel
theorem dX7_shade_36 : decode cX7_shade 36 = .ok (.getfield 31, 3) := by decide +kernel
theorem dX7_shade_39 : decode cX7_shade 39 = .ok (.iconst 0, 1) := by decide +kernel
theorem dX7_shade_40 : decode cX7_shade 40 = .ok (.iaload, 1) := by decide +kernel
theorem dX7_shade_41 : decode cX7_shade 41 = .ok (.isub, 1) := by decide +kernel
theorem dX7_shade_42 : decode cX7_shade 42 = .ok (.iconst 1, 1) := by decide +kernel
theorem dX7_shade_43 : decode cX7_shade 43 = .ok (.iadd, 1) := by decide +kernel
theorem dX7_shade_44 : decode cX7_shade 44 = .ok (.invokevirtual 109, 3) := by decide +kernel
theorem dX7_shade_47 : decode cX7_shade 47 = .ok (.ireturn, 1) := by decide +kernel
theorem dX7_shadedBy_0 : decode cX7_shadedBy 0 = .ok (.iconst 0, 1) := by decide +kernel
theorem dX7_shadedBy_1 : decode cX7_shadedBy 1 = .ok (.istore_n 2, 1) := by decide +kernel
theorem dX7_shadedBy_2 : decode cX7_shadedBy 2 = .ok (.iconst 0, 1) := by decide +kernel
theorem dX7_shadedBy_3 : decode cX7_shadedBy 3 = .ok (.istore_n 3, 1) := by decide +kernel
theorem dX7_shadedBy_4 : decode cX7_shadedBy 4 = .ok (.iload_n 3, 1) := by decide +kernel
theorem dX7_shadedBy_5 : decode cX7_shadedBy 5 = .ok (.aload_n 0, 1) := by decide +kernel
theorem dX7_shadedBy_6 : decode cX7_shadedBy 6 = .ok (.getfield 154, 3) := by decide +kernel
theorem dX7_shadedBy_9 : decode cX7_shadedBy 9 = .ok (.if_icmp .ge 33, 3) := by decide +kernel
theorem dX7_shadedBy_12 : decode cX7_shadedBy 12 = .ok (.iload_n 2, 1) := by decide +kernel
theorem dX7_shadedBy_13 : decode cX7_shadedBy 13 = .ok (.aload_n 0, 1) := by decide +kernel
theorem dX7_shadedBy_14 : decode cX7_shadedBy 14 = .ok (.aload_n 0, 1) := by decide +kernel
theorem dX7_shadedBy_15 : decode cX7_shadedBy 15 = .ok (.getfield 40, 3) := by decide +kernel
theorem dX7_shadedBy_18 : decode cX7_shadedBy 18 = .ok (.iload_n 3, 1) := by decide +kernel
theorem dX7_shadedBy_19 : decode cX7_shadedBy 19 = .ok (.iaload, 1) := by decide +kernel
theorem dX7_shadedBy_20 : decode cX7_shadedBy 20 = .ok (.iload_n 1, 1) := by decide +kernel
theorem dX7_shadedBy_21 : decode cX7_shadedBy 21 = .ok (.invokevirtual 234, 3) := by decide +kernel
theorem dX7_shadedBy_24 : decode cX7_shadedBy 24 = .ok (.ifCond .eq 9, 3) := by decide +kernel
theorem dX7_shadedBy_27 : decode cX7_shadedBy 27 = .ok (.iconst 1, 1) := by decide +kernel
theorem dX7_shadedBy_28 : decode cX7_shadedBy 28 = .ok (.iload_n 3, 1) := by decide +kernel
theorem dX7_shadedBy_29 : decode cX7_shadedBy 29 = .ok (.ishl, 1) := by decide +kernel
theorem dX7_shadedBy_30 : decode cX7_shadedBy 30 = .ok (.goto 4, 3) := by decide +kernel
theorem dX7_shadedBy_33 : decode cX7_shadedBy 33 = .ok (.iconst 0, 1) := by decide +kernel
theorem dX7_shadedBy_34 : decode cX7_shadedBy 34 = .ok (.ior, 1) := by decide +kernel
theorem dX7_shadedBy_35 : decode cX7_shadedBy 35 = .ok (.istore_n 2, 1) := by decide +kernel
theorem dX7_shadedBy_36 : decode cX7_shadedBy 36 = .ok (.iinc 3 1, 3) := by decide +kernel
theorem dX7_shadedBy_39 : decode cX7_shadedBy 39 = .ok (.goto (-35), 3) := by decide +kernel
theorem dX7_shadedBy_42 : decode cX7_shadedBy 42 = .ok (.iload_n 2, 1) := by decide +kernel
theorem dX7_shadedBy_43 : decode cX7_shadedBy 43 = .ok (.ireturn, 1) := by decide +kernel
theorem dX7_shaded_0 : decode cX7_shaded 0 = .ok (.aload_n 0, 1) := by decide +kernel
theorem dX7_shaded_1 : decode cX7_shaded 1 = .ok (.aload_n 0, 1) := by decide +kernel
theorem dX7_shaded_2 : decode cX7_shaded 2 = .ok (.invokevirtual 224, 3) := by decide +kernel
theorem dX7_shaded_5 : decode cX7_shaded 5 = .ok (.invokevirtual 247, 3) := by decide +kernel
theorem dX7_shaded_8 : decode cX7_shaded 8 = .ok (.ireturn, 1) := by decide +kernel
theorem dX7_keep_0 : decode cX7_keep 0 = .ok (.iload_n 1, 1) := by decide +kernel
theorem dX7_keep_1 : decode cX7_keep 1 = .ok (.iconst 0, 1) := by decide +kernel
theorem dX7_keep_2 : decode cX7_keep 2 = .ok (.iconst 2, 1) := by decide +kernel
theorem dX7_keep_3 : decode cX7_keep 3 = .ok (.invokestatic 83, 3) := by decide +kernel
theorem dX7_keep_6 : decode cX7_keep 6 = .ok (.ifCond .ne 5, 3) := by decide +kernel
theorem dX7_keep_9 : decode cX7_keep 9 = .ok (.iconst (-1), 1) := by decide +kernel
theorem dX7_keep_10 : decode cX7_keep 10 = .ok (.ireturn, 1) := by decide +kernel
theorem dX7_keep_11 : decode cX7_keep 11 = .ok (.aload_n 0, 1) := by decide +kernel
theorem dX7_keep_12 : decode cX7_keep 12 = .ok (.getfield 151, 3) := by decide +kernel
theorem dX7_keep_15 : decode cX7_keep 15 = .ok (.ifCond .ne 6, 3) := by decide +kernel
theorem dX7_keep_18 : decode cX7_keep 18 = .ok (.bipush (-4), 2) := by decide +kernel
theorem dX7_keep_20 : decode cX7_keep 20 = .ok (.ireturn, 1) := by decide +kernel
theorem dX7_keep_21 : decode cX7_keep 21 = .ok (.bipush 32, 2) := by decide +kernel
theorem dX7_keep_23 : decode cX7_keep 23 = .ok (.iload_n 1, 1) := by decide +kernel
theorem dX7_keep_24 : decode cX7_keep 24 = .ok (.imul, 1) := by decide +kernel
theorem dX7_keep_25 : decode cX7_keep 25 = .ok (.istore_n 2, 1) := by decide +kernel
theorem dX7_keep_26 : decode cX7_keep 26 = .ok (.aload_n 0, 1) := by decide +kernel
theorem dX7_keep_27 : decode cX7_keep 27 = .ok (.getfield 55, 3) := by decide +kernel
theorem dX7_keep_30 : decode cX7_keep 30 = .ok (.iload_n 2, 1) := by decide +kernel
theorem dX7_keep_31 : decode cX7_keep 31 = .ok (.aload_n 0, 1) := by decide +kernel
theorem dX7_keep_32 : decode cX7_keep 32 = .ok (.getfield 160, 3) := by decide +kernel
theorem dX7_keep_35 : decode cX7_keep 35 = .ok (.iastore, 1) := by decide +kernel
theorem dX7_keep_36 : decode cX7_keep 36 = .ok (.aload_n 0, 1) := by decide +kernel
theorem dX7_keep_37 : decode cX7_keep 37 = .ok (.aload_n 0, 1) := by decide +kernel
theorem dX7_keep_38 : decode cX7_keep 38 = .ok (.getfield 55, 3) := by decide +kernel
theorem dX7_keep_41 : decode cX7_keep 41 = .ok (.iload_n 2, 1) := by decide +kernel
theorem dX7_keep_42 : decode cX7_keep 42 = .ok (.iconst 1, 1) := by decide +kernel
theorem dX7_keep_43 : decode cX7_keep 43 = .ok (.iadd, 1) := by decide +kernel
theorem dX7_keep_44 : decode cX7_keep 44 = .ok (.invokevirtual 237, 3) := by decide +kernel
theorem dX7_keep_47 : decode cX7_keep 47 = .ok (.iconst 0, 1) := by decide +kernel
theorem dX7_keep_48 : decode cX7_keep 48 = .ok (.istore_n 3, 1) := by decide +kernel
theorem dX7_keep_49 : decode cX7_keep 49 = .ok (.iload_n 3, 1) := by decide +kernel
theorem dX7_keep_50 : decode cX7_keep 50 = .ok (.bipush 6, 2) := by decide +kernel
theorem dX7_keep_52 : decode cX7_keep 52 = .ok (.if_icmp .ge 26, 3) := by decide +kernel
theorem dX7_keep_55 : decode cX7_keep 55 = .ok (.aload_n 0, 1) := by decide +kernel
theorem dX7_keep_56 : decode cX7_keep 56 = .ok (.getfield 55, 3) := by decide +kernel
theorem dX7_keep_59 : decode cX7_keep 59 = .ok (.iload_n 2, 1) := by decide +kernel
theorem dX7_keep_60 : decode cX7_keep 60 = .ok (.bipush 25, 2) := by decide +kernel
theorem dX7_keep_62 : decode cX7_keep 62 = .ok (.iadd, 1) := by decide +kernel
theorem dX7_keep_63 : decode cX7_keep 63 = .ok (.iload_n 3, 1) := by decide +kernel
theorem dX7_keep_64 : decode cX7_keep 64 = .ok (.iadd, 1) := by decide +kernel
theorem dX7_keep_65 : decode cX7_keep 65 = .ok (.aload_n 0, 1) := by decide +kernel
theorem dX7_keep_66 : decode cX7_keep 66 = .ok (.getfield 46, 3) := by decide +kernel
theorem dX7_keep_69 : decode cX7_keep 69 = .ok (.iload_n 3, 1) := by decide +kernel
theorem dX7_keep_70 : decode cX7_keep 70 = .ok (.iaload, 1) := by decide +kernel
theorem dX7_keep_71 : decode cX7_keep 71 = .ok (.iastore, 1) := by decide +kernel
theorem dX7_keep_72 : decode cX7_keep 72 = .ok (.iinc 3 1, 3) := by decide +kernel
theorem dX7_keep_75 : decode cX7_keep 75 = .ok (.goto (-26), 3) := by decide +kernel
theorem dX7_keep_78 : decode cX7_keep 78 = .ok (.aload_n 0, 1) := by decide +kernel
theorem dX7_keep_79 : decode cX7_keep 79 = .ok (.getfield 160, 3) := by decide +kernel
theorem dX7_keep_82 : decode cX7_keep 82 = .ok (.ireturn, 1) := by decide +kernel
theorem dX7_on_0 : decode cX7_on 0 = .ok (.iload_n 1, 1) := by decide +kernel
theorem dX7_on_1 : decode cX7_on 1 = .ok (.iconst 0, 1) := by decide +kernel
theorem dX7_on_2 : decode cX7_on 2 = .ok (.iconst 2, 1) := by decide +kernel
theorem dX7_on_3 : decode cX7_on 3 = .ok (.invokestatic 83, 3) := by decide +kernel
theorem dX7_on_6 : decode cX7_on 6 = .ok (.ifCond .ne 5, 3) := by decide +kernel
theorem dX7_on_9 : decode cX7_on 9 = .ok (.iconst (-1), 1) := by decide +kernel
theorem dX7_on_10 : decode cX7_on 10 = .ok (.ireturn, 1) := by decide +kernel
theorem dX7_on_11 : decode cX7_on 11 = .ok (.bipush 32, 2) := by decide +kernel
theorem dX7_on_13 : decode cX7_on 13 = .ok (.iload_n 1, 1) := by decide +kernel
theorem dX7_on_14 : decode cX7_on 14 = .ok (.imul, 1) := by decide +kernel
theorem dX7_on_15 : decode cX7_on 15 = .ok (.istore_n 2, 1) := by decide +kernel
theorem dX7_on_16 : decode cX7_on 16 = .ok (.aload_n 0, 1) := by decide +kernel
theorem dX7_on_17 : decode cX7_on 17 = .ok (.getfield 55, 3) := by decide +kernel
theorem dX7_on_20 : decode cX7_on 20 = .ok (.iload_n 2, 1) := by decide +kernel
theorem dX7_on_21 : decode cX7_on 21 = .ok (.iaload, 1) := by decide +kernel
theorem dX7_on_22 : decode cX7_on 22 = .ok (.bipush (-9), 2) := by decide +kernel
theorem dX7_on_24 : decode cX7_on 24 = .ok (.if_icmp .ne 9, 3) := by decide +kernel
theorem dX7_on_27 : decode cX7_on 27 = .ok (.aload_n 0, 1) := by decide +kernel
theorem dX7_on_28 : decode cX7_on 28 = .ok (.iconst 1, 1) := by decide +kernel
theorem dX7_on_29 : decode cX7_on 29 = .ok (.invokevirtual 91, 3) := by decide +kernel
theorem dX7_on_32 : decode cX7_on 32 = .ok (.ireturn, 1) := by decide +kernel
theorem dX7_on_33 : decode cX7_on 33 = .ok (.aload_n 0, 1) := by decide +kernel
theorem dX7_on_34 : decode cX7_on 34 = .ok (.aload_n 0, 1) := by decide +kernel
theorem dX7_on_35 : decode cX7_on 35 = .ok (.getfield 55, 3) := by decide +kernel
theorem dX7_on_38 : decode cX7_on 38 = .ok (.iload_n 2, 1) := by decide +kernel
theorem dX7_on_39 : decode cX7_on 39 = .ok (.iaload, 1) := by decide +kernel
theorem dX7_on_40 : decode cX7_on 40 = .ok (.putfield 160, 3) := by decide +kernel
theorem dX7_on_43 : decode cX7_on 43 = .ok (.aload_n 0, 1) := by decide +kernel
theorem dX7_on_44 : decode cX7_on 44 = .ok (.aload_n 0, 1) := by decide +kernel
theorem dX7_on_45 : decode cX7_on 45 = .ok (.getfield 160, 3) := by decide +kernel
theorem dX7_on_48 : decode cX7_on 48 = .ok (.putfield 163, 3) := by decide +kernel
theorem dX7_on_51 : decode cX7_on 51 = .ok (.aload_n 0, 1) := by decide +kernel
theorem dX7_on_52 : decode cX7_on 52 = .ok (.aload_n 0, 1) := by decide +kernel
theorem dX7_on_53 : decode cX7_on 53 = .ok (.getfield 55, 3) := by decide +kernel
theorem dX7_on_56 : decode cX7_on 56 = .ok (.iload_n 2, 1) := by decide +kernel
theorem dX7_on_57 : decode cX7_on 57 = .ok (.iconst 1, 1) := by decide +kernel
theorem dX7_on_58 : decode cX7_on 58 = .ok (.iadd, 1) := by decide +kernel
theorem dX7_on_59 : decode cX7_on 59 = .ok (.invokevirtual 244, 3) := by decide +kernel
theorem dX7_on_62 : decode cX7_on 62 = .ok (.iconst 0, 1) := by decide +kernel
theorem dX7_on_63 : decode cX7_on 63 = .ok (.istore_n 3, 1) := by decide +kernel
theorem dX7_on_64 : decode cX7_on 64 = .ok (.iload_n 3, 1) := by decide +kernel
theorem dX7_on_65 : decode cX7_on 65 = .ok (.bipush 6, 2) := by decide +kernel
theorem dX7_on_67 : decode cX7_on 67 = .ok (.if_icmp .ge 26, 3) := by decide +kernel
theorem dX7_on_70 : decode cX7_on 70 = .ok (.aload_n 0, 1) := by decide +kernel
theorem dX7_on_71 : decode cX7_on 71 = .ok (.getfield 46, 3) := by decide +kernel
theorem dX7_on_74 : decode cX7_on 74 = .ok (.iload_n 3, 1) := by decide +kernel
theorem dX7_on_75 : decode cX7_on 75 = .ok (.aload_n 0, 1) := by decide +kernel
theorem dX7_on_76 : decode cX7_on 76 = .ok (.getfield 55, 3) := by decide +kernel
theorem dX7_on_79 : decode cX7_on 79 = .ok (.iload_n 2, 1) := by decide +kernel
theorem dX7_on_80 : decode cX7_on 80 = .ok (.bipush 25, 2) := by decide +kernel
theorem dX7_on_82 : decode cX7_on 82 = .ok (.iadd, 1) := by decide +kernel
theorem dX7_on_83 : decode cX7_on 83 = .ok (.iload_n 3, 1) := by decide +kernel
theorem dX7_on_84 : decode cX7_on 84 = .ok (.iadd, 1) := by decide +kernel
theorem dX7_on_85 : decode cX7_on 85 = .ok (.iaload, 1) := by decide +kernel
theorem dX7_on_86 : decode cX7_on 86 = .ok (.iastore, 1) := by decide +kernel
theorem dX7_on_87 : decode cX7_on 87 = .ok (.iinc 3 1, 3) := by decide +kernel
theorem dX7_on_90 : decode cX7_on 90 = .ok (.goto (-26), 3) := by decide +kernel
theorem dX7_on_93 : decode cX7_on 93 = .ok (.aload_n 0, 1) := by decide +kernel
theorem dX7_on_94 : decode cX7_on 94 = .ok (.getfield 160, 3) := by decide +kernel
theorem dX7_on_97 : decode cX7_on 97 = .ok (.ireturn, 1) := by decide +kernel
theorem dX7_putAside_0 : decode cX7_putAside 0 = .ok (.aload_n 0, 1) := by decide +kernel
theorem dX7_putAside_1 : decode cX7_putAside 1 = .ok (.aload_n 0, 1) := by decide +kernel
theorem dX7_putAside_2 : decode cX7_putAside 2 = .ok (.getfield 58, 3) := by decide +kernel
theorem dX7_putAside_5 : decode cX7_putAside 5 = .ok (.iconst 0, 1) := by decide +kernel
theorem dX7_putAside_6 : decode cX7_putAside 6 = .ok (.invokevirtual 237, 3) := by decide +kernel
theorem dX7_putAside_9 : decode cX7_putAside 9 = .ok (.aload_n 0, 1) := by decide +kernel
theorem dX7_putAside_10 : decode cX7_putAside 10 = .ok (.aload_n 0, 1) := by decide +kernel
theorem dX7_putAside_11 : decode cX7_putAside 11 = .ok (.getfield 160, 3) := by decide +kernel
theorem dX7_putAside_14 : decode cX7_putAside 14 = .ok (.putfield 250, 3) := by decide +kernel
theorem dX7_putAside_17 : decode cX7_putAside 17 = .ok (.return_, 1) := by decide +kernel
theorem dX7_comeBack_0 : decode cX7_comeBack 0 = .ok (.aload_n 0, 1) := by decide +kernel
theorem dX7_comeBack_1 : decode cX7_comeBack 1 = .ok (.aload_n 0, 1) := by decide +kernel
theorem dX7_comeBack_2 : decode cX7_comeBack 2 = .ok (.getfield 58, 3) := by decide +kernel
theorem dX7_comeBack_5 : decode cX7_comeBack 5 = .ok (.iconst 0, 1) := by decide +kernel
theorem dX7_comeBack_6 : decode cX7_comeBack 6 = .ok (.invokevirtual 244, 3) := by decide +kernel
theorem dX7_comeBack_9 : decode cX7_comeBack 9 = .ok (.aload_n 0, 1) := by decide +kernel
theorem dX7_comeBack_10 : decode cX7_comeBack 10 = .ok (.aload_n 0, 1) := by decide +kernel
theorem dX7_comeBack_11 : decode cX7_comeBack 11 = .ok (.getfield 250, 3) := by decide +kernel
theorem dX7_comeBack_14 : decode cX7_comeBack 14 = .ok (.putfield 160, 3) := by decide +kernel
theorem dX7_comeBack_17 : decode cX7_comeBack 17 = .ok (.return_, 1) := by decide +kernel
theorem dX7_when_0 : decode cX7_when 0 = .ok (.aload_n 0, 1) := by decide +kernel
theorem dX7_when_1 : decode cX7_when 1 = .ok (.iload_n 1, 1) := by decide +kernel
theorem dX7_when_2 : decode cX7_when 2 = .ok (.invokevirtual 166, 3) := by decide +kernel
theorem dX7_when_5 : decode cX7_when 5 = .ok (.ifCond .ne 5, 3) := by decide +kernel
theorem dX7_when_8 : decode cX7_when 8 = .ok (.iconst (-1), 1) := by decide +kernel
theorem dX7_when_9 : decode cX7_when 9 = .ok (.ireturn, 1) := by decide +kernel
theorem dX7_when_10 : decode cX7_when 10 = .ok (.aload_n 0, 1) := by decide +kernel
theorem dX7_when_11 : decode cX7_when 11 = .ok (.invokevirtual 253, 3) := by decide +kernel
theorem dX7_when_14 : decode cX7_when 14 = .ok (.iconst 0, 1) := by decide +kernel
theorem dX7_when_15 : decode cX7_when 15 = .ok (.istore_n 2, 1) := by decide +kernel
theorem dX7_when_16 : decode cX7_when 16 = .ok (.iconst 0, 1) := by decide +kernel
theorem dX7_when_17 : decode cX7_when 17 = .ok (.istore_n 3, 1) := by decide +kernel
theorem dX7_when_18 : decode cX7_when 18 = .ok (.iload_n 2, 1) := by decide +kernel
theorem dX7_when_19 : decode cX7_when 19 = .ok (.bipush 60, 2) := by decide +kernel
theorem dX7_when_21 : decode cX7_when 21 = .ok (.if_icmp .ge 28, 3) := by decide +kernel
theorem dX7_when_24 : decode cX7_when 24 = .ok (.iload_n 3, 1) := by decide +kernel
theorem dX7_when_25 : decode cX7_when 25 = .ok (.ifCond .ne 24, 3) := by decide +kernel
theorem dX7_when_28 : decode cX7_when 28 = .ok (.aload_n 0, 1) := by decide +kernel
theorem dX7_when_29 : decode cX7_when 29 = .ok (.iconst 0, 1) := by decide +kernel
theorem dX7_when_30 : decode cX7_when 30 = .ok (.iload_n 1, 1) := by decide +kernel
theorem dX7_when_31 : decode cX7_when 31 = .ok (.invokevirtual 241, 3) := by decide +kernel
theorem dX7_when_34 : decode cX7_when 34 = .ok (.aload_n 0, 1) := by decide +kernel
theorem dX7_when_35 : decode cX7_when 35 = .ok (.getfield 218, 3) := by decide +kernel
theorem dX7_when_38 : decode cX7_when 38 = .ok (.iload_n 1, 1) := by decide +kernel
theorem dX7_when_39 : decode cX7_when 39 = .ok (.invokestatic 207, 3) := by decide +kernel
theorem dX7_when_42 : decode cX7_when 42 = .ok (.istore_n 3, 1) := by decide +kernel
theorem dX7_when_43 : decode cX7_when 43 = .ok (.iinc 2 1, 3) := by decide +kernel
theorem dX7_when_46 : decode cX7_when 46 = .ok (.goto (-28), 3) := by decide +kernel
theorem dX7_when_49 : decode cX7_when 49 = .ok (.aload_n 0, 1) := by decide +kernel
theorem dX7_when_50 : decode cX7_when 50 = .ok (.invokevirtual 256, 3) := by decide +kernel
theorem dX7_when_53 : decode cX7_when 53 = .ok (.iload_n 3, 1) := by decide +kernel
theorem dX7_when_54 : decode cX7_when 54 = .ok (.ifCond .eq 15, 3) := by decide +kernel
theorem dX7_when_57 : decode cX7_when 57 = .ok (.aload_n 0, 1) := by decide +kernel
theorem dX7_when_58 : decode cX7_when 58 = .ok (.aload_n 0, 1) := by decide +kernel
theorem dX7_when_59 : decode cX7_when 59 = .ok (.getfield 231, 3) := by decide +kernel
theorem dX7_when_62 : decode cX7_when 62 = .ok (.iload_n 2, 1) := by decide +kernel
theorem dX7_when_63 : decode cX7_when 63 = .ok (.invokevirtual 109, 3) := by decide +kernel
theorem dX7_when_66 : decode cX7_when 66 = .ok (.goto 5, 3) := by decide +kernel
theorem dX7_when_69 : decode cX7_when 69 = .ok (.bipush (-9), 2) := by decide +kernel
theorem dX7_when_71 : decode cX7_when 71 = .ok (.ireturn, 1) := by decide +kernel
theorem dX7_lookAhead_0 : decode cX7_lookAhead 0 = .ok (.aload_n 0, 1) := by decide +kernel
theorem dX7_lookAhead_1 : decode cX7_lookAhead 1 = .ok (.invokevirtual 253, 3) := by decide +kernel
theorem dX7_lookAhead_4 : decode cX7_lookAhead 4 = .ok (.aload_n 0, 1) := by decide +kernel
theorem dX7_lookAhead_5 : decode cX7_lookAhead 5 = .ok (.iconst 0, 1) := by decide +kernel
theorem dX7_lookAhead_6 : decode cX7_lookAhead 6 = .ok (.putfield 259, 3) := by decide +kernel
theorem dX7_lookAhead_9 : decode cX7_lookAhead 9 = .ok (.aload_n 0, 1) := by decide +kernel
theorem dX7_lookAhead_10 : decode cX7_lookAhead 10 = .ok (.iconst 0, 1) := by decide +kernel
theorem dX7_lookAhead_11 : decode cX7_lookAhead 11 = .ok (.putfield 262, 3) := by decide +kernel
theorem dX7_lookAhead_14 : decode cX7_lookAhead 14 = .ok (.iconst 0, 1) := by decide +kernel
theorem dX7_lookAhead_15 : decode cX7_lookAhead 15 = .ok (.istore_n 2, 1) := by decide +kernel
theorem dX7_lookAhead_16 : decode cX7_lookAhead 16 = .ok (.iload_n 2, 1) := by decide +kernel
theorem dX7_lookAhead_17 : decode cX7_lookAhead 17 = .ok (.iload_n 1, 1) := by decide +kernel
theorem dX7_lookAhead_18 : decode cX7_lookAhead 18 = .ok (.if_icmp .ge 42, 3) := by decide +kernel
theorem dX7_lookAhead_21 : decode cX7_lookAhead 21 = .ok (.aload_n 0, 1) := by decide +kernel
theorem dX7_lookAhead_22 : decode cX7_lookAhead 22 = .ok (.iconst 0, 1) := by decide +kernel
theorem dX7_lookAhead_23 : decode cX7_lookAhead 23 = .ok (.bipush (-9), 2) := by decide +kernel
theorem dX7_lookAhead_25 : decode cX7_lookAhead 25 = .ok (.invokevirtual 241, 3) := by decide +kernel
theorem dX7_lookAhead_28 : decode cX7_lookAhead 28 = .ok (.aload_n 0, 1) := by decide +kernel
theorem dX7_lookAhead_29 : decode cX7_lookAhead 29 = .ok (.dup, 1) := by decide +kernel
theorem dX7_lookAhead_30 : decode cX7_lookAhead 30 = .ok (.getfield 259, 3) := by decide +kernel
theorem dX7_lookAhead_33 : decode cX7_lookAhead 33 = .ok (.aload_n 0, 1) := by decide +kernel
theorem dX7_lookAhead_34 : decode cX7_lookAhead 34 = .ok (.getfield 218, 3) := by decide +kernel
theorem dX7_lookAhead_37 : decode cX7_lookAhead 37 = .ok (.ior, 1) := by decide +kernel
theorem dX7_lookAhead_38 : decode cX7_lookAhead 38 = .ok (.putfield 259, 3) := by decide +kernel
theorem dX7_lookAhead_41 : decode cX7_lookAhead 41 = .ok (.aload_n 0, 1) := by decide +kernel
theorem dX7_lookAhead_42 : decode cX7_lookAhead 42 = .ok (.dup, 1) := by decide +kernel
theorem dX7_lookAhead_43 : decode cX7_lookAhead 43 = .ok (.getfield 262, 3) := by decide +kernel
theorem dX7_lookAhead_46 : decode cX7_lookAhead 46 = .ok (.aload_n 0, 1) := by decide +kernel
theorem dX7_lookAhead_47 : decode cX7_lookAhead 47 = .ok (.getfield 221, 3) := by decide +kernel
theorem dX7_lookAhead_50 : decode cX7_lookAhead 50 = .ok (.iadd, 1) := by decide +kernel
theorem dX7_lookAhead_51 : decode cX7_lookAhead 51 = .ok (.putfield 262, 3) := by decide +kernel
theorem dX7_lookAhead_54 : decode cX7_lookAhead 54 = .ok (.iinc 2 1, 3) := by decide +kernel
theorem dX7_lookAhead_57 : decode cX7_lookAhead 57 = .ok (.goto (-41), 3) := by decide +kernel
theorem dX7_lookAhead_60 : decode cX7_lookAhead 60 = .ok (.aload_n 0, 1) := by decide +kernel
theorem dX7_lookAhead_61 : decode cX7_lookAhead 61 = .ok (.invokevirtual 256, 3) := by decide +kernel
theorem dX7_lookAhead_64 : decode cX7_lookAhead 64 = .ok (.return_, 1) := by decide +kernel
theorem dX7_bought_0 : decode cX7_bought 0 = .ok (.iload_n 1, 1) := by decide +kernel
theorem dX7_bought_1 : decode cX7_bought 1 = .ok (.iconst 0, 1) := by decide +kernel
theorem dX7_bought_2 : decode cX7_bought 2 = .ok (.bipush 60, 2) := by decide +kernel
theorem dX7_bought_4 : decode cX7_bought 4 = .ok (.invokestatic 83, 3) := by decide +kernel
theorem dX7_bought_7 : decode cX7_bought 7 = .ok (.ifCond .ne 5, 3) := by decide +kernel
theorem dX7_bought_10 : decode cX7_bought 10 = .ok (.iconst (-1), 1) := by decide +kernel
theorem dX7_bought_11 : decode cX7_bought 11 = .ok (.ireturn, 1) := by decide +kernel
theorem dX7_bought_12 : decode cX7_bought 12 = .ok (.aload_n 0, 1) := by decide +kernel
theorem dX7_bought_13 : decode cX7_bought 13 = .ok (.iload_n 1, 1) := by decide +kernel
theorem dX7_bought_14 : decode cX7_bought 14 = .ok (.invokevirtual 265, 3) := by decide +kernel
theorem dX7_bought_17 : decode cX7_bought 17 = .ok (.aload_n 0, 1) := by decide +kernel
theorem dX7_bought_18 : decode cX7_bought 18 = .ok (.aload_n 0, 1) := by decide +kernel
theorem dX7_bought_19 : decode cX7_bought 19 = .ok (.getfield 262, 3) := by decide +kernel
theorem dX7_bought_22 : decode cX7_bought 22 = .ok (.aload_n 0, 1) := by decide +kernel
theorem dX7_bought_23 : decode cX7_bought 23 = .ok (.getfield 259, 3) := by decide +kernel
theorem dX7_bought_26 : decode cX7_bought 26 = .ok (.invokestatic 192, 3) := by decide +kernel
theorem dX7_bought_29 : decode cX7_bought 29 = .ok (.invokevirtual 109, 3) := by decide +kernel
theorem dX7_bought_32 : decode cX7_bought 32 = .ok (.ireturn, 1) := by decide +kernel
theorem dX7_isPast_0 : decode cX7_isPast 0 = .ok (.iconst 1, 1) := by decide +kernel
theorem dX7_isPast_1 : decode cX7_isPast 1 = .ok (.istore_n 2, 1) := by decide +kernel
theorem dX7_isPast_2 : decode cX7_isPast 2 = .ok (.iconst 0, 1) := by decide +kernel
theorem dX7_isPast_3 : decode cX7_isPast 3 = .ok (.istore_n 3, 1) := by decide +kernel
theorem dX7_isPast_4 : decode cX7_isPast 4 = .ok (.iload_n 3, 1) := by decide +kernel
theorem dX7_isPast_5 : decode cX7_isPast 5 = .ok (.aload_n 0, 1) := by decide +kernel
theorem dX7_isPast_6 : decode cX7_isPast 6 = .ok (.getfield 151, 3) := by decide +kernel
theorem dX7_isPast_9 : decode cX7_isPast 9 = .ok (.if_icmp .ge 56, 3) := by decide +kernel
theorem dX7_isPast_12 : decode cX7_isPast 12 = .ok (.iload_n 2, 1) := by decide +kernel
theorem dX7_isPast_13 : decode cX7_isPast 13 = .ok (.ifCond .eq 44, 3) := by decide +kernel
theorem dX7_isPast_16 : decode cX7_isPast 16 = .ok (.aload_n 0, 1) := by decide +kernel
theorem dX7_isPast_17 : decode cX7_isPast 17 = .ok (.getfield 61, 3) := by decide +kernel
theorem dX7_isPast_20 : decode cX7_isPast 20 = .ok (.iload_n 1, 1) := by decide +kernel
theorem dX7_isPast_21 : decode cX7_isPast 21 = .ok (.iload_n 3, 1) := by decide +kernel
theorem dX7_isPast_22 : decode cX7_isPast 22 = .ok (.iadd, 1) := by decide +kernel
theorem dX7_isPast_23 : decode cX7_isPast 23 = .ok (.iaload, 1) := by decide +kernel
theorem dX7_isPast_24 : decode cX7_isPast 24 = .ok (.aload_n 0, 1) := by decide +kernel
theorem dX7_isPast_25 : decode cX7_isPast 25 = .ok (.getfield 31, 3) := by decide +kernel
theorem dX7_isPast_28 : decode cX7_isPast 28 = .ok (.iload_n 3, 1) := by decide +kernel
theorem dX7_isPast_29 : decode cX7_isPast 29 = .ok (.iaload, 1) := by decide +kernel
theorem dX7_isPast_30 : decode cX7_isPast 30 = .ok (.if_icmp .ne 27, 3) := by decide +kernel
theorem dX7_isPast_33 : decode cX7_isPast 33 = .ok (.aload_n 0, 1) := by decide +kernel
theorem dX7_isPast_34 : decode cX7_isPast 34 = .ok (.getfield 61, 3) := by decide +kernel
theorem dX7_isPast_37 : decode cX7_isPast 37 = .ok (.iload_n 1, 1) := by decide +kernel
theorem dX7_isPast_38 : decode cX7_isPast 38 = .ok (.bipush 6, 2) := by decide +kernel
theorem dX7_isPast_40 : decode cX7_isPast 40 = .ok (.iadd, 1) := by decide +kernel
theorem dX7_isPast_41 : decode cX7_isPast 41 = .ok (.iload_n 3, 1) := by decide +kernel
theorem dX7_isPast_42 : decode cX7_isPast 42 = .ok (.iadd, 1) := by decide +kernel
theorem dX7_isPast_43 : decode cX7_isPast 43 = .ok (.iaload, 1) := by decide +kernel
theorem dX7_isPast_44 : decode cX7_isPast 44 = .ok (.aload_n 0, 1) := by decide +kernel
theorem dX7_isPast_45 : decode cX7_isPast 45 = .ok (.getfield 34, 3) := by decide +kernel
theorem dX7_isPast_48 : decode cX7_isPast 48 = .ok (.iload_n 3, 1) := by decide +kernel
theorem dX7_isPast_49 : decode cX7_isPast 49 = .ok (.iaload, 1) := by decide +kernel
theorem dX7_isPast_50 : decode cX7_isPast 50 = .ok (.if_icmp .ne 7, 3) := by decide +kernel
theorem dX7_isPast_53 : decode cX7_isPast 53 = .ok (.iconst 1, 1) := by decide +kernel
theorem dX7_isPast_54 : decode cX7_isPast 54 = .ok (.goto 4, 3) := by decide +kernel
theorem dX7_isPast_57 : decode cX7_isPast 57 = .ok (.iconst 0, 1) := by decide +kernel
theorem dX7_isPast_58 : decode cX7_isPast 58 = .ok (.istore_n 2, 1) := by decide +kernel
theorem dX7_isPast_59 : decode cX7_isPast 59 = .ok (.iinc 3 1, 3) := by decide +kernel
theorem dX7_isPast_62 : decode cX7_isPast 62 = .ok (.goto (-58), 3) := by decide +kernel
theorem dX7_isPast_65 : decode cX7_isPast 65 = .ok (.iload_n 2, 1) := by decide +kernel
theorem dX7_isPast_66 : decode cX7_isPast 66 = .ok (.ireturn, 1) := by decide +kernel
theorem dX7_setPast_0 : decode cX7_setPast 0 = .ok (.iconst 0, 1) := by decide +kernel
theorem dX7_setPast_1 : decode cX7_setPast 1 = .ok (.istore_n 2, 1) := by decide +kernel
theorem dX7_setPast_2 : decode cX7_setPast 2 = .ok (.iload_n 2, 1) := by decide +kernel
theorem dX7_setPast_3 : decode cX7_setPast 3 = .ok (.aload_n 0, 1) := by decide +kernel
theorem dX7_setPast_4 : decode cX7_setPast 4 = .ok (.getfield 151, 3) := by decide +kernel
theorem dX7_setPast_7 : decode cX7_setPast 7 = .ok (.if_icmp .ge 40, 3) := by decide +kernel
theorem dX7_setPast_10 : decode cX7_setPast 10 = .ok (.aload_n 0, 1) := by decide +kernel
theorem dX7_setPast_11 : decode cX7_setPast 11 = .ok (.getfield 61, 3) := by decide +kernel
theorem dX7_setPast_14 : decode cX7_setPast 14 = .ok (.iload_n 1, 1) := by decide +kernel
theorem dX7_setPast_15 : decode cX7_setPast 15 = .ok (.iload_n 2, 1) := by decide +kernel
theorem dX7_setPast_16 : decode cX7_setPast 16 = .ok (.iadd, 1) := by decide +kernel
theorem dX7_setPast_17 : decode cX7_setPast 17 = .ok (.aload_n 0, 1) := by decide +kernel
theorem dX7_setPast_18 : decode cX7_setPast 18 = .ok (.getfield 31, 3) := by decide +kernel
theorem dX7_setPast_21 : decode cX7_setPast 21 = .ok (.iload_n 2, 1) := by decide +kernel
theorem dX7_setPast_22 : decode cX7_setPast 22 = .ok (.iaload, 1) := by decide +kernel
theorem dX7_setPast_23 : decode cX7_setPast 23 = .ok (.iastore, 1) := by decide +kernel
theorem dX7_setPast_24 : decode cX7_setPast 24 = .ok (.aload_n 0, 1) := by decide +kernel
theorem dX7_setPast_25 : decode cX7_setPast 25 = .ok (.getfield 61, 3) := by decide +kernel
theorem dX7_setPast_28 : decode cX7_setPast 28 = .ok (.iload_n 1, 1) := by decide +kernel
theorem dX7_setPast_29 : decode cX7_setPast 29 = .ok (.bipush 6, 2) := by decide +kernel
theorem dX7_setPast_31 : decode cX7_setPast 31 = .ok (.iadd, 1) := by decide +kernel
theorem dX7_setPast_32 : decode cX7_setPast 32 = .ok (.iload_n 2, 1) := by decide +kernel
theorem dX7_setPast_33 : decode cX7_setPast 33 = .ok (.iadd, 1) := by decide +kernel
theorem dX7_setPast_34 : decode cX7_setPast 34 = .ok (.aload_n 0, 1) := by decide +kernel
theorem dX7_setPast_35 : decode cX7_setPast 35 = .ok (.getfield 34, 3) := by decide +kernel
theorem dX7_setPast_38 : decode cX7_setPast 38 = .ok (.iload_n 2, 1) := by decide +kernel
theorem dX7_setPast_39 : decode cX7_setPast 39 = .ok (.iaload, 1) := by decide +kernel
theorem dX7_setPast_40 : decode cX7_setPast 40 = .ok (.iastore, 1) := by decide +kernel
theorem dX7_setPast_41 : decode cX7_setPast 41 = .ok (.iinc 2 1, 3) := by decide +kernel
theorem dX7_setPast_44 : decode cX7_setPast 44 = .ok (.goto (-42), 3) := by decide +kernel
theorem dX7_setPast_47 : decode cX7_setPast 47 = .ok (.return_, 1) := by decide +kernel
theorem dX7_wanting_0 : decode cX7_wanting 0 = .ok (.iconst 0, 1) := by decide +kernel
theorem dX7_wanting_1 : decode cX7_wanting 1 = .ok (.istore_n 1, 1) := by decide +kernel
theorem dX7_wanting_2 : decode cX7_wanting 2 = .ok (.iconst 0, 1) := by decide +kernel
theorem dX7_wanting_3 : decode cX7_wanting 3 = .ok (.istore_n 2, 1) := by decide +kernel
theorem dX7_wanting_4 : decode cX7_wanting 4 = .ok (.iload_n 2, 1) := by decide +kernel
theorem dX7_wanting_5 : decode cX7_wanting 5 = .ok (.aload_n 0, 1) := by decide +kernel
theorem dX7_wanting_6 : decode cX7_wanting 6 = .ok (.getfield 151, 3) := by decide +kernel
theorem dX7_wanting_9 : decode cX7_wanting 9 = .ok (.if_icmp .ge 27, 3) := by decide +kernel
theorem dX7_wanting_12 : decode cX7_wanting 12 = .ok (.iload_n 1, 1) := by decide +kernel
theorem dX7_wanting_13 : decode cX7_wanting 13 = .ok (.aload_n 0, 1) := by decide +kernel
theorem dX7_wanting_14 : decode cX7_wanting 14 = .ok (.getfield 34, 3) := by decide +kernel
theorem dX7_wanting_17 : decode cX7_wanting 17 = .ok (.iload_n 2, 1) := by decide +kernel
theorem dX7_wanting_18 : decode cX7_wanting 18 = .ok (.iaload, 1) := by decide +kernel
theorem dX7_wanting_19 : decode cX7_wanting 19 = .ok (.iconst 4, 1) := by decide +kernel
theorem dX7_wanting_20 : decode cX7_wanting 20 = .ok (.if_icmp .ne 7, 3) := by decide +kernel
theorem dX7_wanting_23 : decode cX7_wanting 23 = .ok (.iconst 0, 1) := by decide +kernel
theorem dX7_wanting_24 : decode cX7_wanting 24 = .ok (.goto 4, 3) := by decide +kernel
theorem dX7_wanting_27 : decode cX7_wanting 27 = .ok (.iconst 1, 1) := by decide +kernel
theorem dX7_wanting_28 : decode cX7_wanting 28 = .ok (.iadd, 1) := by decide +kernel
theorem dX7_wanting_29 : decode cX7_wanting 29 = .ok (.istore_n 1, 1) := by decide +kernel
theorem dX7_wanting_30 : decode cX7_wanting 30 = .ok (.iinc 2 1, 3) := by decide +kernel
theorem dX7_wanting_33 : decode cX7_wanting 33 = .ok (.goto (-29), 3) := by decide +kernel
theorem dX7_wanting_36 : decode cX7_wanting 36 = .ok (.iload_n 1, 1) := by decide +kernel
theorem dX7_wanting_37 : decode cX7_wanting 37 = .ok (.ireturn, 1) := by decide +kernel
theorem dX7_rest_0 : decode cX7_rest 0 = .ok (.aload_n 0, 1) := by decide +kernel
theorem dX7_rest_1 : decode cX7_rest 1 = .ok (.getfield 151, 3) := by decide +kernel
theorem dX7_rest_4 : decode cX7_rest 4 = .ok (.ifCond .ne 6, 3) := by decide +kernel
theorem dX7_rest_7 : decode cX7_rest 7 = .ok (.bipush (-4), 2) := by decide +kernel
theorem dX7_rest_9 : decode cX7_rest 9 = .ok (.ireturn, 1) := by decide +kernel
theorem dX7_rest_10 : decode cX7_rest 10 = .ok (.aload_n 0, 1) := by decide +kernel
theorem dX7_rest_11 : decode cX7_rest 11 = .ok (.invokevirtual 253, 3) := by decide +kernel
theorem dX7_rest_14 : decode cX7_rest 14 = .ok (.aload_n 0, 1) := by decide +kernel
theorem dX7_rest_15 : decode cX7_rest 15 = .ok (.iconst 0, 1) := by decide +kernel
theorem dX7_rest_16 : decode cX7_rest 16 = .ok (.invokevirtual 268, 3) := by decide +kernel
theorem dX7_rest_19 : decode cX7_rest 19 = .ok (.iconst 0, 1) := by decide +kernel
theorem dX7_rest_20 : decode cX7_rest 20 = .ok (.istore_n 1, 1) := by decide +kernel
theorem dX7_rest_21 : decode cX7_rest 21 = .ok (.iconst 0, 1) := by decide +kernel
theorem dX7_rest_22 : decode cX7_rest 22 = .ok (.istore_n 2, 1) := by decide +kernel
theorem dX7_rest_23 : decode cX7_rest 23 = .ok (.iconst 0, 1) := by decide +kernel
theorem dX7_rest_24 : decode cX7_rest 24 = .ok (.istore_n 3, 1) := by decide +kernel
theorem dX7_rest_25 : decode cX7_rest 25 = .ok (.iload_n 1, 1) := by decide +kernel
theorem dX7_rest_26 : decode cX7_rest 26 = .ok (.sipush 200, 3) := by decide +kernel
theorem dX7_rest_29 : decode cX7_rest 29 = .ok (.if_icmp .ge 62, 3) := by decide +kernel
theorem dX7_rest_32 : decode cX7_rest 32 = .ok (.iload_n 3, 1) := by decide +kernel
theorem dX7_rest_33 : decode cX7_rest 33 = .ok (.ifCond .ne 58, 3) := by decide +kernel
theorem dX7_rest_36 : decode cX7_rest 36 = .ok (.aload_n 0, 1) := by decide +kernel
theorem dX7_rest_37 : decode cX7_rest 37 = .ok (.iconst 0, 1) := by decide +kernel
theorem dX7_rest_38 : decode cX7_rest 38 = .ok (.bipush (-9), 2) := by decide +kernel
theorem dX7_rest_40 : decode cX7_rest 40 = .ok (.invokevirtual 241, 3) := by decide +kernel
theorem dX7_rest_43 : decode cX7_rest 43 = .ok (.iinc 1 1, 3) := by decide +kernel
theorem dX7_rest_46 : decode cX7_rest 46 = .ok (.iload_n 1, 1) := by decide +kernel
theorem dX7_rest_47 : decode cX7_rest 47 = .ok (.bipush 7, 2) := by decide +kernel
theorem dX7_rest_49 : decode cX7_rest 49 = .ok (.if_icmp .lt 21, 3) := by decide +kernel
theorem dX7_rest_52 : decode cX7_rest 52 = .ok (.aload_n 0, 1) := by decide +kernel
theorem dX7_rest_53 : decode cX7_rest 53 = .ok (.bipush 12, 2) := by decide +kernel
theorem dX7_rest_55 : decode cX7_rest 55 = .ok (.iload_n 1, 1) := by decide +kernel
theorem dX7_rest_56 : decode cX7_rest 56 = .ok (.bipush 7, 2) := by decide +kernel
theorem dX7_rest_58 : decode cX7_rest 58 = .ok (.irem, 1) := by decide +kernel
theorem dX7_rest_59 : decode cX7_rest 59 = .ok (.imul, 1) := by decide +kernel
theorem dX7_rest_60 : decode cX7_rest 60 = .ok (.invokevirtual 271, 3) := by decide +kernel
theorem dX7_rest_63 : decode cX7_rest 63 = .ok (.ifCond .eq 7, 3) := by decide +kernel
theorem dX7_rest_66 : decode cX7_rest 66 = .ok (.iconst 1, 1) := by decide +kernel
theorem dX7_rest_67 : decode cX7_rest 67 = .ok (.goto 4, 3) := by decide +kernel
theorem dX7_rest_70 : decode cX7_rest 70 = .ok (.iconst 0, 1) := by decide +kernel
theorem dX7_rest_71 : decode cX7_rest 71 = .ok (.istore_n 3, 1) := by decide +kernel
theorem dX7_rest_72 : decode cX7_rest 72 = .ok (.aload_n 0, 1) := by decide +kernel
theorem dX7_rest_73 : decode cX7_rest 73 = .ok (.invokevirtual 274, 3) := by decide +kernel
theorem dX7_rest_76 : decode cX7_rest 76 = .ok (.istore_n 2, 1) := by decide +kernel
theorem dX7_rest_77 : decode cX7_rest 77 = .ok (.aload_n 0, 1) := by decide +kernel
theorem dX7_rest_78 : decode cX7_rest 78 = .ok (.bipush 12, 2) := by decide +kernel
theorem dX7_rest_80 : decode cX7_rest 80 = .ok (.iload_n 1, 1) := by decide +kernel
theorem dX7_rest_81 : decode cX7_rest 81 = .ok (.bipush 7, 2) := by decide +kernel
theorem dX7_rest_83 : decode cX7_rest 83 = .ok (.irem, 1) := by decide +kernel
theorem dX7_rest_84 : decode cX7_rest 84 = .ok (.imul, 1) := by decide +kernel
theorem dX7_rest_85 : decode cX7_rest 85 = .ok (.invokevirtual 268, 3) := by decide +kernel
theorem dX7_rest_88 : decode cX7_rest 88 = .ok (.goto (-63), 3) := by decide +kernel
theorem dX7_rest_91 : decode cX7_rest 91 = .ok (.aload_n 0, 1) := by decide +kernel
theorem dX7_rest_92 : decode cX7_rest 92 = .ok (.invokevirtual 256, 3) := by decide +kernel
theorem dX7_rest_95 : decode cX7_rest 95 = .ok (.iload_n 3, 1) := by decide +kernel
theorem dX7_rest_96 : decode cX7_rest 96 = .ok (.ifCond .eq 12, 3) := by decide +kernel
theorem dX7_rest_99 : decode cX7_rest 99 = .ok (.aload_n 0, 1) := by decide +kernel
theorem dX7_rest_100 : decode cX7_rest 100 = .ok (.iload_n 2, 1) := by decide +kernel
theorem dX7_rest_101 : decode cX7_rest 101 = .ok (.iload_n 1, 1) := by decide +kernel
theorem dX7_rest_102 : decode cX7_rest 102 = .ok (.invokevirtual 109, 3) := by decide +kernel
theorem dX7_rest_105 : decode cX7_rest 105 = .ok (.goto 5, 3) := by decide +kernel
theorem dX7_rest_108 : decode cX7_rest 108 = .ok (.bipush (-9), 2) := by decide +kernel
theorem dX7_rest_110 : decode cX7_rest 110 = .ok (.ireturn, 1) := by decide +kernel
theorem dX7_track_0 : decode cX7_track 0 = .ok (.iload_n 1, 1) := by decide +kernel
theorem dX7_track_1 : decode cX7_track 1 = .ok (.iconst 0, 1) := by decide +kernel
theorem dX7_track_2 : decode cX7_track 2 = .ok (.bipush 60, 2) := by decide +kernel
theorem dX7_track_4 : decode cX7_track 4 = .ok (.invokestatic 83, 3) := by decide +kernel
theorem dX7_track_7 : decode cX7_track 7 = .ok (.ifCond .eq 10, 3) := by decide +kernel
theorem dX7_track_10 : decode cX7_track 10 = .ok (.iload_n 2, 1) := by decide +kernel
theorem dX7_track_11 : decode cX7_track 11 = .ok (.invokestatic 87, 3) := by decide +kernel
theorem dX7_track_14 : decode cX7_track 14 = .ok (.ifCond .ne 5, 3) := by decide +kernel
theorem dX7_track_17 : decode cX7_track 17 = .ok (.iconst (-1), 1) := by decide +kernel
theorem dX7_track_18 : decode cX7_track 18 = .ok (.ireturn, 1) := by decide +kernel
theorem dX7_track_19 : decode cX7_track 19 = .ok (.aload_n 0, 1) := by decide +kernel
theorem dX7_track_20 : decode cX7_track 20 = .ok (.invokevirtual 253, 3) := by decide +kernel
theorem dX7_track_23 : decode cX7_track 23 = .ok (.iconst 0, 1) := by decide +kernel
theorem dX7_track_24 : decode cX7_track 24 = .ok (.istore_n 3, 1) := by decide +kernel
theorem dX7_track_25 : decode cX7_track 25 = .ok (.iload_n 3, 1) := by decide +kernel
theorem dX7_track_26 : decode cX7_track 26 = .ok (.iload_n 1, 1) := by decide +kernel
theorem dX7_track_27 : decode cX7_track 27 = .ok (.if_icmp .ge 16, 3) := by decide +kernel
theorem dX7_track_30 : decode cX7_track 30 = .ok (.aload_n 0, 1) := by decide +kernel
theorem dX7_track_31 : decode cX7_track 31 = .ok (.iconst 0, 1) := by decide +kernel
theorem dX7_track_32 : decode cX7_track 32 = .ok (.bipush (-9), 2) := by decide +kernel
theorem dX7_track_34 : decode cX7_track 34 = .ok (.invokevirtual 241, 3) := by decide +kernel
theorem dX7_track_37 : decode cX7_track 37 = .ok (.iinc 3 1, 3) := by decide +kernel
theorem dX7_track_40 : decode cX7_track 40 = .ok (.goto (-15), 3) := by decide +kernel
theorem dX7_track_43 : decode cX7_track 43 = .ok (.aload_n 0, 1) := by decide +kernel
theorem dX7_track_44 : decode cX7_track 44 = .ok (.iload_n 2, 1) := by decide +kernel
theorem dX7_track_45 : decode cX7_track 45 = .ok (.aload_n 0, 1) := by decide +kernel
theorem dX7_track_46 : decode cX7_track 46 = .ok (.getfield 151, 3) := by decide +kernel
theorem dX7_track_49 : decode cX7_track 49 = .ok (.invokevirtual 277, 3) := by decide +kernel
theorem dX7_track_52 : decode cX7_track 52 = .ok (.pop, 1) := by decide +kernel
theorem dX7_track_53 : decode cX7_track 53 = .ok (.iconst 0, 1) := by decide +kernel
theorem dX7_track_54 : decode cX7_track 54 = .ok (.istore_n 3, 1) := by decide +kernel
theorem dX7_track_55 : decode cX7_track 55 = .ok (.iload_n 3, 1) := by decide +kernel
theorem dX7_track_56 : decode cX7_track 56 = .ok (.aload_n 0, 1) := by decide +kernel
theorem dX7_track_57 : decode cX7_track 57 = .ok (.getfield 151, 3) := by decide +kernel
theorem dX7_track_60 : decode cX7_track 60 = .ok (.if_icmp .ge 21, 3) := by decide +kernel
theorem dX7_track_63 : decode cX7_track 63 = .ok (.aload_n 0, 1) := by decide +kernel
theorem dX7_track_64 : decode cX7_track 64 = .ok (.iload_n 2, 1) := by decide +kernel
theorem dX7_track_65 : decode cX7_track 65 = .ok (.iload_n 3, 1) := by decide +kernel
theorem dX7_track_66 : decode cX7_track 66 = .ok (.aload_n 0, 1) := by decide +kernel
theorem dX7_track_67 : decode cX7_track 67 = .ok (.getfield 31, 3) := by decide +kernel
theorem dX7_track_70 : decode cX7_track 70 = .ok (.iload_n 3, 1) := by decide +kernel
theorem dX7_track_71 : decode cX7_track 71 = .ok (.iaload, 1) := by decide +kernel
theorem dX7_track_72 : decode cX7_track 72 = .ok (.invokevirtual 98, 3) := by decide +kernel
theorem dX7_track_75 : decode cX7_track 75 = .ok (.iinc 3 1, 3) := by decide +kernel
theorem dX7_track_78 : decode cX7_track 78 = .ok (.goto (-23), 3) := by decide +kernel
theorem dX7_track_81 : decode cX7_track 81 = .ok (.aload_n 0, 1) := by decide +kernel
theorem dX7_track_82 : decode cX7_track 82 = .ok (.invokevirtual 224, 3) := by decide +kernel
theorem dX7_track_85 : decode cX7_track 85 = .ok (.istore_n 3, 1) := by decide +kernel
theorem dX7_track_86 : decode cX7_track 86 = .ok (.aload_n 0, 1) := by decide +kernel
theorem dX7_track_87 : decode cX7_track 87 = .ok (.invokevirtual 256, 3) := by decide +kernel
theorem dX7_track_90 : decode cX7_track 90 = .ok (.aload_n 0, 1) := by decide +kernel
theorem dX7_track_91 : decode cX7_track 91 = .ok (.iload_n 3, 1) := by decide +kernel
theorem dX7_track_92 : decode cX7_track 92 = .ok (.iconst 1, 1) := by decide +kernel
theorem dX7_track_93 : decode cX7_track 93 = .ok (.invokevirtual 109, 3) := by decide +kernel
theorem dX7_track_96 : decode cX7_track 96 = .ok (.ireturn, 1) := by decide +kernel
theorem dX7_isSpan_0 : decode cX7_isSpan 0 = .ok (.iload_n 0, 1) := by decide +kernel
theorem dX7_isSpan_1 : decode cX7_isSpan 1 = .ok (.iconst 0, 1) := by decide +kernel
theorem dX7_isSpan_2 : decode cX7_isSpan 2 = .ok (.bipush 20, 2) := by decide +kernel
theorem dX7_isSpan_4 : decode cX7_isSpan 4 = .ok (.invokestatic 83, 3) := by decide +kernel
theorem dX7_isSpan_7 : decode cX7_isSpan 7 = .ok (.ireturn, 1) := by decide +kernel
theorem dX7_orderOn_0 : decode cX7_orderOn 0 = .ok (.iload_n 1, 1) := by decide +kernel
theorem dX7_orderOn_1 : decode cX7_orderOn 1 = .ok (.aload_n 0, 1) := by decide +kernel
theorem dX7_orderOn_2 : decode cX7_orderOn 2 = .ok (.getfield 151, 3) := by decide +kernel
theorem dX7_orderOn_5 : decode cX7_orderOn 5 = .ok (.if_icmp .ne 98, 3) := by decide +kernel
theorem dX7_orderOn_8 : decode cX7_orderOn 8 = .ok (.iconst 0, 1) := by decide +kernel
theorem dX7_orderOn_9 : decode cX7_orderOn 9 = .ok (.istore_n 3, 1) := by decide +kernel
theorem dX7_orderOn_10 : decode cX7_orderOn 10 = .ok (.iload_n 3, 1) := by decide +kernel
theorem dX7_orderOn_11 : decode cX7_orderOn 11 = .ok (.aload_n 0, 1) := by decide +kernel
theorem dX7_orderOn_12 : decode cX7_orderOn 12 = .ok (.getfield 151, 3) := by decide +kernel
theorem dX7_orderOn_15 : decode cX7_orderOn 15 = .ok (.if_icmp .ge 26, 3) := by decide +kernel
theorem dX7_orderOn_18 : decode cX7_orderOn 18 = .ok (.aload_n 0, 1) := by decide +kernel
theorem dX7_orderOn_19 : decode cX7_orderOn 19 = .ok (.getfield 34, 3) := by decide +kernel
theorem dX7_orderOn_22 : decode cX7_orderOn 22 = .ok (.iload_n 3, 1) := by decide +kernel
theorem dX7_orderOn_23 : decode cX7_orderOn 23 = .ok (.aload_n 0, 1) := by decide +kernel
theorem dX7_orderOn_24 : decode cX7_orderOn 24 = .ok (.getfield 70, 3) := by decide +kernel
theorem dX7_orderOn_27 : decode cX7_orderOn 27 = .ok (.aload_n 0, 1) := by decide +kernel
theorem dX7_orderOn_28 : decode cX7_orderOn 28 = .ok (.getfield 64, 3) := by decide +kernel
theorem dX7_orderOn_31 : decode cX7_orderOn 31 = .ok (.iload_n 3, 1) := by decide +kernel
theorem dX7_orderOn_32 : decode cX7_orderOn 32 = .ok (.iaload, 1) := by decide +kernel
theorem dX7_orderOn_33 : decode cX7_orderOn 33 = .ok (.iaload, 1) := by decide +kernel
theorem dX7_orderOn_34 : decode cX7_orderOn 34 = .ok (.iastore, 1) := by decide +kernel
theorem dX7_orderOn_35 : decode cX7_orderOn 35 = .ok (.iinc 3 1, 3) := by decide +kernel
theorem dX7_orderOn_38 : decode cX7_orderOn 38 = .ok (.goto (-28), 3) := by decide +kernel
theorem dX7_orderOn_41 : decode cX7_orderOn 41 = .ok (.aload_n 0, 1) := by decide +kernel
theorem dX7_orderOn_42 : decode cX7_orderOn 42 = .ok (.aload_n 0, 1) := by decide +kernel
theorem dX7_orderOn_43 : decode cX7_orderOn 43 = .ok (.getfield 280, 3) := by decide +kernel
theorem dX7_orderOn_46 : decode cX7_orderOn 46 = .ok (.invokevirtual 265, 3) := by decide +kernel
theorem dX7_orderOn_49 : decode cX7_orderOn 49 = .ok (.aload_n 0, 1) := by decide +kernel
theorem dX7_orderOn_50 : decode cX7_orderOn 50 = .ok (.getfield 259, 3) := by decide +kernel
theorem dX7_orderOn_53 : decode cX7_orderOn 53 = .ok (.invokestatic 192, 3) := by decide +kernel
theorem dX7_orderOn_56 : decode cX7_orderOn 56 = .ok (.istore_n 3, 1) := by decide +kernel
theorem dX7_orderOn_57 : decode cX7_orderOn 57 = .ok (.iload_n 3, 1) := by decide +kernel
theorem dX7_orderOn_58 : decode cX7_orderOn 58 = .ok (.aload_n 0, 1) := by decide +kernel
theorem dX7_orderOn_59 : decode cX7_orderOn 59 = .ok (.getfield 283, 3) := by decide +kernel
theorem dX7_orderOn_62 : decode cX7_orderOn 62 = .ok (.if_icmp .le 40, 3) := by decide +kernel
theorem dX7_orderOn_65 : decode cX7_orderOn 65 = .ok (.aload_n 0, 1) := by decide +kernel
theorem dX7_orderOn_66 : decode cX7_orderOn 66 = .ok (.iload_n 3, 1) := by decide +kernel
theorem dX7_orderOn_67 : decode cX7_orderOn 67 = .ok (.putfield 283, 3) := by decide +kernel
theorem dX7_orderOn_70 : decode cX7_orderOn 70 = .ok (.iconst 0, 1) := by decide +kernel
theorem dX7_orderOn_71 : decode cX7_orderOn 71 = .ok (.istore 4, 2) := by decide +kernel
theorem dX7_orderOn_73 : decode cX7_orderOn 73 = .ok (.iload 4, 2) := by decide +kernel
theorem dX7_orderOn_75 : decode cX7_orderOn 75 = .ok (.aload_n 0, 1) := by decide +kernel
theorem dX7_orderOn_76 : decode cX7_orderOn 76 = .ok (.getfield 151, 3) := by decide +kernel
theorem dX7_orderOn_79 : decode cX7_orderOn 79 = .ok (.if_icmp .ge 23, 3) := by decide +kernel
theorem dX7_orderOn_82 : decode cX7_orderOn 82 = .ok (.aload_n 0, 1) := by decide +kernel
theorem dX7_orderOn_83 : decode cX7_orderOn 83 = .ok (.getfield 67, 3) := by decide +kernel
theorem dX7_orderOn_86 : decode cX7_orderOn 86 = .ok (.iload 4, 2) := by decide +kernel
theorem dX7_orderOn_88 : decode cX7_orderOn 88 = .ok (.aload_n 0, 1) := by decide +kernel
theorem dX7_orderOn_89 : decode cX7_orderOn 89 = .ok (.getfield 64, 3) := by decide +kernel
theorem dX7_orderOn_92 : decode cX7_orderOn 92 = .ok (.iload 4, 2) := by decide +kernel
theorem dX7_orderOn_94 : decode cX7_orderOn 94 = .ok (.iaload, 1) := by decide +kernel
theorem dX7_orderOn_95 : decode cX7_orderOn 95 = .ok (.iastore, 1) := by decide +kernel
theorem dX7_orderOn_96 : decode cX7_orderOn 96 = .ok (.iinc 4 1, 3) := by decide +kernel
theorem dX7_orderOn_99 : decode cX7_orderOn 99 = .ok (.goto (-26), 3) := by decide +kernel
theorem dX7_orderOn_102 : decode cX7_orderOn 102 = .ok (.return_, 1) := by decide +kernel
theorem dX7_orderOn_103 : decode cX7_orderOn 103 = .ok (.iconst 0, 1) := by decide +kernel
theorem dX7_orderOn_104 : decode cX7_orderOn 104 = .ok (.istore_n 3, 1) := by decide +kernel
theorem dX7_orderOn_105 : decode cX7_orderOn 105 = .ok (.iload_n 3, 1) := by decide +kernel
theorem dX7_orderOn_106 : decode cX7_orderOn 106 = .ok (.aload_n 0, 1) := by decide +kernel
theorem dX7_orderOn_107 : decode cX7_orderOn 107 = .ok (.getfield 151, 3) := by decide +kernel
theorem dX7_orderOn_110 : decode cX7_orderOn 110 = .ok (.if_icmp .ge 38, 3) := by decide +kernel
theorem dX7_orderOn_113 : decode cX7_orderOn 113 = .ok (.iload_n 2, 1) := by decide +kernel
theorem dX7_orderOn_114 : decode cX7_orderOn 114 = .ok (.iload_n 3, 1) := by decide +kernel
theorem dX7_orderOn_115 : decode cX7_orderOn 115 = .ok (.invokestatic 207, 3) := by decide +kernel
theorem dX7_orderOn_118 : decode cX7_orderOn 118 = .ok (.ifCond .eq 24, 3) := by decide +kernel
theorem dX7_orderOn_121 : decode cX7_orderOn 121 = .ok (.aload_n 0, 1) := by decide +kernel
theorem dX7_orderOn_122 : decode cX7_orderOn 122 = .ok (.getfield 64, 3) := by decide +kernel
theorem dX7_orderOn_125 : decode cX7_orderOn 125 = .ok (.iload_n 1, 1) := by decide +kernel
theorem dX7_orderOn_126 : decode cX7_orderOn 126 = .ok (.iload_n 3, 1) := by decide +kernel
theorem dX7_orderOn_127 : decode cX7_orderOn 127 = .ok (.iastore, 1) := by decide +kernel
theorem dX7_orderOn_128 : decode cX7_orderOn 128 = .ok (.aload_n 0, 1) := by decide +kernel
theorem dX7_orderOn_129 : decode cX7_orderOn 129 = .ok (.iload_n 1, 1) := by decide +kernel
theorem dX7_orderOn_130 : decode cX7_orderOn 130 = .ok (.iconst 1, 1) := by decide +kernel
theorem dX7_orderOn_131 : decode cX7_orderOn 131 = .ok (.iadd, 1) := by decide +kernel
theorem dX7_orderOn_132 : decode cX7_orderOn 132 = .ok (.iload_n 2, 1) := by decide +kernel
theorem dX7_orderOn_133 : decode cX7_orderOn 133 = .ok (.iconst 1, 1) := by decide +kernel
theorem dX7_orderOn_134 : decode cX7_orderOn 134 = .ok (.iload_n 3, 1) := by decide +kernel
theorem dX7_orderOn_135 : decode cX7_orderOn 135 = .ok (.ishl, 1) := by decide +kernel
theorem dX7_orderOn_136 : decode cX7_orderOn 136 = .ok (.iconst (-1), 1) := by decide +kernel
theorem dX7_orderOn_137 : decode cX7_orderOn 137 = .ok (.ixor, 1) := by decide +kernel
theorem dX7_orderOn_138 : decode cX7_orderOn 138 = .ok (.iand, 1) := by decide +kernel
theorem dX7_orderOn_139 : decode cX7_orderOn 139 = .ok (.invokevirtual 286, 3) := by decide +kernel
theorem dX7_orderOn_142 : decode cX7_orderOn 142 = .ok (.iinc 3 1, 3) := by decide +kernel
theorem dX7_orderOn_145 : decode cX7_orderOn 145 = .ok (.goto (-40), 3) := by decide +kernel
theorem dX7_orderOn_148 : decode cX7_orderOn 148 = .ok (.return_, 1) := by decide +kernel
theorem dX7_best_0 : decode cX7_best 0 = .ok (.iload_n 1, 1) := by decide +kernel
theorem dX7_best_1 : decode cX7_best 1 = .ok (.invokestatic 289, 3) := by decide +kernel
theorem dX7_best_4 : decode cX7_best 4 = .ok (.ifCond .eq 10, 3) := by decide +kernel
theorem dX7_best_7 : decode cX7_best 7 = .ok (.iload_n 2, 1) := by decide +kernel
theorem dX7_best_8 : decode cX7_best 8 = .ok (.invokestatic 87, 3) := by decide +kernel
theorem dX7_best_11 : decode cX7_best 11 = .ok (.ifCond .ne 5, 3) := by decide +kernel
theorem dX7_best_14 : decode cX7_best 14 = .ok (.iconst (-1), 1) := by decide +kernel
theorem dX7_best_15 : decode cX7_best 15 = .ok (.ireturn, 1) := by decide +kernel
theorem dX7_best_16 : decode cX7_best 16 = .ok (.aload_n 0, 1) := by decide +kernel
theorem dX7_best_17 : decode cX7_best 17 = .ok (.getfield 151, 3) := by decide +kernel
theorem dX7_best_20 : decode cX7_best 20 = .ok (.ifCond .ne 6, 3) := by decide +kernel
theorem dX7_best_23 : decode cX7_best 23 = .ok (.bipush (-4), 2) := by decide +kernel
theorem dX7_best_25 : decode cX7_best 25 = .ok (.ireturn, 1) := by decide +kernel
theorem dX7_best_26 : decode cX7_best 26 = .ok (.iconst 0, 1) := by decide +kernel
theorem dX7_best_27 : decode cX7_best 27 = .ok (.istore_n 3, 1) := by decide +kernel
theorem dX7_best_28 : decode cX7_best 28 = .ok (.iload_n 3, 1) := by decide +kernel
theorem dX7_best_29 : decode cX7_best 29 = .ok (.aload_n 0, 1) := by decide +kernel
theorem dX7_best_30 : decode cX7_best 30 = .ok (.getfield 151, 3) := by decide +kernel
theorem dX7_best_33 : decode cX7_best 33 = .ok (.if_icmp .ge 21, 3) := by decide +kernel
theorem dX7_best_36 : decode cX7_best 36 = .ok (.aload_n 0, 1) := by decide +kernel
theorem dX7_best_37 : decode cX7_best 37 = .ok (.getfield 70, 3) := by decide +kernel
theorem dX7_best_40 : decode cX7_best 40 = .ok (.iload_n 3, 1) := by decide +kernel
theorem dX7_best_41 : decode cX7_best 41 = .ok (.aload_n 0, 1) := by decide +kernel
theorem dX7_best_42 : decode cX7_best 42 = .ok (.getfield 34, 3) := by decide +kernel
theorem dX7_best_45 : decode cX7_best 45 = .ok (.iload_n 3, 1) := by decide +kernel
theorem dX7_best_46 : decode cX7_best 46 = .ok (.iaload, 1) := by decide +kernel
theorem dX7_best_47 : decode cX7_best 47 = .ok (.iastore, 1) := by decide +kernel
theorem dX7_best_48 : decode cX7_best 48 = .ok (.iinc 3 1, 3) := by decide +kernel
theorem dX7_best_51 : decode cX7_best 51 = .ok (.goto (-23), 3) := by decide +kernel
theorem dX7_best_54 : decode cX7_best 54 = .ok (.aload_n 0, 1) := by decide +kernel
theorem dX7_best_55 : decode cX7_best 55 = .ok (.iload_n 1, 1) := by decide +kernel
theorem dX7_best_56 : decode cX7_best 56 = .ok (.putfield 280, 3) := by decide +kernel
theorem dX7_best_59 : decode cX7_best 59 = .ok (.aload_n 0, 1) := by decide +kernel
theorem dX7_best_60 : decode cX7_best 60 = .ok (.iconst (-1), 1) := by decide +kernel
theorem dX7_best_61 : decode cX7_best 61 = .ok (.putfield 283, 3) := by decide +kernel
theorem dX7_best_64 : decode cX7_best 64 = .ok (.aload_n 0, 1) := by decide +kernel
theorem dX7_best_65 : decode cX7_best 65 = .ok (.iconst 0, 1) := by decide +kernel
theorem dX7_best_66 : decode cX7_best 66 = .ok (.iconst 1, 1) := by decide +kernel
theorem dX7_best_67 : decode cX7_best 67 = .ok (.aload_n 0, 1) := by decide +kernel
theorem dX7_best_68 : decode cX7_best 68 = .ok (.getfield 151, 3) := by decide +kernel
theorem dX7_best_71 : decode cX7_best 71 = .ok (.ishl, 1) := by decide +kernel
theorem dX7_best_72 : decode cX7_best 72 = .ok (.iconst 1, 1) := by decide +kernel
theorem dX7_best_73 : decode cX7_best 73 = .ok (.isub, 1) := by decide +kernel
theorem dX7_best_74 : decode cX7_best 74 = .ok (.invokevirtual 286, 3) := by decide +kernel
theorem dX7_best_77 : decode cX7_best 77 = .ok (.aload_n 0, 1) := by decide +kernel
theorem dX7_best_78 : decode cX7_best 78 = .ok (.iload_n 2, 1) := by decide +kernel
theorem dX7_best_79 : decode cX7_best 79 = .ok (.aload_n 0, 1) := by decide +kernel
theorem dX7_best_80 : decode cX7_best 80 = .ok (.getfield 151, 3) := by decide +kernel
theorem dX7_best_83 : decode cX7_best 83 = .ok (.invokevirtual 277, 3) := by decide +kernel
theorem dX7_best_86 : decode cX7_best 86 = .ok (.pop, 1) := by decide +kernel
theorem dX7_best_87 : decode cX7_best 87 = .ok (.iconst 0, 1) := by decide +kernel
theorem dX7_best_88 : decode cX7_best 88 = .ok (.istore_n 3, 1) := by decide +kernel
theorem dX7_best_89 : decode cX7_best 89 = .ok (.iload_n 3, 1) := by decide +kernel
theorem dX7_best_90 : decode cX7_best 90 = .ok (.aload_n 0, 1) := by decide +kernel
theorem dX7_best_91 : decode cX7_best 91 = .ok (.getfield 151, 3) := by decide +kernel
theorem dX7_best_94 : decode cX7_best 94 = .ok (.if_icmp .ge 33, 3) := by decide +kernel
theorem dX7_best_97 : decode cX7_best 97 = .ok (.aload_n 0, 1) := by decide +kernel
theorem dX7_best_98 : decode cX7_best 98 = .ok (.getfield 34, 3) := by decide +kernel
theorem dX7_best_101 : decode cX7_best 101 = .ok (.iload_n 3, 1) := by decide +kernel
theorem dX7_best_102 : decode cX7_best 102 = .ok (.aload_n 0, 1) := by decide +kernel
theorem dX7_best_103 : decode cX7_best 103 = .ok (.getfield 70, 3) := by decide +kernel
theorem dX7_best_106 : decode cX7_best 106 = .ok (.iload_n 3, 1) := by decide +kernel
theorem dX7_best_107 : decode cX7_best 107 = .ok (.iaload, 1) := by decide +kernel
theorem dX7_best_108 : decode cX7_best 108 = .ok (.iastore, 1) := by decide +kernel
theorem dX7_best_109 : decode cX7_best 109 = .ok (.aload_n 0, 1) := by decide +kernel
theorem dX7_best_110 : decode cX7_best 110 = .ok (.iload_n 2, 1) := by decide +kernel
theorem dX7_best_111 : decode cX7_best 111 = .ok (.iload_n 3, 1) := by decide +kernel
theorem dX7_best_112 : decode cX7_best 112 = .ok (.aload_n 0, 1) := by decide +kernel
theorem dX7_best_113 : decode cX7_best 113 = .ok (.getfield 67, 3) := by decide +kernel
theorem dX7_best_116 : decode cX7_best 116 = .ok (.iload_n 3, 1) := by decide +kernel
theorem dX7_best_117 : decode cX7_best 117 = .ok (.iaload, 1) := by decide +kernel
theorem dX7_best_118 : decode cX7_best 118 = .ok (.invokevirtual 98, 3) := by decide +kernel
theorem dX7_best_121 : decode cX7_best 121 = .ok (.iinc 3 1, 3) := by decide +kernel
theorem dX7_best_124 : decode cX7_best 124 = .ok (.goto (-35), 3) := by decide +kernel
theorem dX7_best_127 : decode cX7_best 127 = .ok (.aload_n 0, 1) := by decide +kernel
theorem dX7_best_128 : decode cX7_best 128 = .ok (.getfield 283, 3) := by decide +kernel
theorem dX7_best_131 : decode cX7_best 131 = .ok (.ireturn, 1) := by decide +kernel
theorem dX7_spot_0 : decode cX7_spot 0 = .ok (.aload_n 0, 1) := by decide +kernel
theorem dX7_spot_1 : decode cX7_spot 1 = .ok (.iload_n 1, 1) := by decide +kernel
theorem dX7_spot_2 : decode cX7_spot 2 = .ok (.invokevirtual 172, 3) := by decide +kernel
theorem dX7_spot_5 : decode cX7_spot 5 = .ok (.ifCond .eq 10, 3) := by decide +kernel
theorem dX7_spot_8 : decode cX7_spot 8 = .ok (.iload_n 2, 1) := by decide +kernel
theorem dX7_spot_9 : decode cX7_spot 9 = .ok (.invokestatic 289, 3) := by decide +kernel
theorem dX7_spot_12 : decode cX7_spot 12 = .ok (.ifCond .ne 5, 3) := by decide +kernel
theorem dX7_spot_15 : decode cX7_spot 15 = .ok (.iconst (-1), 1) := by decide +kernel
theorem dX7_spot_16 : decode cX7_spot 16 = .ok (.ireturn, 1) := by decide +kernel
theorem dX7_spot_17 : decode cX7_spot 17 = .ok (.aload_n 0, 1) := by decide +kernel
theorem dX7_spot_18 : decode cX7_spot 18 = .ok (.getfield 151, 3) := by decide +kernel
theorem dX7_spot_21 : decode cX7_spot 21 = .ok (.ifCond .ne 6, 3) := by decide +kernel
theorem dX7_spot_24 : decode cX7_spot 24 = .ok (.bipush (-4), 2) := by decide +kernel
theorem dX7_spot_26 : decode cX7_spot 26 = .ok (.ireturn, 1) := by decide +kernel
theorem dX7_spot_27 : decode cX7_spot 27 = .ok (.aload_n 0, 1) := by decide +kernel
theorem dX7_spot_28 : decode cX7_spot 28 = .ok (.getfield 40, 3) := by decide +kernel
theorem dX7_spot_31 : decode cX7_spot 31 = .ok (.iload_n 1, 1) := by decide +kernel
theorem dX7_spot_32 : decode cX7_spot 32 = .ok (.iaload, 1) := by decide +kernel
theorem dX7_spot_33 : decode cX7_spot 33 = .ok (.istore_n 3, 1) := by decide +kernel
theorem dX7_spot_34 : decode cX7_spot 34 = .ok (.iconst 0, 1) := by decide +kernel
theorem dX7_spot_35 : decode cX7_spot 35 = .ok (.istore 4, 2) := by decide +kernel
theorem dX7_spot_37 : decode cX7_spot 37 = .ok (.iconst (-1), 1) := by decide +kernel
theorem dX7_spot_38 : decode cX7_spot 38 = .ok (.istore 5, 2) := by decide +kernel
theorem dX7_spot_40 : decode cX7_spot 40 = .ok (.iconst 0, 1) := by decide +kernel
theorem dX7_spot_41 : decode cX7_spot 41 = .ok (.istore 6, 2) := by decide +kernel
theorem dX7_spot_43 : decode cX7_spot 43 = .ok (.iload 6, 2) := by decide +kernel
theorem dX7_spot_45 : decode cX7_spot 45 = .ok (.bipush 20, 2) := by decide +kernel
theorem dX7_spot_47 : decode cX7_spot 47 = .ok (.if_icmp .ge 98, 3) := by decide +kernel
theorem dX7_spot_50 : decode cX7_spot 50 = .ok (.aload_n 0, 1) := by decide +kernel
theorem dX7_spot_51 : decode cX7_spot 51 = .ok (.getfield 40, 3) := by decide +kernel
theorem dX7_spot_54 : decode cX7_spot 54 = .ok (.iload_n 1, 1) := by decide +kernel
theorem dX7_spot_55 : decode cX7_spot 55 = .ok (.iload 6, 2) := by decide +kernel
theorem dX7_spot_57 : decode cX7_spot 57 = .ok (.iastore, 1) := by decide +kernel
theorem dX7_spot_58 : decode cX7_spot 58 = .ok (.aload_n 0, 1) := by decide +kernel
theorem dX7_spot_59 : decode cX7_spot 59 = .ok (.invokevirtual 253, 3) := by decide +kernel
theorem dX7_spot_62 : decode cX7_spot 62 = .ok (.iconst 0, 1) := by decide +kernel
theorem dX7_spot_63 : decode cX7_spot 63 = .ok (.istore 7, 2) := by decide +kernel
theorem dX7_spot_65 : decode cX7_spot 65 = .ok (.iload 7, 2) := by decide +kernel
theorem dX7_spot_67 : decode cX7_spot 67 = .ok (.iload_n 2, 1) := by decide +kernel
theorem dX7_spot_68 : decode cX7_spot 68 = .ok (.if_icmp .ge 16, 3) := by decide +kernel
theorem dX7_spot_71 : decode cX7_spot 71 = .ok (.aload_n 0, 1) := by decide +kernel
theorem dX7_spot_72 : decode cX7_spot 72 = .ok (.iconst 0, 1) := by decide +kernel
theorem dX7_spot_73 : decode cX7_spot 73 = .ok (.bipush (-9), 2) := by decide +kernel
theorem dX7_spot_75 : decode cX7_spot 75 = .ok (.invokevirtual 241, 3) := by decide +kernel
theorem dX7_spot_78 : decode cX7_spot 78 = .ok (.iinc 7 1, 3) := by decide +kernel
theorem dX7_spot_81 : decode cX7_spot 81 = .ok (.goto (-16), 3) := by decide +kernel
theorem dX7_spot_84 : decode cX7_spot 84 = .ok (.aload_n 0, 1) := by decide +kernel
theorem dX7_spot_85 : decode cX7_spot 85 = .ok (.getfield 49, 3) := by decide +kernel
theorem dX7_spot_88 : decode cX7_spot 88 = .ok (.iload_n 1, 1) := by decide +kernel
theorem dX7_spot_89 : decode cX7_spot 89 = .ok (.iaload, 1) := by decide +kernel
theorem dX7_spot_90 : decode cX7_spot 90 = .ok (.istore 7, 2) := by decide +kernel
theorem dX7_spot_92 : decode cX7_spot 92 = .ok (.aload_n 0, 1) := by decide +kernel
theorem dX7_spot_93 : decode cX7_spot 93 = .ok (.invokevirtual 256, 3) := by decide +kernel
theorem dX7_spot_96 : decode cX7_spot 96 = .ok (.iload 7, 2) := by decide +kernel
theorem dX7_spot_98 : decode cX7_spot 98 = .ok (.aload_n 0, 1) := by decide +kernel
theorem dX7_spot_99 : decode cX7_spot 99 = .ok (.getfield 49, 3) := by decide +kernel
theorem dX7_spot_102 : decode cX7_spot 102 = .ok (.iload_n 1, 1) := by decide +kernel
theorem dX7_spot_103 : decode cX7_spot 103 = .ok (.iaload, 1) := by decide +kernel
theorem dX7_spot_104 : decode cX7_spot 104 = .ok (.isub, 1) := by decide +kernel
theorem dX7_spot_105 : decode cX7_spot 105 = .ok (.istore 7, 2) := by decide +kernel
theorem dX7_spot_107 : decode cX7_spot 107 = .ok (.iload 7, 2) := by decide +kernel
theorem dX7_spot_109 : decode cX7_spot 109 = .ok (.iload 5, 2) := by decide +kernel
theorem dX7_spot_111 : decode cX7_spot 111 = .ok (.if_icmp .le 8, 3) := by decide +kernel
theorem dX7_spot_114 : decode cX7_spot 114 = .ok (.iload 6, 2) := by decide +kernel
theorem dX7_spot_116 : decode cX7_spot 116 = .ok (.goto 5, 3) := by decide +kernel
theorem dX7_spot_119 : decode cX7_spot 119 = .ok (.iload 4, 2) := by decide +kernel
theorem dX7_spot_121 : decode cX7_spot 121 = .ok (.istore 4, 2) := by decide +kernel
theorem dX7_spot_123 : decode cX7_spot 123 = .ok (.iload 7, 2) := by decide +kernel
theorem dX7_spot_125 : decode cX7_spot 125 = .ok (.iload 5, 2) := by decide +kernel
theorem dX7_spot_127 : decode cX7_spot 127 = .ok (.if_icmp .le 8, 3) := by decide +kernel
theorem dX7_spot_130 : decode cX7_spot 130 = .ok (.iload 7, 2) := by decide +kernel
theorem dX7_spot_132 : decode cX7_spot 132 = .ok (.goto 5, 3) := by decide +kernel
theorem dX7_spot_135 : decode cX7_spot 135 = .ok (.iload 5, 2) := by decide +kernel
theorem dX7_spot_137 : decode cX7_spot 137 = .ok (.istore 5, 2) := by decide +kernel
theorem dX7_spot_139 : decode cX7_spot 139 = .ok (.iinc 6 1, 3) := by decide +kernel
theorem dX7_spot_142 : decode cX7_spot 142 = .ok (.goto (-99), 3) := by decide +kernel
theorem dX7_spot_145 : decode cX7_spot 145 = .ok (.aload_n 0, 1) := by decide +kernel
theorem dX7_spot_146 : decode cX7_spot 146 = .ok (.getfield 40, 3) := by decide +kernel
theorem dX7_spot_149 : decode cX7_spot 149 = .ok (.iload_n 1, 1) := by decide +kernel
theorem dX7_spot_150 : decode cX7_spot 150 = .ok (.iload_n 3, 1) := by decide +kernel
theorem dX7_spot_151 : decode cX7_spot 151 = .ok (.iastore, 1) := by decide +kernel
theorem dX7_spot_152 : decode cX7_spot 152 = .ok (.aload_n 0, 1) := by decide +kernel
theorem dX7_spot_153 : decode cX7_spot 153 = .ok (.iload 5, 2) := by decide +kernel
theorem dX7_spot_155 : decode cX7_spot 155 = .ok (.iload 4, 2) := by decide +kernel
theorem dX7_spot_157 : decode cX7_spot 157 = .ok (.invokevirtual 109, 3) := by decide +kernel
theorem dX7_spot_160 : decode cX7_spot 160 = .ok (.ireturn, 1) := by decide +kernel
theorem dX7_missed_0 : decode cX7_missed 0 = .ok (.iload_n 1, 1) := by decide +kernel
theorem dX7_missed_1 : decode cX7_missed 1 = .ok (.invokestatic 289, 3) := by decide +kernel
theorem dX7_missed_4 : decode cX7_missed 4 = .ok (.ifCond .ne 5, 3) := by decide +kernel
theorem dX7_missed_7 : decode cX7_missed 7 = .ok (.iconst (-1), 1) := by decide +kernel
theorem dX7_missed_8 : decode cX7_missed 8 = .ok (.ireturn, 1) := by decide +kernel
theorem dX7_missed_9 : decode cX7_missed 9 = .ok (.aload_n 0, 1) := by decide +kernel
theorem dX7_missed_10 : decode cX7_missed 10 = .ok (.getfield 151, 3) := by decide +kernel
theorem dX7_missed_13 : decode cX7_missed 13 = .ok (.ifCond .ne 6, 3) := by decide +kernel
theorem dX7_missed_16 : decode cX7_missed 16 = .ok (.bipush (-4), 2) := by decide +kernel
theorem dX7_missed_18 : decode cX7_missed 18 = .ok (.ireturn, 1) := by decide +kernel
theorem dX7_missed_19 : decode cX7_missed 19 = .ok (.aload_n 0, 1) := by decide +kernel
theorem dX7_missed_20 : decode cX7_missed 20 = .ok (.iload_n 1, 1) := by decide +kernel
theorem dX7_missed_21 : decode cX7_missed 21 = .ok (.invokevirtual 265, 3) := by decide +kernel
theorem dX7_missed_24 : decode cX7_missed 24 = .ok (.aload_n 0, 1) := by decide +kernel
theorem dX7_missed_25 : decode cX7_missed 25 = .ok (.getfield 259, 3) := by decide +kernel
theorem dX7_missed_28 : decode cX7_missed 28 = .ok (.istore_n 2, 1) := by decide +kernel
theorem dX7_missed_29 : decode cX7_missed 29 = .ok (.bipush (-9), 2) := by decide +kernel
theorem dX7_missed_31 : decode cX7_missed 31 = .ok (.istore_n 3, 1) := by decide +kernel
theorem dX7_missed_32 : decode cX7_missed 32 = .ok (.iconst 0, 1) := by decide +kernel
theorem dX7_missed_33 : decode cX7_missed 33 = .ok (.istore 4, 2) := by decide +kernel
theorem dX7_missed_35 : decode cX7_missed 35 = .ok (.iconst 0, 1) := by decide +kernel
theorem dX7_missed_36 : decode cX7_missed 36 = .ok (.istore 5, 2) := by decide +kernel
theorem dX7_missed_38 : decode cX7_missed 38 = .ok (.iload 5, 2) := by decide +kernel
theorem dX7_missed_40 : decode cX7_missed 40 = .ok (.aload_n 0, 1) := by decide +kernel
theorem dX7_missed_41 : decode cX7_missed 41 = .ok (.getfield 151, 3) := by decide +kernel
theorem dX7_missed_44 : decode cX7_missed 44 = .ok (.if_icmp .ge 107, 3) := by decide +kernel
theorem dX7_missed_47 : decode cX7_missed 47 = .ok (.aload_n 0, 1) := by decide +kernel
theorem dX7_missed_48 : decode cX7_missed 48 = .ok (.getfield 34, 3) := by decide +kernel
theorem dX7_missed_51 : decode cX7_missed 51 = .ok (.iload 5, 2) := by decide +kernel
theorem dX7_missed_53 : decode cX7_missed 53 = .ok (.iaload, 1) := by decide +kernel
theorem dX7_missed_54 : decode cX7_missed 54 = .ok (.istore 6, 2) := by decide +kernel
theorem dX7_missed_56 : decode cX7_missed 56 = .ok (.aload_n 0, 1) := by decide +kernel
theorem dX7_missed_57 : decode cX7_missed 57 = .ok (.getfield 34, 3) := by decide +kernel
theorem dX7_missed_60 : decode cX7_missed 60 = .ok (.iload 5, 2) := by decide +kernel
theorem dX7_missed_62 : decode cX7_missed 62 = .ok (.iconst 4, 1) := by decide +kernel
theorem dX7_missed_63 : decode cX7_missed 63 = .ok (.iastore, 1) := by decide +kernel
theorem dX7_missed_64 : decode cX7_missed 64 = .ok (.aload_n 0, 1) := by decide +kernel
theorem dX7_missed_65 : decode cX7_missed 65 = .ok (.iload_n 1, 1) := by decide +kernel
theorem dX7_missed_66 : decode cX7_missed 66 = .ok (.invokevirtual 265, 3) := by decide +kernel
theorem dX7_missed_69 : decode cX7_missed 69 = .ok (.aload_n 0, 1) := by decide +kernel
theorem dX7_missed_70 : decode cX7_missed 70 = .ok (.getfield 34, 3) := by decide +kernel
theorem dX7_missed_73 : decode cX7_missed 73 = .ok (.iload 5, 2) := by decide +kernel
theorem dX7_missed_75 : decode cX7_missed 75 = .ok (.iload 6, 2) := by decide +kernel
theorem dX7_missed_77 : decode cX7_missed 77 = .ok (.iastore, 1) := by decide +kernel
theorem dX7_missed_78 : decode cX7_missed 78 = .ok (.iload_n 2, 1) := by decide +kernel
theorem dX7_missed_79 : decode cX7_missed 79 = .ok (.iconst 1, 1) := by decide +kernel
theorem dX7_missed_80 : decode cX7_missed 80 = .ok (.iload 5, 2) := by decide +kernel
theorem dX7_missed_82 : decode cX7_missed 82 = .ok (.ishl, 1) := by decide +kernel
theorem dX7_missed_83 : decode cX7_missed 83 = .ok (.iconst (-1), 1) := by decide +kernel
theorem dX7_missed_84 : decode cX7_missed 84 = .ok (.ixor, 1) := by decide +kernel
theorem dX7_missed_85 : decode cX7_missed 85 = .ok (.iand, 1) := by decide +kernel
theorem dX7_missed_86 : decode cX7_missed 86 = .ok (.invokestatic 192, 3) := by decide +kernel
theorem dX7_missed_89 : decode cX7_missed 89 = .ok (.aload_n 0, 1) := by decide +kernel
theorem dX7_missed_90 : decode cX7_missed 90 = .ok (.getfield 259, 3) := by decide +kernel
theorem dX7_missed_93 : decode cX7_missed 93 = .ok (.invokestatic 192, 3) := by decide +kernel
theorem dX7_missed_96 : decode cX7_missed 96 = .ok (.isub, 1) := by decide +kernel
theorem dX7_missed_97 : decode cX7_missed 97 = .ok (.istore 7, 2) := by decide +kernel
theorem dX7_missed_99 : decode cX7_missed 99 = .ok (.iload_n 3, 1) := by decide +kernel
theorem dX7_missed_100 : decode cX7_missed 100 = .ok (.bipush (-9), 2) := by decide +kernel
theorem dX7_missed_102 : decode cX7_missed 102 = .ok (.if_icmp .eq 10, 3) := by decide +kernel
theorem dX7_missed_105 : decode cX7_missed 105 = .ok (.iload 7, 2) := by decide +kernel
theorem dX7_missed_107 : decode cX7_missed 107 = .ok (.iload 4, 2) := by decide +kernel
theorem dX7_missed_109 : decode cX7_missed 109 = .ok (.if_icmp .ge 7, 3) := by decide +kernel
theorem dX7_missed_112 : decode cX7_missed 112 = .ok (.iconst 1, 1) := by decide +kernel
theorem dX7_missed_113 : decode cX7_missed 113 = .ok (.goto 4, 3) := by decide +kernel
theorem dX7_missed_116 : decode cX7_missed 116 = .ok (.iconst 0, 1) := by decide +kernel
theorem dX7_missed_117 : decode cX7_missed 117 = .ok (.istore 8, 2) := by decide +kernel
theorem dX7_missed_119 : decode cX7_missed 119 = .ok (.iload 8, 2) := by decide +kernel
theorem dX7_missed_121 : decode cX7_missed 121 = .ok (.ifCond .eq 8, 3) := by decide +kernel
theorem dX7_missed_124 : decode cX7_missed 124 = .ok (.iload 5, 2) := by decide +kernel
theorem dX7_missed_126 : decode cX7_missed 126 = .ok (.goto 4, 3) := by decide +kernel
theorem dX7_missed_129 : decode cX7_missed 129 = .ok (.iload_n 3, 1) := by decide +kernel
theorem dX7_missed_130 : decode cX7_missed 130 = .ok (.istore_n 3, 1) := by decide +kernel
theorem dX7_missed_131 : decode cX7_missed 131 = .ok (.iload 8, 2) := by decide +kernel
theorem dX7_missed_133 : decode cX7_missed 133 = .ok (.ifCond .eq 8, 3) := by decide +kernel
theorem dX7_missed_136 : decode cX7_missed 136 = .ok (.iload 7, 2) := by decide +kernel
theorem dX7_missed_138 : decode cX7_missed 138 = .ok (.goto 5, 3) := by decide +kernel
theorem dX7_missed_141 : decode cX7_missed 141 = .ok (.iload 4, 2) := by decide +kernel
theorem dX7_missed_143 : decode cX7_missed 143 = .ok (.istore 4, 2) := by decide +kernel
theorem dX7_missed_145 : decode cX7_missed 145 = .ok (.iinc 5 1, 3) := by decide +kernel
theorem dX7_missed_148 : decode cX7_missed 148 = .ok (.goto (-110), 3) := by decide +kernel
theorem dX7_missed_151 : decode cX7_missed 151 = .ok (.aload_n 0, 1) := by decide +kernel
theorem dX7_missed_152 : decode cX7_missed 152 = .ok (.iload 4, 2) := by decide +kernel
theorem dX7_missed_154 : decode cX7_missed 154 = .ok (.iload_n 3, 1) := by decide +kernel
theorem dX7_missed_155 : decode cX7_missed 155 = .ok (.invokevirtual 109, 3) := by decide +kernel
theorem dX7_missed_158 : decode cX7_missed 158 = .ok (.ireturn, 1) := by decide +kernel
theorem dX7_holds_0 : decode cX7_holds 0 = .ok (.iconst 0, 1) := by decide +kernel
theorem dX7_holds_1 : decode cX7_holds 1 = .ok (.istore_n 2, 1) := by decide +kernel
theorem dX7_holds_2 : decode cX7_holds 2 = .ok (.iconst 1, 1) := by decide +kernel
theorem dX7_holds_3 : decode cX7_holds 3 = .ok (.istore_n 3, 1) := by decide +kernel
theorem dX7_holds_4 : decode cX7_holds 4 = .ok (.iload_n 3, 1) := by decide +kernel
theorem dX7_holds_5 : decode cX7_holds 5 = .ok (.aload_n 0, 1) := by decide +kernel
theorem dX7_holds_6 : decode cX7_holds 6 = .ok (.getfield 151, 3) := by decide +kernel
theorem dX7_holds_9 : decode cX7_holds 9 = .ok (.if_icmp .ge 61, 3) := by decide +kernel
theorem dX7_holds_12 : decode cX7_holds 12 = .ok (.iload_n 1, 1) := by decide +kernel
theorem dX7_holds_13 : decode cX7_holds 13 = .ok (.iload_n 3, 1) := by decide +kernel
theorem dX7_holds_14 : decode cX7_holds 14 = .ok (.invokestatic 207, 3) := by decide +kernel
theorem dX7_holds_17 : decode cX7_holds 17 = .ok (.ifCond .eq 47, 3) := by decide +kernel
theorem dX7_holds_20 : decode cX7_holds 20 = .ok (.aload_n 0, 1) := by decide +kernel
theorem dX7_holds_21 : decode cX7_holds 21 = .ok (.getfield 31, 3) := by decide +kernel
theorem dX7_holds_24 : decode cX7_holds 24 = .ok (.iload_n 3, 1) := by decide +kernel
theorem dX7_holds_25 : decode cX7_holds 25 = .ok (.iaload, 1) := by decide +kernel
theorem dX7_holds_26 : decode cX7_holds 26 = .ok (.aload_n 0, 1) := by decide +kernel
theorem dX7_holds_27 : decode cX7_holds 27 = .ok (.getfield 31, 3) := by decide +kernel
theorem dX7_holds_30 : decode cX7_holds 30 = .ok (.iload_n 2, 1) := by decide +kernel
theorem dX7_holds_31 : decode cX7_holds 31 = .ok (.iaload, 1) := by decide +kernel
theorem dX7_holds_32 : decode cX7_holds 32 = .ok (.isub, 1) := by decide +kernel
theorem dX7_holds_33 : decode cX7_holds 33 = .ok (.aload_n 0, 1) := by decide +kernel
theorem dX7_holds_34 : decode cX7_holds 34 = .ok (.getfield 157, 3) := by decide +kernel
theorem dX7_holds_37 : decode cX7_holds 37 = .ok (.if_icmp .le 25, 3) := by decide +kernel
theorem dX7_holds_40 : decode cX7_holds 40 = .ok (.aload_n 0, 1) := by decide +kernel
theorem dX7_holds_41 : decode cX7_holds 41 = .ok (.getfield 28, 3) := by decide +kernel
theorem dX7_holds_44 : decode cX7_holds 44 = .ok (.iload_n 3, 1) := by decide +kernel
theorem dX7_holds_45 : decode cX7_holds 45 = .ok (.iaload, 1) := by decide +kernel
theorem dX7_holds_46 : decode cX7_holds 46 = .ok (.iconst 4, 1) := by decide +kernel
theorem dX7_holds_47 : decode cX7_holds 47 = .ok (.if_icmp .eq 15, 3) := by decide +kernel
theorem dX7_holds_50 : decode cX7_holds 50 = .ok (.aload_n 0, 1) := by decide +kernel
theorem dX7_holds_51 : decode cX7_holds 51 = .ok (.getfield 28, 3) := by decide +kernel
theorem dX7_holds_54 : decode cX7_holds 54 = .ok (.iload_n 2, 1) := by decide +kernel
theorem dX7_holds_55 : decode cX7_holds 55 = .ok (.iaload, 1) := by decide +kernel
theorem dX7_holds_56 : decode cX7_holds 56 = .ok (.iconst 4, 1) := by decide +kernel
theorem dX7_holds_57 : decode cX7_holds 57 = .ok (.if_icmp .eq 5, 3) := by decide +kernel
theorem dX7_holds_60 : decode cX7_holds 60 = .ok (.iconst 0, 1) := by decide +kernel
theorem dX7_holds_61 : decode cX7_holds 61 = .ok (.ireturn, 1) := by decide +kernel
theorem dX7_holds_62 : decode cX7_holds 62 = .ok (.iload_n 3, 1) := by decide +kernel
theorem dX7_holds_63 : decode cX7_holds 63 = .ok (.istore_n 2, 1) := by decide +kernel
theorem dX7_holds_64 : decode cX7_holds 64 = .ok (.iinc 3 1, 3) := by decide +kernel
theorem dX7_holds_67 : decode cX7_holds 67 = .ok (.goto (-63), 3) := by decide +kernel
theorem dX7_holds_70 : decode cX7_holds 70 = .ok (.iconst 1, 1) := by decide +kernel
theorem dX7_holds_71 : decode cX7_holds 71 = .ok (.ireturn, 1) := by decide +kernel
theorem dX7_fewest_0 : decode cX7_fewest 0 = .ok (.aload_n 0, 1) := by decide +kernel
theorem dX7_fewest_1 : decode cX7_fewest 1 = .ok (.getfield 151, 3) := by decide +kernel
theorem dX7_fewest_4 : decode cX7_fewest 4 = .ok (.ifCond .ne 6, 3) := by decide +kernel
theorem dX7_fewest_7 : decode cX7_fewest 7 = .ok (.bipush (-4), 2) := by decide +kernel
theorem dX7_fewest_9 : decode cX7_fewest 9 = .ok (.ireturn, 1) := by decide +kernel
theorem dX7_fewest_10 : decode cX7_fewest 10 = .ok (.iconst 1, 1) := by decide +kernel
theorem dX7_fewest_11 : decode cX7_fewest 11 = .ok (.iconst 1, 1) := by decide +kernel
theorem dX7_fewest_12 : decode cX7_fewest 12 = .ok (.aload_n 0, 1) := by decide +kernel
theorem dX7_fewest_13 : decode cX7_fewest 13 = .ok (.getfield 151, 3) := by decide +kernel
theorem dX7_fewest_16 : decode cX7_fewest 16 = .ok (.iconst 1, 1) := by decide +kernel
theorem dX7_fewest_17 : decode cX7_fewest 17 = .ok (.isub, 1) := by decide +kernel
theorem dX7_fewest_18 : decode cX7_fewest 18 = .ok (.ishl, 1) := by decide +kernel
theorem dX7_fewest_19 : decode cX7_fewest 19 = .ok (.ior, 1) := by decide +kernel
theorem dX7_fewest_20 : decode cX7_fewest 20 = .ok (.istore_n 1, 1) := by decide +kernel
theorem dX7_fewest_21 : decode cX7_fewest 21 = .ok (.iconst 1, 1) := by decide +kernel
theorem dX7_fewest_22 : decode cX7_fewest 22 = .ok (.aload_n 0, 1) := by decide +kernel
theorem dX7_fewest_23 : decode cX7_fewest 23 = .ok (.getfield 151, 3) := by decide +kernel
theorem dX7_fewest_26 : decode cX7_fewest 26 = .ok (.ishl, 1) := by decide +kernel
theorem dX7_fewest_27 : decode cX7_fewest 27 = .ok (.iconst 1, 1) := by decide +kernel
theorem dX7_fewest_28 : decode cX7_fewest 28 = .ok (.isub, 1) := by decide +kernel
theorem dX7_fewest_29 : decode cX7_fewest 29 = .ok (.istore_n 2, 1) := by decide +kernel
theorem dX7_fewest_30 : decode cX7_fewest 30 = .ok (.iload_n 2, 1) := by decide +kernel
theorem dX7_fewest_31 : decode cX7_fewest 31 = .ok (.istore_n 3, 1) := by decide +kernel
theorem dX7_fewest_32 : decode cX7_fewest 32 = .ok (.iload_n 3, 1) := by decide +kernel
theorem dX7_fewest_33 : decode cX7_fewest 33 = .ok (.ifCond .le 37, 3) := by decide +kernel
theorem dX7_fewest_36 : decode cX7_fewest 36 = .ok (.iload_n 3, 1) := by decide +kernel
theorem dX7_fewest_37 : decode cX7_fewest 37 = .ok (.iload_n 1, 1) := by decide +kernel
theorem dX7_fewest_38 : decode cX7_fewest 38 = .ok (.iand, 1) := by decide +kernel
theorem dX7_fewest_39 : decode cX7_fewest 39 = .ok (.iload_n 1, 1) := by decide +kernel
theorem dX7_fewest_40 : decode cX7_fewest 40 = .ok (.if_icmp .ne 24, 3) := by decide +kernel
theorem dX7_fewest_43 : decode cX7_fewest 43 = .ok (.iload_n 3, 1) := by decide +kernel
theorem dX7_fewest_44 : decode cX7_fewest 44 = .ok (.invokestatic 192, 3) := by decide +kernel
theorem dX7_fewest_47 : decode cX7_fewest 47 = .ok (.iload_n 2, 1) := by decide +kernel
theorem dX7_fewest_48 : decode cX7_fewest 48 = .ok (.invokestatic 192, 3) := by decide +kernel
theorem dX7_fewest_51 : decode cX7_fewest 51 = .ok (.if_icmp .gt 13, 3) := by decide +kernel
theorem dX7_fewest_54 : decode cX7_fewest 54 = .ok (.aload_n 0, 1) := by decide +kernel
theorem dX7_fewest_55 : decode cX7_fewest 55 = .ok (.iload_n 3, 1) := by decide +kernel
theorem dX7_fewest_56 : decode cX7_fewest 56 = .ok (.invokevirtual 292, 3) := by decide +kernel
theorem dX7_fewest_59 : decode cX7_fewest 59 = .ok (.ifCond .eq 5, 3) := by decide +kernel
theorem dX7_fewest_62 : decode cX7_fewest 62 = .ok (.iload_n 3, 1) := by decide +kernel
theorem dX7_fewest_63 : decode cX7_fewest 63 = .ok (.istore_n 2, 1) := by decide +kernel
theorem dX7_fewest_64 : decode cX7_fewest 64 = .ok (.iinc 3 (-1), 3) := by decide +kernel
theorem dX7_fewest_67 : decode cX7_fewest 67 = .ok (.goto (-35), 3) := by decide +kernel
theorem dX7_fewest_70 : decode cX7_fewest 70 = .ok (.aload_n 0, 1) := by decide +kernel
theorem dX7_fewest_71 : decode cX7_fewest 71 = .ok (.iload_n 2, 1) := by decide +kernel
theorem dX7_fewest_72 : decode cX7_fewest 72 = .ok (.iload_n 2, 1) := by decide +kernel
theorem dX7_fewest_73 : decode cX7_fewest 73 = .ok (.invokestatic 192, 3) := by decide +kernel
theorem dX7_fewest_76 : decode cX7_fewest 76 = .ok (.invokevirtual 109, 3) := by decide +kernel
theorem dX7_fewest_79 : decode cX7_fewest 79 = .ok (.ireturn, 1) := by decide +kernel
theorem dX7_turns_0 : decode cX7_turns 0 = .ok (.aload_n 0, 1) := by decide +kernel
theorem dX7_turns_1 : decode cX7_turns 1 = .ok (.getfield 151, 3) := by decide +kernel
theorem dX7_turns_4 : decode cX7_turns 4 = .ok (.ifCond .ne 6, 3) := by decide +kernel
theorem dX7_turns_7 : decode cX7_turns 7 = .ok (.bipush (-4), 2) := by decide +kernel
theorem dX7_turns_9 : decode cX7_turns 9 = .ok (.ireturn, 1) := by decide +kernel
theorem dX7_turns_10 : decode cX7_turns 10 = .ok (.iconst 0, 1) := by decide +kernel
theorem dX7_turns_11 : decode cX7_turns 11 = .ok (.istore_n 1, 1) := by decide +kernel
theorem dX7_turns_12 : decode cX7_turns 12 = .ok (.aload_n 0, 1) := by decide +kernel
theorem dX7_turns_13 : decode cX7_turns 13 = .ok (.aload_n 0, 1) := by decide +kernel
theorem dX7_turns_14 : decode cX7_turns 14 = .ok (.invokevirtual 224, 3) := by decide +kernel
theorem dX7_turns_17 : decode cX7_turns 17 = .ok (.invokevirtual 247, 3) := by decide +kernel
theorem dX7_turns_20 : decode cX7_turns 20 = .ok (.invokestatic 192, 3) := by decide +kernel
theorem dX7_turns_23 : decode cX7_turns 23 = .ok (.istore_n 2, 1) := by decide +kernel
theorem dX7_turns_24 : decode cX7_turns 24 = .ok (.iconst 1, 1) := by decide +kernel
theorem dX7_turns_25 : decode cX7_turns 25 = .ok (.istore_n 3, 1) := by decide +kernel
theorem dX7_turns_26 : decode cX7_turns 26 = .ok (.iload_n 3, 1) := by decide +kernel
theorem dX7_turns_27 : decode cX7_turns 27 = .ok (.bipush 20, 2) := by decide +kernel
theorem dX7_turns_29 : decode cX7_turns 29 = .ok (.if_icmp .ge 117, 3) := by decide +kernel
theorem dX7_turns_32 : decode cX7_turns 32 = .ok (.aload_n 0, 1) := by decide +kernel
theorem dX7_turns_33 : decode cX7_turns 33 = .ok (.getfield 31, 3) := by decide +kernel
theorem dX7_turns_36 : decode cX7_turns 36 = .ok (.iconst 0, 1) := by decide +kernel
theorem dX7_turns_37 : decode cX7_turns 37 = .ok (.iaload, 1) := by decide +kernel
theorem dX7_turns_38 : decode cX7_turns 38 = .ok (.iload_n 3, 1) := by decide +kernel
theorem dX7_turns_39 : decode cX7_turns 39 = .ok (.isub, 1) := by decide +kernel
theorem dX7_turns_40 : decode cX7_turns 40 = .ok (.ifCond .lt 19, 3) := by decide +kernel
theorem dX7_turns_43 : decode cX7_turns 43 = .ok (.aload_n 0, 1) := by decide +kernel
theorem dX7_turns_44 : decode cX7_turns 44 = .ok (.aload_n 0, 1) := by decide +kernel
theorem dX7_turns_45 : decode cX7_turns 45 = .ok (.invokevirtual 224, 3) := by decide +kernel
theorem dX7_turns_48 : decode cX7_turns 48 = .ok (.iload_n 3, 1) := by decide +kernel
theorem dX7_turns_49 : decode cX7_turns 49 = .ok (.isub, 1) := by decide +kernel
theorem dX7_turns_50 : decode cX7_turns 50 = .ok (.invokevirtual 247, 3) := by decide +kernel
theorem dX7_turns_53 : decode cX7_turns 53 = .ok (.invokestatic 192, 3) := by decide +kernel
theorem dX7_turns_56 : decode cX7_turns 56 = .ok (.goto 4, 3) := by decide +kernel
theorem dX7_turns_59 : decode cX7_turns 59 = .ok (.iconst (-1), 1) := by decide +kernel
theorem dX7_turns_60 : decode cX7_turns 60 = .ok (.istore 4, 2) := by decide +kernel
theorem dX7_turns_62 : decode cX7_turns 62 = .ok (.aload_n 0, 1) := by decide +kernel
theorem dX7_turns_63 : decode cX7_turns 63 = .ok (.getfield 31, 3) := by decide +kernel
theorem dX7_turns_66 : decode cX7_turns 66 = .ok (.aload_n 0, 1) := by decide +kernel
theorem dX7_turns_67 : decode cX7_turns 67 = .ok (.getfield 151, 3) := by decide +kernel
theorem dX7_turns_70 : decode cX7_turns 70 = .ok (.iconst 1, 1) := by decide +kernel
theorem dX7_turns_71 : decode cX7_turns 71 = .ok (.isub, 1) := by decide +kernel
theorem dX7_turns_72 : decode cX7_turns 72 = .ok (.iaload, 1) := by decide +kernel
theorem dX7_turns_73 : decode cX7_turns 73 = .ok (.iload_n 3, 1) := by decide +kernel
theorem dX7_turns_74 : decode cX7_turns 74 = .ok (.iadd, 1) := by decide +kernel
theorem dX7_turns_75 : decode cX7_turns 75 = .ok (.bipush 20, 2) := by decide +kernel
theorem dX7_turns_77 : decode cX7_turns 77 = .ok (.if_icmp .ge 19, 3) := by decide +kernel
theorem dX7_turns_80 : decode cX7_turns 80 = .ok (.aload_n 0, 1) := by decide +kernel
theorem dX7_turns_81 : decode cX7_turns 81 = .ok (.aload_n 0, 1) := by decide +kernel
theorem dX7_turns_82 : decode cX7_turns 82 = .ok (.invokevirtual 224, 3) := by decide +kernel
theorem dX7_turns_85 : decode cX7_turns 85 = .ok (.iload_n 3, 1) := by decide +kernel
theorem dX7_turns_86 : decode cX7_turns 86 = .ok (.iadd, 1) := by decide +kernel
theorem dX7_turns_87 : decode cX7_turns 87 = .ok (.invokevirtual 247, 3) := by decide +kernel
theorem dX7_turns_90 : decode cX7_turns 90 = .ok (.invokestatic 192, 3) := by decide +kernel
theorem dX7_turns_93 : decode cX7_turns 93 = .ok (.goto 4, 3) := by decide +kernel
theorem dX7_turns_96 : decode cX7_turns 96 = .ok (.iconst (-1), 1) := by decide +kernel
theorem dX7_turns_97 : decode cX7_turns 97 = .ok (.istore 5, 2) := by decide +kernel
theorem dX7_turns_99 : decode cX7_turns 99 = .ok (.iload 4, 2) := by decide +kernel
theorem dX7_turns_101 : decode cX7_turns 101 = .ok (.iload 5, 2) := by decide +kernel
theorem dX7_turns_103 : decode cX7_turns 103 = .ok (.if_icmp .le 8, 3) := by decide +kernel
theorem dX7_turns_106 : decode cX7_turns 106 = .ok (.iload 4, 2) := by decide +kernel
theorem dX7_turns_108 : decode cX7_turns 108 = .ok (.goto 5, 3) := by decide +kernel
theorem dX7_turns_111 : decode cX7_turns 111 = .ok (.iload 5, 2) := by decide +kernel
theorem dX7_turns_113 : decode cX7_turns 113 = .ok (.istore 6, 2) := by decide +kernel
theorem dX7_turns_115 : decode cX7_turns 115 = .ok (.iload 6, 2) := by decide +kernel
theorem dX7_turns_117 : decode cX7_turns 117 = .ok (.iload_n 2, 1) := by decide +kernel
theorem dX7_turns_118 : decode cX7_turns 118 = .ok (.if_icmp .le 7, 3) := by decide +kernel
theorem dX7_turns_121 : decode cX7_turns 121 = .ok (.iload_n 3, 1) := by decide +kernel
theorem dX7_turns_122 : decode cX7_turns 122 = .ok (.goto 4, 3) := by decide +kernel
theorem dX7_turns_125 : decode cX7_turns 125 = .ok (.iload_n 1, 1) := by decide +kernel
theorem dX7_turns_126 : decode cX7_turns 126 = .ok (.istore_n 1, 1) := by decide +kernel
theorem dX7_turns_127 : decode cX7_turns 127 = .ok (.iload 6, 2) := by decide +kernel
theorem dX7_turns_129 : decode cX7_turns 129 = .ok (.iload_n 2, 1) := by decide +kernel
theorem dX7_turns_130 : decode cX7_turns 130 = .ok (.if_icmp .le 8, 3) := by decide +kernel
theorem dX7_turns_133 : decode cX7_turns 133 = .ok (.iload 6, 2) := by decide +kernel
theorem dX7_turns_135 : decode cX7_turns 135 = .ok (.goto 4, 3) := by decide +kernel
theorem dX7_turns_138 : decode cX7_turns 138 = .ok (.iload_n 2, 1) := by decide +kernel
theorem dX7_turns_139 : decode cX7_turns 139 = .ok (.istore_n 2, 1) := by decide +kernel
theorem dX7_turns_140 : decode cX7_turns 140 = .ok (.iinc 3 1, 3) := by decide +kernel
theorem dX7_turns_143 : decode cX7_turns 143 = .ok (.goto (-117), 3) := by decide +kernel
theorem dX7_turns_146 : decode cX7_turns 146 = .ok (.aload_n 0, 1) := by decide +kernel
theorem dX7_turns_147 : decode cX7_turns 147 = .ok (.iload_n 2, 1) := by decide +kernel
theorem dX7_turns_148 : decode cX7_turns 148 = .ok (.iload_n 1, 1) := by decide +kernel
theorem dX7_turns_149 : decode cX7_turns 149 = .ok (.invokevirtual 109, 3) := by decide +kernel
theorem dX7_turns_152 : decode cX7_turns 152 = .ok (.ireturn, 1) := by decide +kernel
theorem dX7_askedTrack_0 : decode cX7_askedTrack 0 = .ok (.iload_n 1, 1) := by decide +kernel
theorem dX7_askedTrack_1 : decode cX7_askedTrack 1 = .ok (.iconst 0, 1) := by decide +kernel
theorem dX7_askedTrack_2 : decode cX7_askedTrack 2 = .ok (.iconst 1, 1) := by decide +kernel
theorem dX7_askedTrack_3 : decode cX7_askedTrack 3 = .ok (.aload_n 0, 1) := by decide +kernel
theorem dX7_askedTrack_4 : decode cX7_askedTrack 4 = .ok (.getfield 151, 3) := by decide +kernel
theorem dX7_askedTrack_7 : decode cX7_askedTrack 7 = .ok (.ishl, 1) := by decide +kernel
theorem dX7_askedTrack_8 : decode cX7_askedTrack 8 = .ok (.iconst 1, 1) := by decide +kernel
theorem dX7_askedTrack_9 : decode cX7_askedTrack 9 = .ok (.isub, 1) := by decide +kernel
theorem dX7_askedTrack_10 : decode cX7_askedTrack 10 = .ok (.invokestatic 83, 3) := by decide +kernel
theorem dX7_askedTrack_13 : decode cX7_askedTrack 13 = .ok (.ifCond .eq 17, 3) := by decide +kernel
theorem dX7_askedTrack_16 : decode cX7_askedTrack 16 = .ok (.iload_n 2, 1) := by decide +kernel
theorem dX7_askedTrack_17 : decode cX7_askedTrack 17 = .ok (.invokestatic 289, 3) := by decide +kernel
theorem dX7_askedTrack_20 : decode cX7_askedTrack 20 = .ok (.ifCond .eq 10, 3) := by decide +kernel
theorem dX7_askedTrack_23 : decode cX7_askedTrack 23 = .ok (.iload_n 3, 1) := by decide +kernel
theorem dX7_askedTrack_24 : decode cX7_askedTrack 24 = .ok (.invokestatic 87, 3) := by decide +kernel
theorem dX7_askedTrack_27 : decode cX7_askedTrack 27 = .ok (.ifCond .ne 5, 3) := by decide +kernel
theorem dX7_askedTrack_30 : decode cX7_askedTrack 30 = .ok (.iconst (-1), 1) := by decide +kernel
theorem dX7_askedTrack_31 : decode cX7_askedTrack 31 = .ok (.ireturn, 1) := by decide +kernel
theorem dX7_askedTrack_32 : decode cX7_askedTrack 32 = .ok (.aload_n 0, 1) := by decide +kernel
theorem dX7_askedTrack_33 : decode cX7_askedTrack 33 = .ok (.getfield 151, 3) := by decide +kernel
theorem dX7_askedTrack_36 : decode cX7_askedTrack 36 = .ok (.ifCond .ne 6, 3) := by decide +kernel
theorem dX7_askedTrack_39 : decode cX7_askedTrack 39 = .ok (.bipush (-4), 2) := by decide +kernel
theorem dX7_askedTrack_41 : decode cX7_askedTrack 41 = .ok (.ireturn, 1) := by decide +kernel
theorem dX7_askedTrack_42 : decode cX7_askedTrack 42 = .ok (.iload_n 1, 1) := by decide +kernel
theorem dX7_askedTrack_43 : decode cX7_askedTrack 43 = .ok (.invokestatic 192, 3) := by decide +kernel
theorem dX7_askedTrack_46 : decode cX7_askedTrack 46 = .ok (.iconst 5, 1) := by decide +kernel
theorem dX7_askedTrack_47 : decode cX7_askedTrack 47 = .ok (.if_icmp .le 6, 3) := by decide +kernel
theorem dX7_askedTrack_50 : decode cX7_askedTrack 50 = .ok (.bipush (-6), 2) := by decide +kernel
theorem dX7_askedTrack_52 : decode cX7_askedTrack 52 = .ok (.ireturn, 1) := by decide +kernel
theorem dX7_askedTrack_53 : decode cX7_askedTrack 53 = .ok (.aload_n 0, 1) := by decide +kernel
theorem dX7_askedTrack_54 : decode cX7_askedTrack 54 = .ok (.iload_n 3, 1) := by decide +kernel
theorem dX7_askedTrack_55 : decode cX7_askedTrack 55 = .ok (.invokevirtual 102, 3) := by decide +kernel
theorem dX7_askedTrack_58 : decode cX7_askedTrack 58 = .ok (.istore 4, 2) := by decide +kernel
theorem dX7_askedTrack_60 : decode cX7_askedTrack 60 = .ok (.iload 4, 2) := by decide +kernel
theorem dX7_askedTrack_62 : decode cX7_askedTrack 62 = .ok (.ifCond .ge 6, 3) := by decide +kernel
theorem dX7_askedTrack_65 : decode cX7_askedTrack 65 = .ok (.iload 4, 2) := by decide +kernel
theorem dX7_askedTrack_67 : decode cX7_askedTrack 67 = .ok (.ireturn, 1) := by decide +kernel
theorem dX7_askedTrack_68 : decode cX7_askedTrack 68 = .ok (.aload_n 0, 1) := by decide +kernel
theorem dX7_askedTrack_69 : decode cX7_askedTrack 69 = .ok (.getfield 13, 3) := by decide +kernel
theorem dX7_askedTrack_72 : decode cX7_askedTrack 72 = .ok (.iload_n 3, 1) := by decide +kernel
theorem dX7_askedTrack_73 : decode cX7_askedTrack 73 = .ok (.iaload, 1) := by decide +kernel
theorem dX7_askedTrack_74 : decode cX7_askedTrack 74 = .ok (.aload_n 0, 1) := by decide +kernel
theorem dX7_askedTrack_75 : decode cX7_askedTrack 75 = .ok (.getfield 151, 3) := by decide +kernel
theorem dX7_askedTrack_78 : decode cX7_askedTrack 78 = .ok (.if_icmp .eq 9, 3) := by decide +kernel
theorem dX7_askedTrack_81 : decode cX7_askedTrack 81 = .ok (.aload_n 0, 1) := by decide +kernel
theorem dX7_askedTrack_82 : decode cX7_askedTrack 82 = .ok (.iconst 5, 1) := by decide +kernel
theorem dX7_askedTrack_83 : decode cX7_askedTrack 83 = .ok (.invokevirtual 91, 3) := by decide +kernel
theorem dX7_askedTrack_86 : decode cX7_askedTrack 86 = .ok (.ireturn, 1) := by decide +kernel
theorem dX7_askedTrack_87 : decode cX7_askedTrack 87 = .ok (.iconst 0, 1) := by decide +kernel
theorem dX7_askedTrack_88 : decode cX7_askedTrack 88 = .ok (.istore 5, 2) := by decide +kernel
theorem dX7_askedTrack_90 : decode cX7_askedTrack 90 = .ok (.iload 5, 2) := by decide +kernel
theorem dX7_askedTrack_92 : decode cX7_askedTrack 92 = .ok (.aload_n 0, 1) := by decide +kernel
theorem dX7_askedTrack_93 : decode cX7_askedTrack 93 = .ok (.getfield 151, 3) := by decide +kernel
theorem dX7_askedTrack_96 : decode cX7_askedTrack 96 = .ok (.if_icmp .ge 40, 3) := by decide +kernel
theorem dX7_askedTrack_99 : decode cX7_askedTrack 99 = .ok (.aload_n 0, 1) := by decide +kernel
theorem dX7_askedTrack_100 : decode cX7_askedTrack 100 = .ok (.iload_n 3, 1) := by decide +kernel
theorem dX7_askedTrack_101 : decode cX7_askedTrack 101 = .ok (.iload 5, 2) := by decide +kernel
theorem dX7_askedTrack_103 : decode cX7_askedTrack 103 = .ok (.invokevirtual 105, 3) := by decide +kernel
theorem dX7_askedTrack_106 : decode cX7_askedTrack 106 = .ok (.bipush (-9), 2) := by decide +kernel
theorem dX7_askedTrack_108 : decode cX7_askedTrack 108 = .ok (.if_icmp .eq 22, 3) := by decide +kernel
theorem dX7_askedTrack_111 : decode cX7_askedTrack 111 = .ok (.aload_n 0, 1) := by decide +kernel
theorem dX7_askedTrack_112 : decode cX7_askedTrack 112 = .ok (.iload_n 3, 1) := by decide +kernel
theorem dX7_askedTrack_113 : decode cX7_askedTrack 113 = .ok (.iload 5, 2) := by decide +kernel
theorem dX7_askedTrack_115 : decode cX7_askedTrack 115 = .ok (.invokevirtual 105, 3) := by decide +kernel
theorem dX7_askedTrack_118 : decode cX7_askedTrack 118 = .ok (.invokestatic 204, 3) := by decide +kernel
theorem dX7_askedTrack_121 : decode cX7_askedTrack 121 = .ok (.ifCond .ne 9, 3) := by decide +kernel
theorem dX7_askedTrack_124 : decode cX7_askedTrack 124 = .ok (.aload_n 0, 1) := by decide +kernel
theorem dX7_askedTrack_125 : decode cX7_askedTrack 125 = .ok (.iconst 3, 1) := by decide +kernel
theorem dX7_askedTrack_126 : decode cX7_askedTrack 126 = .ok (.invokevirtual 91, 3) := by decide +kernel
theorem dX7_askedTrack_129 : decode cX7_askedTrack 129 = .ok (.ireturn, 1) := by decide +kernel
theorem dX7_askedTrack_130 : decode cX7_askedTrack 130 = .ok (.iinc 5 1, 3) := by decide +kernel
theorem dX7_askedTrack_133 : decode cX7_askedTrack 133 = .ok (.goto (-43), 3) := by decide +kernel
theorem dX7_askedTrack_136 : decode cX7_askedTrack 136 = .ok (.iconst 0, 1) := by decide +kernel
theorem dX7_askedTrack_137 : decode cX7_askedTrack 137 = .ok (.ireturn, 1) := by decide +kernel
