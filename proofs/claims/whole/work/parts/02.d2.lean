theorem dX6_winds_16 : decode cX6_winds 16 = .ok (.iload_n 2, 1) := by decide +kernel
theorem dX6_winds_17 : decode cX6_winds 17 = .ok (.i2l, 1) := by decide +kernel
theorem dX6_winds_18 : decode cX6_winds 18 = .ok (.ldc2_w 279, 3) := by decide +kernel
theorem dX6_winds_21 : decode cX6_winds 21 = .ok (.lcmp, 1) := by decide +kernel
theorem dX6_winds_22 : decode cX6_winds 22 = .ok (.ifCond .lt 5, 3) := by decide +kernel
theorem dX6_winds_25 : decode cX6_winds 25 = .ok (.iconst (-1), 1) := by decide +kernel
theorem dX6_winds_26 : decode cX6_winds 26 = .ok (.ireturn, 1) := by decide +kernel
theorem dX6_winds_27 : decode cX6_winds 27 = .ok (.aload_n 0, 1) := by decide +kernel
theorem dX6_winds_28 : decode cX6_winds 28 = .ok (.getfield 21, 3) := by decide +kernel
theorem dX6_winds_31 : decode cX6_winds 31 = .ok (.getfield 136, 3) := by decide +kernel
theorem dX6_winds_34 : decode cX6_winds 34 = .ok (.ifCond .ne 6, 3) := by decide +kernel
theorem dX6_winds_37 : decode cX6_winds 37 = .ok (.bipush (-4), 2) := by decide +kernel
theorem dX6_winds_39 : decode cX6_winds 39 = .ok (.ireturn, 1) := by decide +kernel
theorem dX6_winds_40 : decode cX6_winds 40 = .ok (.aload_n 0, 1) := by decide +kernel
theorem dX6_winds_41 : decode cX6_winds 41 = .ok (.getfield 46, 3) := by decide +kernel
theorem dX6_winds_44 : decode cX6_winds 44 = .ok (.aload_n 0, 1) := by decide +kernel
theorem dX6_winds_45 : decode cX6_winds 45 = .ok (.getfield 21, 3) := by decide +kernel
theorem dX6_winds_48 : decode cX6_winds 48 = .ok (.iload_n 1, 1) := by decide +kernel
theorem dX6_winds_49 : decode cX6_winds 49 = .ok (.iload_n 2, 1) := by decide +kernel
theorem dX6_winds_50 : decode cX6_winds 50 = .ok (.invokevirtual 281, 3) := by decide +kernel
theorem dX6_winds_53 : decode cX6_winds 53 = .ok (.istore_n 3, 1) := by decide +kernel
theorem dX6_winds_54 : decode cX6_winds 54 = .ok (.aload_n 0, 1) := by decide +kernel
theorem dX6_winds_55 : decode cX6_winds 55 = .ok (.aload_n 0, 1) := by decide +kernel
theorem dX6_winds_56 : decode cX6_winds 56 = .ok (.getfield 46, 3) := by decide +kernel
theorem dX6_winds_59 : decode cX6_winds 59 = .ok (.getfield 217, 3) := by decide +kernel
theorem dX6_winds_62 : decode cX6_winds 62 = .ok (.putfield 201, 3) := by decide +kernel
theorem dX6_winds_65 : decode cX6_winds 65 = .ok (.iload_n 3, 1) := by decide +kernel
theorem dX6_winds_66 : decode cX6_winds 66 = .ok (.ireturn, 1) := by decide +kernel
theorem dX6_asked_0 : decode cX6_asked 0 = .ok (.aload_n 0, 1) := by decide +kernel
theorem dX6_asked_1 : decode cX6_asked 1 = .ok (.getfield 201, 3) := by decide +kernel
theorem dX6_asked_4 : decode cX6_asked 4 = .ok (.ireturn, 1) := by decide +kernel
theorem dX6_upper_0 : decode cX6_upper 0 = .ok (.aload_n 0, 1) := by decide +kernel
theorem dX6_upper_1 : decode cX6_upper 1 = .ok (.getfield 21, 3) := by decide +kernel
theorem dX6_upper_4 : decode cX6_upper 4 = .ok (.invokevirtual 284, 3) := by decide +kernel
theorem dX6_upper_7 : decode cX6_upper 7 = .ok (.i2l, 1) := by decide +kernel
theorem dX6_upper_8 : decode cX6_upper 8 = .ok (.lstore_n 1, 1) := by decide +kernel
theorem dX6_upper_9 : decode cX6_upper 9 = .ok (.aload_n 0, 1) := by decide +kernel
theorem dX6_upper_10 : decode cX6_upper 10 = .ok (.getfield 21, 3) := by decide +kernel
theorem dX6_upper_13 : decode cX6_upper 13 = .ok (.invokevirtual 287, 3) := by decide +kernel
theorem dX6_upper_16 : decode cX6_upper 16 = .ok (.i2l, 1) := by decide +kernel
theorem dX6_upper_17 : decode cX6_upper 17 = .ok (.lstore_n 3, 1) := by decide +kernel
theorem dX6_upper_18 : decode cX6_upper 18 = .ok (.lload_n 3, 1) := by decide +kernel
theorem dX6_upper_19 : decode cX6_upper 19 = .ok (.lconst 0, 1) := by decide +kernel
theorem dX6_upper_20 : decode cX6_upper 20 = .ok (.lcmp, 1) := by decide +kernel
theorem dX6_upper_21 : decode cX6_upper 21 = .ok (.ifCond .ne 7, 3) := by decide +kernel
theorem dX6_upper_24 : decode cX6_upper 24 = .ok (.lconst 0, 1) := by decide +kernel
theorem dX6_upper_25 : decode cX6_upper 25 = .ok (.goto 10, 3) := by decide +kernel
theorem dX6_upper_28 : decode cX6_upper 28 = .ok (.lload_n 1, 1) := by decide +kernel
theorem dX6_upper_29 : decode cX6_upper 29 = .ok (.lload_n 3, 1) := by decide +kernel
theorem dX6_upper_30 : decode cX6_upper 30 = .ok (.lload_n 1, 1) := by decide +kernel
theorem dX6_upper_31 : decode cX6_upper 31 = .ok (.invokestatic 290, 3) := by decide +kernel
theorem dX6_upper_34 : decode cX6_upper 34 = .ok (.ldiv, 1) := by decide +kernel
theorem dX6_upper_35 : decode cX6_upper 35 = .ok (.lreturn, 1) := by decide +kernel
theorem dX6_lower_0 : decode cX6_lower 0 = .ok (.aload_n 0, 1) := by decide +kernel
theorem dX6_lower_1 : decode cX6_lower 1 = .ok (.getfield 21, 3) := by decide +kernel
theorem dX6_lower_4 : decode cX6_lower 4 = .ok (.invokevirtual 284, 3) := by decide +kernel
theorem dX6_lower_7 : decode cX6_lower 7 = .ok (.i2l, 1) := by decide +kernel
theorem dX6_lower_8 : decode cX6_lower 8 = .ok (.lstore_n 1, 1) := by decide +kernel
theorem dX6_lower_9 : decode cX6_lower 9 = .ok (.aload_n 0, 1) := by decide +kernel
theorem dX6_lower_10 : decode cX6_lower 10 = .ok (.getfield 21, 3) := by decide +kernel
theorem dX6_lower_13 : decode cX6_lower 13 = .ok (.invokevirtual 287, 3) := by decide +kernel
theorem dX6_lower_16 : decode cX6_lower 16 = .ok (.i2l, 1) := by decide +kernel
theorem dX6_lower_17 : decode cX6_lower 17 = .ok (.lstore_n 3, 1) := by decide +kernel
theorem dX6_lower_18 : decode cX6_lower 18 = .ok (.lload_n 3, 1) := by decide +kernel
theorem dX6_lower_19 : decode cX6_lower 19 = .ok (.lconst 0, 1) := by decide +kernel
theorem dX6_lower_20 : decode cX6_lower 20 = .ok (.lcmp, 1) := by decide +kernel
theorem dX6_lower_21 : decode cX6_lower 21 = .ok (.ifCond .ne 7, 3) := by decide +kernel
theorem dX6_lower_24 : decode cX6_lower 24 = .ok (.lconst 1, 1) := by decide +kernel
theorem dX6_lower_25 : decode cX6_lower 25 = .ok (.goto 10, 3) := by decide +kernel
theorem dX6_lower_28 : decode cX6_lower 28 = .ok (.lload_n 3, 1) := by decide +kernel
theorem dX6_lower_29 : decode cX6_lower 29 = .ok (.lload_n 3, 1) := by decide +kernel
theorem dX6_lower_30 : decode cX6_lower 30 = .ok (.lload_n 1, 1) := by decide +kernel
theorem dX6_lower_31 : decode cX6_lower 31 = .ok (.invokestatic 290, 3) := by decide +kernel
theorem dX6_lower_34 : decode cX6_lower 34 = .ok (.ldiv, 1) := by decide +kernel
theorem dX6_lower_35 : decode cX6_lower 35 = .ok (.lreturn, 1) := by decide +kernel
theorem dX6_count_0 : decode cX6_count 0 = .ok (.iload_n 1, 1) := by decide +kernel
theorem dX6_count_1 : decode cX6_count 1 = .ok (.bipush 9, 2) := by decide +kernel
theorem dX6_count_3 : decode cX6_count 3 = .ok (.invokestatic 64, 3) := by decide +kernel
theorem dX6_count_6 : decode cX6_count 6 = .ok (.ifCond .eq 11, 3) := by decide +kernel
theorem dX6_count_9 : decode cX6_count 9 = .ok (.aload_n 0, 1) := by decide +kernel
theorem dX6_count_10 : decode cX6_count 10 = .ok (.iload_n 1, 1) := by decide +kernel
theorem dX6_count_11 : decode cX6_count 11 = .ok (.invokevirtual 294, 3) := by decide +kernel
theorem dX6_count_14 : decode cX6_count 14 = .ok (.goto 4, 3) := by decide +kernel
theorem dX6_count_17 : decode cX6_count 17 = .ok (.iconst (-1), 1) := by decide +kernel
theorem dX6_count_18 : decode cX6_count 18 = .ok (.ireturn, 1) := by decide +kernel
theorem dX6_finding_0 : decode cX6_finding 0 = .ok (.aload_n 0, 1) := by decide +kernel
theorem dX6_finding_1 : decode cX6_finding 1 = .ok (.getfield 297, 3) := by decide +kernel
theorem dX6_finding_4 : decode cX6_finding 4 = .ok (.ireturn, 1) := by decide +kernel
theorem dX6_findings_0 : decode cX6_findings 0 = .ok (.iload_n 1, 1) := by decide +kernel
theorem dX6_findings_1 : decode cX6_findings 1 = .ok (.iconst 1, 1) := by decide +kernel
theorem dX6_findings_2 : decode cX6_findings 2 = .ok (.if_icmp .lt 8, 3) := by decide +kernel
theorem dX6_findings_5 : decode cX6_findings 5 = .ok (.iload_n 1, 1) := by decide +kernel
theorem dX6_findings_6 : decode cX6_findings 6 = .ok (.iconst 5, 1) := by decide +kernel
theorem dX6_findings_7 : decode cX6_findings 7 = .ok (.if_icmp .le 7, 3) := by decide +kernel
theorem dX6_findings_10 : decode cX6_findings 10 = .ok (.iconst (-1), 1) := by decide +kernel
theorem dX6_findings_11 : decode cX6_findings 11 = .ok (.goto 9, 3) := by decide +kernel
theorem dX6_findings_14 : decode cX6_findings 14 = .ok (.aload_n 0, 1) := by decide +kernel
theorem dX6_findings_15 : decode cX6_findings 15 = .ok (.getfield 57, 3) := by decide +kernel
theorem dX6_findings_18 : decode cX6_findings 18 = .ok (.iload_n 1, 1) := by decide +kernel
theorem dX6_findings_19 : decode cX6_findings 19 = .ok (.iaload, 1) := by decide +kernel
theorem dX6_findings_20 : decode cX6_findings 20 = .ok (.ireturn, 1) := by decide +kernel
theorem dX6_digest_0 : decode cX6_digest 0 = .ok (.ldc2_w 300, 3) := by decide +kernel
theorem dX6_digest_3 : decode cX6_digest 3 = .ok (.lstore_n 1, 1) := by decide +kernel
theorem dX6_digest_4 : decode cX6_digest 4 = .ok (.iconst 0, 1) := by decide +kernel
theorem dX6_digest_5 : decode cX6_digest 5 = .ok (.istore_n 3, 1) := by decide +kernel
theorem dX6_digest_6 : decode cX6_digest 6 = .ok (.iload_n 3, 1) := by decide +kernel
theorem dX6_digest_7 : decode cX6_digest 7 = .ok (.bipush 9, 2) := by decide +kernel
theorem dX6_digest_9 : decode cX6_digest 9 = .ok (.if_icmp .ge 22, 3) := by decide +kernel
theorem dX6_digest_12 : decode cX6_digest 12 = .ok (.ldc2_w 302, 3) := by decide +kernel
theorem dX6_digest_15 : decode cX6_digest 15 = .ok (.lload_n 1, 1) := by decide +kernel
theorem dX6_digest_16 : decode cX6_digest 16 = .ok (.lmul, 1) := by decide +kernel
theorem dX6_digest_17 : decode cX6_digest 17 = .ok (.aload_n 0, 1) := by decide +kernel
theorem dX6_digest_18 : decode cX6_digest 18 = .ok (.iload_n 3, 1) := by decide +kernel
theorem dX6_digest_19 : decode cX6_digest 19 = .ok (.invokevirtual 294, 3) := by decide +kernel
theorem dX6_digest_22 : decode cX6_digest 22 = .ok (.i2l, 1) := by decide +kernel
theorem dX6_digest_23 : decode cX6_digest 23 = .ok (.ladd, 1) := by decide +kernel
theorem dX6_digest_24 : decode cX6_digest 24 = .ok (.lstore_n 1, 1) := by decide +kernel
theorem dX6_digest_25 : decode cX6_digest 25 = .ok (.iinc 3 1, 3) := by decide +kernel
theorem dX6_digest_28 : decode cX6_digest 28 = .ok (.goto (-22), 3) := by decide +kernel
theorem dX6_digest_31 : decode cX6_digest 31 = .ok (.ldc2_w 302, 3) := by decide +kernel
theorem dX6_digest_34 : decode cX6_digest 34 = .ok (.lload_n 1, 1) := by decide +kernel
theorem dX6_digest_35 : decode cX6_digest 35 = .ok (.lmul, 1) := by decide +kernel
theorem dX6_digest_36 : decode cX6_digest 36 = .ok (.aload_n 0, 1) := by decide +kernel
theorem dX6_digest_37 : decode cX6_digest 37 = .ok (.getfield 21, 3) := by decide +kernel
theorem dX6_digest_40 : decode cX6_digest 40 = .ok (.getfield 136, 3) := by decide +kernel
theorem dX6_digest_43 : decode cX6_digest 43 = .ok (.ifCond .ne 7, 3) := by decide +kernel
theorem dX6_digest_46 : decode cX6_digest 46 = .ok (.iconst 0, 1) := by decide +kernel
theorem dX6_digest_47 : decode cX6_digest 47 = .ok (.goto 10, 3) := by decide +kernel
theorem dX6_digest_50 : decode cX6_digest 50 = .ok (.aload_n 0, 1) := by decide +kernel
theorem dX6_digest_51 : decode cX6_digest 51 = .ok (.getfield 21, 3) := by decide +kernel
theorem dX6_digest_54 : decode cX6_digest 54 = .ok (.getfield 304, 3) := by decide +kernel
theorem dX6_digest_57 : decode cX6_digest 57 = .ok (.i2l, 1) := by decide +kernel
theorem dX6_digest_58 : decode cX6_digest 58 = .ok (.ladd, 1) := by decide +kernel
theorem dX6_digest_59 : decode cX6_digest 59 = .ok (.lstore_n 1, 1) := by decide +kernel
theorem dX6_digest_60 : decode cX6_digest 60 = .ok (.aload_n 0, 1) := by decide +kernel
theorem dX6_digest_61 : decode cX6_digest 61 = .ok (.getfield 21, 3) := by decide +kernel
theorem dX6_digest_64 : decode cX6_digest 64 = .ok (.lload_n 1, 1) := by decide +kernel
theorem dX6_digest_65 : decode cX6_digest 65 = .ok (.invokevirtual 307, 3) := by decide +kernel
theorem dX6_digest_68 : decode cX6_digest 68 = .ok (.lstore_n 1, 1) := by decide +kernel
theorem dX6_digest_69 : decode cX6_digest 69 = .ok (.ldc2_w 302, 3) := by decide +kernel
theorem dX6_digest_72 : decode cX6_digest 72 = .ok (.lload_n 1, 1) := by decide +kernel
theorem dX6_digest_73 : decode cX6_digest 73 = .ok (.lmul, 1) := by decide +kernel
theorem dX6_digest_74 : decode cX6_digest 74 = .ok (.aload_n 0, 1) := by decide +kernel
theorem dX6_digest_75 : decode cX6_digest 75 = .ok (.getfield 21, 3) := by decide +kernel
theorem dX6_digest_78 : decode cX6_digest 78 = .ok (.getfield 126, 3) := by decide +kernel
theorem dX6_digest_81 : decode cX6_digest 81 = .ok (.aload_n 0, 1) := by decide +kernel
theorem dX6_digest_82 : decode cX6_digest 82 = .ok (.getfield 32, 3) := by decide +kernel
theorem dX6_digest_85 : decode cX6_digest 85 = .ok (.invokevirtual 188, 3) := by decide +kernel
theorem dX6_digest_88 : decode cX6_digest 88 = .ok (.isub, 1) := by decide +kernel
theorem dX6_digest_89 : decode cX6_digest 89 = .ok (.i2l, 1) := by decide +kernel
theorem dX6_digest_90 : decode cX6_digest 90 = .ok (.ladd, 1) := by decide +kernel
theorem dX6_digest_91 : decode cX6_digest 91 = .ok (.lstore_n 1, 1) := by decide +kernel
theorem dX6_digest_92 : decode cX6_digest 92 = .ok (.iconst 0, 1) := by decide +kernel
theorem dX6_digest_93 : decode cX6_digest 93 = .ok (.istore_n 3, 1) := by decide +kernel
theorem dX6_digest_94 : decode cX6_digest 94 = .ok (.iload_n 3, 1) := by decide +kernel
theorem dX6_digest_95 : decode cX6_digest 95 = .ok (.iconst 3, 1) := by decide +kernel
theorem dX6_digest_96 : decode cX6_digest 96 = .ok (.if_icmp .ge 38, 3) := by decide +kernel
theorem dX6_digest_99 : decode cX6_digest 99 = .ok (.ldc2_w 302, 3) := by decide +kernel
theorem dX6_digest_102 : decode cX6_digest 102 = .ok (.lload_n 1, 1) := by decide +kernel
theorem dX6_digest_103 : decode cX6_digest 103 = .ok (.lmul, 1) := by decide +kernel
theorem dX6_digest_104 : decode cX6_digest 104 = .ok (.aload_n 0, 1) := by decide +kernel
theorem dX6_digest_105 : decode cX6_digest 105 = .ok (.iload_n 3, 1) := by decide +kernel
theorem dX6_digest_106 : decode cX6_digest 106 = .ok (.invokevirtual 210, 3) := by decide +kernel
theorem dX6_digest_109 : decode cX6_digest 109 = .ok (.ifCond .eq 15, 3) := by decide +kernel
theorem dX6_digest_112 : decode cX6_digest 112 = .ok (.aload_n 0, 1) := by decide +kernel
theorem dX6_digest_113 : decode cX6_digest 113 = .ok (.getfield 25, 3) := by decide +kernel
theorem dX6_digest_116 : decode cX6_digest 116 = .ok (.iload_n 3, 1) := by decide +kernel
theorem dX6_digest_117 : decode cX6_digest 117 = .ok (.aaload, 1) := by decide +kernel
theorem dX6_digest_118 : decode cX6_digest 118 = .ok (.getfield 126, 3) := by decide +kernel
theorem dX6_digest_121 : decode cX6_digest 121 = .ok (.goto 4, 3) := by decide +kernel
theorem dX6_digest_124 : decode cX6_digest 124 = .ok (.iconst (-1), 1) := by decide +kernel
theorem dX6_digest_125 : decode cX6_digest 125 = .ok (.i2l, 1) := by decide +kernel
theorem dX6_digest_126 : decode cX6_digest 126 = .ok (.ladd, 1) := by decide +kernel
theorem dX6_digest_127 : decode cX6_digest 127 = .ok (.lstore_n 1, 1) := by decide +kernel
theorem dX6_digest_128 : decode cX6_digest 128 = .ok (.iinc 3 1, 3) := by decide +kernel
theorem dX6_digest_131 : decode cX6_digest 131 = .ok (.goto (-37), 3) := by decide +kernel
theorem dX6_digest_134 : decode cX6_digest 134 = .ok (.iconst 0, 1) := by decide +kernel
theorem dX6_digest_135 : decode cX6_digest 135 = .ok (.istore_n 3, 1) := by decide +kernel
theorem dX6_digest_136 : decode cX6_digest 136 = .ok (.iload_n 3, 1) := by decide +kernel
theorem dX6_digest_137 : decode cX6_digest 137 = .ok (.bipush 6, 2) := by decide +kernel
theorem dX6_digest_139 : decode cX6_digest 139 = .ok (.if_icmp .ge 20, 3) := by decide +kernel
theorem dX6_digest_142 : decode cX6_digest 142 = .ok (.aload_n 0, 1) := by decide +kernel
theorem dX6_digest_143 : decode cX6_digest 143 = .ok (.getfield 11, 3) := by decide +kernel
theorem dX6_digest_146 : decode cX6_digest 146 = .ok (.iload_n 3, 1) := by decide +kernel
theorem dX6_digest_147 : decode cX6_digest 147 = .ok (.aaload, 1) := by decide +kernel
theorem dX6_digest_148 : decode cX6_digest 148 = .ok (.lload_n 1, 1) := by decide +kernel
theorem dX6_digest_149 : decode cX6_digest 149 = .ok (.invokevirtual 311, 3) := by decide +kernel
theorem dX6_digest_152 : decode cX6_digest 152 = .ok (.lstore_n 1, 1) := by decide +kernel
theorem dX6_digest_153 : decode cX6_digest 153 = .ok (.iinc 3 1, 3) := by decide +kernel
theorem dX6_digest_156 : decode cX6_digest 156 = .ok (.goto (-20), 3) := by decide +kernel
theorem dX6_digest_159 : decode cX6_digest 159 = .ok (.iconst 0, 1) := by decide +kernel
theorem dX6_digest_160 : decode cX6_digest 160 = .ok (.istore_n 3, 1) := by decide +kernel
theorem dX6_digest_161 : decode cX6_digest 161 = .ok (.iload_n 3, 1) := by decide +kernel
theorem dX6_digest_162 : decode cX6_digest 162 = .ok (.iconst 4, 1) := by decide +kernel
theorem dX6_digest_163 : decode cX6_digest 163 = .ok (.if_icmp .ge 20, 3) := by decide +kernel
theorem dX6_digest_166 : decode cX6_digest 166 = .ok (.aload_n 0, 1) := by decide +kernel
theorem dX6_digest_167 : decode cX6_digest 167 = .ok (.getfield 15, 3) := by decide +kernel
theorem dX6_digest_170 : decode cX6_digest 170 = .ok (.iload_n 3, 1) := by decide +kernel
theorem dX6_digest_171 : decode cX6_digest 171 = .ok (.aaload, 1) := by decide +kernel
theorem dX6_digest_172 : decode cX6_digest 172 = .ok (.lload_n 1, 1) := by decide +kernel
theorem dX6_digest_173 : decode cX6_digest 173 = .ok (.invokevirtual 311, 3) := by decide +kernel
theorem dX6_digest_176 : decode cX6_digest 176 = .ok (.lstore_n 1, 1) := by decide +kernel
theorem dX6_digest_177 : decode cX6_digest 177 = .ok (.iinc 3 1, 3) := by decide +kernel
theorem dX6_digest_180 : decode cX6_digest 180 = .ok (.goto (-19), 3) := by decide +kernel
theorem dX6_digest_183 : decode cX6_digest 183 = .ok (.lload_n 1, 1) := by decide +kernel
theorem dX6_digest_184 : decode cX6_digest 184 = .ok (.lreturn, 1) := by decide +kernel
theorem dX6_refuse_0 : decode cX6_refuse 0 = .ok (.aload_n 0, 1) := by decide +kernel
theorem dX6_refuse_1 : decode cX6_refuse 1 = .ok (.iload_n 1, 1) := by decide +kernel
theorem dX6_refuse_2 : decode cX6_refuse 2 = .ok (.putfield 297, 3) := by decide +kernel
theorem dX6_refuse_5 : decode cX6_refuse 5 = .ok (.aload_n 0, 1) := by decide +kernel
theorem dX6_refuse_6 : decode cX6_refuse 6 = .ok (.getfield 57, 3) := by decide +kernel
theorem dX6_refuse_9 : decode cX6_refuse 9 = .ok (.iload_n 1, 1) := by decide +kernel
theorem dX6_refuse_10 : decode cX6_refuse 10 = .ok (.dup2, 1) := by decide +kernel
theorem dX6_refuse_11 : decode cX6_refuse 11 = .ok (.iaload, 1) := by decide +kernel
theorem dX6_refuse_12 : decode cX6_refuse 12 = .ok (.iconst 1, 1) := by decide +kernel
theorem dX6_refuse_13 : decode cX6_refuse 13 = .ok (.iadd, 1) := by decide +kernel
theorem dX6_refuse_14 : decode cX6_refuse 14 = .ok (.iastore, 1) := by decide +kernel
theorem dX6_refuse_15 : decode cX6_refuse 15 = .ok (.bipush (-3), 2) := by decide +kernel
theorem dX6_refuse_17 : decode cX6_refuse 17 = .ok (.ireturn, 1) := by decide +kernel
theorem dX6_tell_0 : decode cX6_tell 0 = .ok (.aload_n 0, 1) := by decide +kernel
theorem dX6_tell_1 : decode cX6_tell 1 = .ok (.iload_n 1, 1) := by decide +kernel
theorem dX6_tell_2 : decode cX6_tell 2 = .ok (.putfield 201, 3) := by decide +kernel
theorem dX6_tell_5 : decode cX6_tell 5 = .ok (.iconst 1, 1) := by decide +kernel
theorem dX6_tell_6 : decode cX6_tell 6 = .ok (.ireturn, 1) := by decide +kernel
theorem dX6_missingPlace_0 : decode cX6_missingPlace 0 = .ok (.aload_n 1, 1) := by decide +kernel
theorem dX6_missingPlace_1 : decode cX6_missingPlace 1 = .ok (.invokevirtual 90, 3) := by decide +kernel
theorem dX6_missingPlace_4 : decode cX6_missingPlace 4 = .ok (.ifCond .ne 5, 3) := by decide +kernel
theorem dX6_missingPlace_7 : decode cX6_missingPlace 7 = .ok (.iconst 1, 1) := by decide +kernel
theorem dX6_missingPlace_8 : decode cX6_missingPlace 8 = .ok (.ireturn, 1) := by decide +kernel
theorem dX6_missingPlace_9 : decode cX6_missingPlace 9 = .ok (.aload_n 1, 1) := by decide +kernel
theorem dX6_missingPlace_10 : decode cX6_missingPlace 10 = .ok (.iload_n 2, 1) := by decide +kernel
theorem dX6_missingPlace_11 : decode cX6_missingPlace 11 = .ok (.invokevirtual 312, 3) := by decide +kernel
theorem dX6_missingPlace_14 : decode cX6_missingPlace 14 = .ok (.ifCond .eq 7, 3) := by decide +kernel
theorem dX6_missingPlace_17 : decode cX6_missingPlace 17 = .ok (.iconst 0, 1) := by decide +kernel
theorem dX6_missingPlace_18 : decode cX6_missingPlace 18 = .ok (.goto 4, 3) := by decide +kernel
theorem dX6_missingPlace_21 : decode cX6_missingPlace 21 = .ok (.iconst 2, 1) := by decide +kernel
theorem dX6_missingPlace_22 : decode cX6_missingPlace 22 = .ok (.ireturn, 1) := by decide +kernel
theorem dX6_refuseTrack_0 : decode cX6_refuseTrack 0 = .ok (.aload_n 0, 1) := by decide +kernel
theorem dX6_refuseTrack_1 : decode cX6_refuseTrack 1 = .ok (.getfield 21, 3) := by decide +kernel
theorem dX6_refuseTrack_4 : decode cX6_refuseTrack 4 = .ok (.getfield 136, 3) := by decide +kernel
theorem dX6_refuseTrack_7 : decode cX6_refuseTrack 7 = .ok (.ifCond .ne 6, 3) := by decide +kernel
theorem dX6_refuseTrack_10 : decode cX6_refuseTrack 10 = .ok (.bipush (-4), 2) := by decide +kernel
theorem dX6_refuseTrack_12 : decode cX6_refuseTrack 12 = .ok (.ireturn, 1) := by decide +kernel
theorem dX6_refuseTrack_13 : decode cX6_refuseTrack 13 = .ok (.iload_n 1, 1) := by decide +kernel
theorem dX6_refuseTrack_14 : decode cX6_refuseTrack 14 = .ok (.invokestatic 244, 3) := by decide +kernel
theorem dX6_refuseTrack_17 : decode cX6_refuseTrack 17 = .ok (.iconst 5, 1) := by decide +kernel
theorem dX6_refuseTrack_18 : decode cX6_refuseTrack 18 = .ok (.if_icmp .le 6, 3) := by decide +kernel
theorem dX6_refuseTrack_21 : decode cX6_refuseTrack 21 = .ok (.bipush (-6), 2) := by decide +kernel
theorem dX6_refuseTrack_23 : decode cX6_refuseTrack 23 = .ok (.ireturn, 1) := by decide +kernel
theorem dX6_refuseTrack_24 : decode cX6_refuseTrack 24 = .ok (.aload_n 2, 1) := by decide +kernel
theorem dX6_refuseTrack_25 : decode cX6_refuseTrack 25 = .ok (.invokevirtual 90, 3) := by decide +kernel
theorem dX6_refuseTrack_28 : decode cX6_refuseTrack 28 = .ok (.ifCond .ne 9, 3) := by decide +kernel
theorem dX6_refuseTrack_31 : decode cX6_refuseTrack 31 = .ok (.aload_n 0, 1) := by decide +kernel
theorem dX6_refuseTrack_32 : decode cX6_refuseTrack 32 = .ok (.iconst 1, 1) := by decide +kernel
theorem dX6_refuseTrack_33 : decode cX6_refuseTrack 33 = .ok (.invokevirtual 68, 3) := by decide +kernel
theorem dX6_refuseTrack_36 : decode cX6_refuseTrack 36 = .ok (.ireturn, 1) := by decide +kernel
theorem dX6_refuseTrack_37 : decode cX6_refuseTrack 37 = .ok (.aload_n 2, 1) := by decide +kernel
theorem dX6_refuseTrack_38 : decode cX6_refuseTrack 38 = .ok (.invokevirtual 104, 3) := by decide +kernel
theorem dX6_refuseTrack_41 : decode cX6_refuseTrack 41 = .ok (.aload_n 0, 1) := by decide +kernel
theorem dX6_refuseTrack_42 : decode cX6_refuseTrack 42 = .ok (.getfield 21, 3) := by decide +kernel
theorem dX6_refuseTrack_45 : decode cX6_refuseTrack 45 = .ok (.getfield 136, 3) := by decide +kernel
theorem dX6_refuseTrack_48 : decode cX6_refuseTrack 48 = .ok (.if_icmp .eq 9, 3) := by decide +kernel
theorem dX6_refuseTrack_51 : decode cX6_refuseTrack 51 = .ok (.aload_n 0, 1) := by decide +kernel
theorem dX6_refuseTrack_52 : decode cX6_refuseTrack 52 = .ok (.iconst 5, 1) := by decide +kernel
theorem dX6_refuseTrack_53 : decode cX6_refuseTrack 53 = .ok (.invokevirtual 68, 3) := by decide +kernel
theorem dX6_refuseTrack_56 : decode cX6_refuseTrack 56 = .ok (.ireturn, 1) := by decide +kernel
theorem dX6_refuseTrack_57 : decode cX6_refuseTrack 57 = .ok (.iconst 0, 1) := by decide +kernel
theorem dX6_refuseTrack_58 : decode cX6_refuseTrack 58 = .ok (.istore_n 3, 1) := by decide +kernel
theorem dX6_refuseTrack_59 : decode cX6_refuseTrack 59 = .ok (.iload_n 3, 1) := by decide +kernel
theorem dX6_refuseTrack_60 : decode cX6_refuseTrack 60 = .ok (.aload_n 0, 1) := by decide +kernel
theorem dX6_refuseTrack_61 : decode cX6_refuseTrack 61 = .ok (.getfield 21, 3) := by decide +kernel
theorem dX6_refuseTrack_64 : decode cX6_refuseTrack 64 = .ok (.getfield 136, 3) := by decide +kernel
theorem dX6_refuseTrack_67 : decode cX6_refuseTrack 67 = .ok (.if_icmp .ge 38, 3) := by decide +kernel
theorem dX6_refuseTrack_70 : decode cX6_refuseTrack 70 = .ok (.aload_n 2, 1) := by decide +kernel
theorem dX6_refuseTrack_71 : decode cX6_refuseTrack 71 = .ok (.iload_n 3, 1) := by decide +kernel
theorem dX6_refuseTrack_72 : decode cX6_refuseTrack 72 = .ok (.invokevirtual 87, 3) := by decide +kernel
theorem dX6_refuseTrack_75 : decode cX6_refuseTrack 75 = .ok (.bipush (-9), 2) := by decide +kernel
theorem dX6_refuseTrack_77 : decode cX6_refuseTrack 77 = .ok (.if_icmp .eq 22, 3) := by decide +kernel
theorem dX6_refuseTrack_80 : decode cX6_refuseTrack 80 = .ok (.aload_n 2, 1) := by decide +kernel
theorem dX6_refuseTrack_81 : decode cX6_refuseTrack 81 = .ok (.iload_n 3, 1) := by decide +kernel
theorem dX6_refuseTrack_82 : decode cX6_refuseTrack 82 = .ok (.invokevirtual 87, 3) := by decide +kernel
theorem dX6_refuseTrack_85 : decode cX6_refuseTrack 85 = .ok (.bipush 20, 2) := by decide +kernel
theorem dX6_refuseTrack_87 : decode cX6_refuseTrack 87 = .ok (.invokestatic 64, 3) := by decide +kernel
theorem dX6_refuseTrack_90 : decode cX6_refuseTrack 90 = .ok (.ifCond .ne 9, 3) := by decide +kernel
theorem dX6_refuseTrack_93 : decode cX6_refuseTrack 93 = .ok (.aload_n 0, 1) := by decide +kernel
theorem dX6_refuseTrack_94 : decode cX6_refuseTrack 94 = .ok (.iconst 3, 1) := by decide +kernel
theorem dX6_refuseTrack_95 : decode cX6_refuseTrack 95 = .ok (.invokevirtual 68, 3) := by decide +kernel
theorem dX6_refuseTrack_98 : decode cX6_refuseTrack 98 = .ok (.ireturn, 1) := by decide +kernel
theorem dX6_refuseTrack_99 : decode cX6_refuseTrack 99 = .ok (.iinc 3 1, 3) := by decide +kernel
theorem dX6_refuseTrack_102 : decode cX6_refuseTrack 102 = .ok (.goto (-43), 3) := by decide +kernel
theorem dX6_refuseTrack_105 : decode cX6_refuseTrack 105 = .ok (.iconst 0, 1) := by decide +kernel
theorem dX6_refuseTrack_106 : decode cX6_refuseTrack 106 = .ok (.ireturn, 1) := by decide +kernel
theorem dX6_isBuyer_0 : decode cX6_isBuyer 0 = .ok (.iload_n 1, 1) := by decide +kernel
theorem dX6_isBuyer_1 : decode cX6_isBuyer 1 = .ok (.aload_n 0, 1) := by decide +kernel
theorem dX6_isBuyer_2 : decode cX6_isBuyer 2 = .ok (.getfield 21, 3) := by decide +kernel
theorem dX6_isBuyer_5 : decode cX6_isBuyer 5 = .ok (.getfield 136, 3) := by decide +kernel
theorem dX6_isBuyer_8 : decode cX6_isBuyer 8 = .ok (.invokestatic 64, 3) := by decide +kernel
theorem dX6_isBuyer_11 : decode cX6_isBuyer 11 = .ok (.ireturn, 1) := by decide +kernel
theorem dX6_isStall_0 : decode cX6_isStall 0 = .ok (.iload_n 1, 1) := by decide +kernel
theorem dX6_isStall_1 : decode cX6_isStall 1 = .ok (.aload_n 0, 1) := by decide +kernel
theorem dX6_isStall_2 : decode cX6_isStall 2 = .ok (.getfield 21, 3) := by decide +kernel
theorem dX6_isStall_5 : decode cX6_isStall 5 = .ok (.getfield 315, 3) := by decide +kernel
theorem dX6_isStall_8 : decode cX6_isStall 8 = .ok (.invokestatic 64, 3) := by decide +kernel
theorem dX6_isStall_11 : decode cX6_isStall 11 = .ok (.ireturn, 1) := by decide +kernel
theorem dX6_isSetOfBuyers_0 : decode cX6_isSetOfBuyers 0 = .ok (.iload_n 1, 1) := by decide +kernel
theorem dX6_isSetOfBuyers_1 : decode cX6_isSetOfBuyers 1 = .ok (.iconst 1, 1) := by decide +kernel
theorem dX6_isSetOfBuyers_2 : decode cX6_isSetOfBuyers 2 = .ok (.aload_n 0, 1) := by decide +kernel
theorem dX6_isSetOfBuyers_3 : decode cX6_isSetOfBuyers 3 = .ok (.getfield 21, 3) := by decide +kernel
theorem dX6_isSetOfBuyers_6 : decode cX6_isSetOfBuyers 6 = .ok (.getfield 136, 3) := by decide +kernel
theorem dX6_isSetOfBuyers_9 : decode cX6_isSetOfBuyers 9 = .ok (.ishl, 1) := by decide +kernel
theorem dX6_isSetOfBuyers_10 : decode cX6_isSetOfBuyers 10 = .ok (.invokestatic 64, 3) := by decide +kernel
theorem dX6_isSetOfBuyers_13 : decode cX6_isSetOfBuyers 13 = .ok (.ireturn, 1) := by decide +kernel
theorem dX6_isKept_0 : decode cX6_isKept 0 = .ok (.aload_n 0, 1) := by decide +kernel
theorem dX6_isKept_1 : decode cX6_isKept 1 = .ok (.getfield 25, 3) := by decide +kernel
theorem dX6_isKept_4 : decode cX6_isKept 4 = .ok (.iload_n 1, 1) := by decide +kernel
theorem dX6_isKept_5 : decode cX6_isKept 5 = .ok (.aaload, 1) := by decide +kernel
theorem dX6_isKept_6 : decode cX6_isKept 6 = .ok (.getfield 136, 3) := by decide +kernel
theorem dX6_isKept_9 : decode cX6_isKept 9 = .ok (.ifCond .le 7, 3) := by decide +kernel
theorem dX6_isKept_12 : decode cX6_isKept 12 = .ok (.iconst 1, 1) := by decide +kernel
theorem dX6_isKept_13 : decode cX6_isKept 13 = .ok (.goto 4, 3) := by decide +kernel
theorem dX6_isKept_16 : decode cX6_isKept 16 = .ok (.iconst 0, 1) := by decide +kernel
theorem dX6_isKept_17 : decode cX6_isKept 17 = .ok (.ireturn, 1) := by decide +kernel
theorem dX6_numberOf_0 : decode cX6_numberOf 0 = .ok (.iload_n 1, 1) := by decide +kernel
theorem dX6_numberOf_1 : decode cX6_numberOf 1 = .ok (.tableswitch 110 0 7 #[47, 55, 63, 71, 80, 89, 94, 102], 47) := by decide +kernel
theorem dX6_numberOf_48 : decode cX6_numberOf 48 = .ok (.aload_n 0, 1) := by decide +kernel
theorem dX6_numberOf_49 : decode cX6_numberOf 49 = .ok (.getfield 21, 3) := by decide +kernel
theorem dX6_numberOf_52 : decode cX6_numberOf 52 = .ok (.getfield 136, 3) := by decide +kernel
theorem dX6_numberOf_55 : decode cX6_numberOf 55 = .ok (.ireturn, 1) := by decide +kernel
theorem dX6_numberOf_56 : decode cX6_numberOf 56 = .ok (.aload_n 0, 1) := by decide +kernel
theorem dX6_numberOf_57 : decode cX6_numberOf 57 = .ok (.getfield 21, 3) := by decide +kernel
theorem dX6_numberOf_60 : decode cX6_numberOf 60 = .ok (.getfield 315, 3) := by decide +kernel
theorem dX6_numberOf_63 : decode cX6_numberOf 63 = .ok (.ireturn, 1) := by decide +kernel
theorem dX6_numberOf_64 : decode cX6_numberOf 64 = .ok (.aload_n 0, 1) := by decide +kernel
theorem dX6_numberOf_65 : decode cX6_numberOf 65 = .ok (.getfield 21, 3) := by decide +kernel
theorem dX6_numberOf_68 : decode cX6_numberOf 68 = .ok (.getfield 126, 3) := by decide +kernel
theorem dX6_numberOf_71 : decode cX6_numberOf 71 = .ok (.ireturn, 1) := by decide +kernel
theorem dX6_numberOf_72 : decode cX6_numberOf 72 = .ok (.aload_n 0, 1) := by decide +kernel
theorem dX6_numberOf_73 : decode cX6_numberOf 73 = .ok (.getfield 21, 3) := by decide +kernel
theorem dX6_numberOf_76 : decode cX6_numberOf 76 = .ok (.iconst 1, 1) := by decide +kernel
theorem dX6_numberOf_77 : decode cX6_numberOf 77 = .ok (.invokevirtual 318, 3) := by decide +kernel
theorem dX6_numberOf_80 : decode cX6_numberOf 80 = .ok (.ireturn, 1) := by decide +kernel
theorem dX6_numberOf_81 : decode cX6_numberOf 81 = .ok (.aload_n 0, 1) := by decide +kernel
theorem dX6_numberOf_82 : decode cX6_numberOf 82 = .ok (.getfield 21, 3) := by decide +kernel
theorem dX6_numberOf_85 : decode cX6_numberOf 85 = .ok (.iconst 2, 1) := by decide +kernel
theorem dX6_numberOf_86 : decode cX6_numberOf 86 = .ok (.invokevirtual 318, 3) := by decide +kernel
theorem dX6_numberOf_89 : decode cX6_numberOf 89 = .ok (.ireturn, 1) := by decide +kernel
theorem dX6_numberOf_90 : decode cX6_numberOf 90 = .ok (.aload_n 0, 1) := by decide +kernel
theorem dX6_numberOf_91 : decode cX6_numberOf 91 = .ok (.invokevirtual 321, 3) := by decide +kernel
theorem dX6_numberOf_94 : decode cX6_numberOf 94 = .ok (.ireturn, 1) := by decide +kernel
theorem dX6_numberOf_95 : decode cX6_numberOf 95 = .ok (.aload_n 0, 1) := by decide +kernel
theorem dX6_numberOf_96 : decode cX6_numberOf 96 = .ok (.getfield 11, 3) := by decide +kernel
theorem dX6_numberOf_99 : decode cX6_numberOf 99 = .ok (.invokestatic 324, 3) := by decide +kernel
theorem dX6_numberOf_102 : decode cX6_numberOf 102 = .ok (.ireturn, 1) := by decide +kernel
theorem dX6_numberOf_103 : decode cX6_numberOf 103 = .ok (.aload_n 0, 1) := by decide +kernel
theorem dX6_numberOf_104 : decode cX6_numberOf 104 = .ok (.getfield 15, 3) := by decide +kernel
theorem dX6_numberOf_107 : decode cX6_numberOf 107 = .ok (.invokestatic 324, 3) := by decide +kernel
theorem dX6_numberOf_110 : decode cX6_numberOf 110 = .ok (.ireturn, 1) := by decide +kernel
theorem dX6_numberOf_111 : decode cX6_numberOf 111 = .ok (.aload_n 0, 1) := by decide +kernel
theorem dX6_numberOf_112 : decode cX6_numberOf 112 = .ok (.getfield 21, 3) := by decide +kernel
theorem dX6_numberOf_115 : decode cX6_numberOf 115 = .ok (.invokevirtual 328, 3) := by decide +kernel
theorem dX6_numberOf_118 : decode cX6_numberOf 118 = .ok (.ireturn, 1) := by decide +kernel
theorem dX6_howManyKept_0 : decode cX6_howManyKept 0 = .ok (.iconst 0, 1) := by decide +kernel
theorem dX6_howManyKept_1 : decode cX6_howManyKept 1 = .ok (.istore_n 1, 1) := by decide +kernel
theorem dX6_howManyKept_2 : decode cX6_howManyKept 2 = .ok (.iconst 0, 1) := by decide +kernel
theorem dX6_howManyKept_3 : decode cX6_howManyKept 3 = .ok (.istore_n 2, 1) := by decide +kernel
theorem dX6_howManyKept_4 : decode cX6_howManyKept 4 = .ok (.iload_n 2, 1) := by decide +kernel
theorem dX6_howManyKept_5 : decode cX6_howManyKept 5 = .ok (.iconst 3, 1) := by decide +kernel
theorem dX6_howManyKept_6 : decode cX6_howManyKept 6 = .ok (.if_icmp .ge 25, 3) := by decide +kernel
theorem dX6_howManyKept_9 : decode cX6_howManyKept 9 = .ok (.iload_n 1, 1) := by decide +kernel
theorem dX6_howManyKept_10 : decode cX6_howManyKept 10 = .ok (.aload_n 0, 1) := by decide +kernel
theorem dX6_howManyKept_11 : decode cX6_howManyKept 11 = .ok (.iload_n 2, 1) := by decide +kernel
theorem dX6_howManyKept_12 : decode cX6_howManyKept 12 = .ok (.invokevirtual 210, 3) := by decide +kernel
theorem dX6_howManyKept_15 : decode cX6_howManyKept 15 = .ok (.ifCond .eq 7, 3) := by decide +kernel
theorem dX6_howManyKept_18 : decode cX6_howManyKept 18 = .ok (.iconst 1, 1) := by decide +kernel
theorem dX6_howManyKept_19 : decode cX6_howManyKept 19 = .ok (.goto 4, 3) := by decide +kernel
theorem dX6_howManyKept_22 : decode cX6_howManyKept 22 = .ok (.iconst 0, 1) := by decide +kernel
theorem dX6_howManyKept_23 : decode cX6_howManyKept 23 = .ok (.iadd, 1) := by decide +kernel
theorem dX6_howManyKept_24 : decode cX6_howManyKept 24 = .ok (.istore_n 1, 1) := by decide +kernel
theorem dX6_howManyKept_25 : decode cX6_howManyKept 25 = .ok (.iinc 2 1, 3) := by decide +kernel
theorem dX6_howManyKept_28 : decode cX6_howManyKept 28 = .ok (.goto (-24), 3) := by decide +kernel
theorem dX6_howManyKept_31 : decode cX6_howManyKept 31 = .ok (.iload_n 1, 1) := by decide +kernel
theorem dX6_howManyKept_32 : decode cX6_howManyKept 32 = .ok (.ireturn, 1) := by decide +kernel
theorem dX6_howManyThere_0 : decode cX6_howManyThere 0 = .ok (.iconst 0, 1) := by decide +kernel
theorem dX6_howManyThere_1 : decode cX6_howManyThere 1 = .ok (.istore_n 1, 1) := by decide +kernel
theorem dX6_howManyThere_2 : decode cX6_howManyThere 2 = .ok (.aload_n 0, 1) := by decide +kernel
theorem dX6_howManyThere_3 : decode cX6_howManyThere 3 = .ok (.astore_n 2, 1) := by decide +kernel
theorem dX6_howManyThere_4 : decode cX6_howManyThere 4 = .ok (.aload_n 2, 1) := by decide +kernel
theorem dX6_howManyThere_5 : decode cX6_howManyThere 5 = .ok (.arraylength, 1) := by decide +kernel
theorem dX6_howManyThere_6 : decode cX6_howManyThere 6 = .ok (.istore_n 3, 1) := by decide +kernel
theorem dX6_howManyThere_7 : decode cX6_howManyThere 7 = .ok (.iconst 0, 1) := by decide +kernel
theorem dX6_howManyThere_8 : decode cX6_howManyThere 8 = .ok (.istore 4, 2) := by decide +kernel
theorem dX6_howManyThere_10 : decode cX6_howManyThere 10 = .ok (.iload 4, 2) := by decide +kernel
theorem dX6_howManyThere_12 : decode cX6_howManyThere 12 = .ok (.iload_n 3, 1) := by decide +kernel
theorem dX6_howManyThere_13 : decode cX6_howManyThere 13 = .ok (.if_icmp .ge 31, 3) := by decide +kernel
theorem dX6_howManyThere_16 : decode cX6_howManyThere 16 = .ok (.aload_n 2, 1) := by decide +kernel
theorem dX6_howManyThere_17 : decode cX6_howManyThere 17 = .ok (.iload 4, 2) := by decide +kernel
theorem dX6_howManyThere_19 : decode cX6_howManyThere 19 = .ok (.aaload, 1) := by decide +kernel
theorem dX6_howManyThere_20 : decode cX6_howManyThere 20 = .ok (.astore 5, 2) := by decide +kernel
theorem dX6_howManyThere_22 : decode cX6_howManyThere 22 = .ok (.iload_n 1, 1) := by decide +kernel
theorem dX6_howManyThere_23 : decode cX6_howManyThere 23 = .ok (.aload 5, 2) := by decide +kernel
theorem dX6_howManyThere_25 : decode cX6_howManyThere 25 = .ok (.invokevirtual 90, 3) := by decide +kernel
theorem dX6_howManyThere_28 : decode cX6_howManyThere 28 = .ok (.ifCond .eq 7, 3) := by decide +kernel
theorem dX6_howManyThere_31 : decode cX6_howManyThere 31 = .ok (.iconst 1, 1) := by decide +kernel
theorem dX6_howManyThere_32 : decode cX6_howManyThere 32 = .ok (.goto 4, 3) := by decide +kernel
theorem dX6_howManyThere_35 : decode cX6_howManyThere 35 = .ok (.iconst 0, 1) := by decide +kernel
theorem dX6_howManyThere_36 : decode cX6_howManyThere 36 = .ok (.iadd, 1) := by decide +kernel
theorem dX6_howManyThere_37 : decode cX6_howManyThere 37 = .ok (.istore_n 1, 1) := by decide +kernel
theorem dX6_howManyThere_38 : decode cX6_howManyThere 38 = .ok (.iinc 4 1, 3) := by decide +kernel
theorem dX6_howManyThere_41 : decode cX6_howManyThere 41 = .ok (.goto (-31), 3) := by decide +kernel
theorem dX6_howManyThere_44 : decode cX6_howManyThere 44 = .ok (.iload_n 1, 1) := by decide +kernel
theorem dX6_howManyThere_45 : decode cX6_howManyThere 45 = .ok (.ireturn, 1) := by decide +kernel
theorem dX6_isWithin_0 : decode cX6_isWithin 0 = .ok (.iload_n 0, 1) := by decide +kernel
theorem dX6_isWithin_1 : decode cX6_isWithin 1 = .ok (.ifCond .lt 12, 3) := by decide +kernel
theorem dX6_isWithin_4 : decode cX6_isWithin 4 = .ok (.iload_n 0, 1) := by decide +kernel
theorem dX6_isWithin_5 : decode cX6_isWithin 5 = .ok (.iload_n 1, 1) := by decide +kernel
theorem dX6_isWithin_6 : decode cX6_isWithin 6 = .ok (.if_icmp .ge 7, 3) := by decide +kernel
theorem dX6_isWithin_9 : decode cX6_isWithin 9 = .ok (.iconst 1, 1) := by decide +kernel
theorem dX6_isWithin_10 : decode cX6_isWithin 10 = .ok (.goto 4, 3) := by decide +kernel
theorem dX6_isWithin_13 : decode cX6_isWithin 13 = .ok (.iconst 0, 1) := by decide +kernel
theorem dX6_isWithin_14 : decode cX6_isWithin 14 = .ok (.ireturn, 1) := by decide +kernel
theorem dX6_isUpTo_0 : decode cX6_isUpTo 0 = .ok (.iload_n 0, 1) := by decide +kernel
theorem dX6_isUpTo_1 : decode cX6_isUpTo 1 = .ok (.ifCond .lt 12, 3) := by decide +kernel
theorem dX6_isUpTo_4 : decode cX6_isUpTo 4 = .ok (.iload_n 0, 1) := by decide +kernel
theorem dX6_isUpTo_5 : decode cX6_isUpTo 5 = .ok (.iload_n 1, 1) := by decide +kernel
theorem dX6_isUpTo_6 : decode cX6_isUpTo 6 = .ok (.if_icmp .gt 7, 3) := by decide +kernel
theorem dX6_isUpTo_9 : decode cX6_isUpTo 9 = .ok (.iconst 1, 1) := by decide +kernel
theorem dX6_isUpTo_10 : decode cX6_isUpTo 10 = .ok (.goto 4, 3) := by decide +kernel
theorem dX6_isUpTo_13 : decode cX6_isUpTo 13 = .ok (.iconst 0, 1) := by decide +kernel
theorem dX6_isUpTo_14 : decode cX6_isUpTo 14 = .ok (.ireturn, 1) := by decide +kernel
theorem dX6_isIn_0 : decode cX6_isIn 0 = .ok (.iload_n 0, 1) := by decide +kernel
theorem dX6_isIn_1 : decode cX6_isIn 1 = .ok (.iload_n 1, 1) := by decide +kernel
theorem dX6_isIn_2 : decode cX6_isIn 2 = .ok (.ishr, 1) := by decide +kernel
theorem dX6_isIn_3 : decode cX6_isIn 3 = .ok (.iconst 1, 1) := by decide +kernel
theorem dX6_isIn_4 : decode cX6_isIn 4 = .ok (.iand, 1) := by decide +kernel
theorem dX6_isIn_5 : decode cX6_isIn 5 = .ok (.ifCond .eq 7, 3) := by decide +kernel
theorem dX6_isIn_8 : decode cX6_isIn 8 = .ok (.iconst 1, 1) := by decide +kernel
theorem dX6_isIn_9 : decode cX6_isIn 9 = .ok (.goto 4, 3) := by decide +kernel
theorem dX6_isIn_12 : decode cX6_isIn 12 = .ok (.iconst 0, 1) := by decide +kernel
theorem dX6_isIn_13 : decode cX6_isIn 13 = .ok (.ireturn, 1) := by decide +kernel
theorem dX6_commonDivisor_0 : decode cX6_commonDivisor 0 = .ok (.iconst 0, 1) := by decide +kernel
theorem dX6_commonDivisor_1 : decode cX6_commonDivisor 1 = .ok (.istore 4, 2) := by decide +kernel
theorem dX6_commonDivisor_3 : decode cX6_commonDivisor 3 = .ok (.iload 4, 2) := by decide +kernel
theorem dX6_commonDivisor_5 : decode cX6_commonDivisor 5 = .ok (.bipush 100, 2) := by decide +kernel
theorem dX6_commonDivisor_7 : decode cX6_commonDivisor 7 = .ok (.if_icmp .ge 25, 3) := by decide +kernel
theorem dX6_commonDivisor_10 : decode cX6_commonDivisor 10 = .ok (.lload_n 2, 1) := by decide +kernel
theorem dX6_commonDivisor_11 : decode cX6_commonDivisor 11 = .ok (.lconst 0, 1) := by decide +kernel
theorem dX6_commonDivisor_12 : decode cX6_commonDivisor 12 = .ok (.lcmp, 1) := by decide +kernel
theorem dX6_commonDivisor_13 : decode cX6_commonDivisor 13 = .ok (.ifCond .eq 19, 3) := by decide +kernel
theorem dX6_commonDivisor_16 : decode cX6_commonDivisor 16 = .ok (.lload_n 0, 1) := by decide +kernel
theorem dX6_commonDivisor_17 : decode cX6_commonDivisor 17 = .ok (.lload_n 2, 1) := by decide +kernel
theorem dX6_commonDivisor_18 : decode cX6_commonDivisor 18 = .ok (.lrem, 1) := by decide +kernel
theorem dX6_commonDivisor_19 : decode cX6_commonDivisor 19 = .ok (.lstore 5, 2) := by decide +kernel
theorem dX6_commonDivisor_21 : decode cX6_commonDivisor 21 = .ok (.lload_n 2, 1) := by decide +kernel
theorem dX6_commonDivisor_22 : decode cX6_commonDivisor 22 = .ok (.lstore_n 0, 1) := by decide +kernel
theorem dX6_commonDivisor_23 : decode cX6_commonDivisor 23 = .ok (.lload 5, 2) := by decide +kernel
theorem dX6_commonDivisor_25 : decode cX6_commonDivisor 25 = .ok (.lstore_n 2, 1) := by decide +kernel
theorem dX6_commonDivisor_26 : decode cX6_commonDivisor 26 = .ok (.iinc 4 1, 3) := by decide +kernel
theorem dX6_commonDivisor_29 : decode cX6_commonDivisor 29 = .ok (.goto (-26), 3) := by decide +kernel
theorem dX6_commonDivisor_32 : decode cX6_commonDivisor 32 = .ok (.lload_n 0, 1) := by decide +kernel
theorem dX6_commonDivisor_33 : decode cX6_commonDivisor 33 = .ok (.lconst 1, 1) := by decide +kernel
theorem dX6_commonDivisor_34 : decode cX6_commonDivisor 34 = .ok (.invokestatic 331, 3) := by decide +kernel
theorem dX6_commonDivisor_37 : decode cX6_commonDivisor 37 = .ok (.lreturn, 1) := by decide +kernel
theorem dX7_init_0 : decode cX7_init 0 = .ok (.aload_n 0, 1) := by decide +kernel
theorem dX7_init_1 : decode cX7_init 1 = .ok (.invokespecial 1, 3) := by decide +kernel
theorem dX7_init_4 : decode cX7_init 4 = .ok (.aload_n 0, 1) := by decide +kernel
theorem dX7_init_5 : decode cX7_init 5 = .ok (.bipush 6, 2) := by decide +kernel
theorem dX7_init_7 : decode cX7_init 7 = .ok (.newarray .int, 2) := by decide +kernel
theorem dX7_init_9 : decode cX7_init 9 = .ok (.putfield 7, 3) := by decide +kernel
theorem dX7_init_12 : decode cX7_init 12 = .ok (.aload_n 0, 1) := by decide +kernel
theorem dX7_init_13 : decode cX7_init 13 = .ok (.bipush 6, 2) := by decide +kernel
theorem dX7_init_15 : decode cX7_init 15 = .ok (.newarray .int, 2) := by decide +kernel
theorem dX7_init_17 : decode cX7_init 17 = .ok (.putfield 13, 3) := by decide +kernel
theorem dX7_init_20 : decode cX7_init 20 = .ok (.aload_n 0, 1) := by decide +kernel
theorem dX7_init_21 : decode cX7_init 21 = .ok (.sipush 240, 3) := by decide +kernel
theorem dX7_init_24 : decode cX7_init 24 = .ok (.newarray .int, 2) := by decide +kernel
theorem dX7_init_26 : decode cX7_init 26 = .ok (.putfield 16, 3) := by decide +kernel
theorem dX7_init_29 : decode cX7_init 29 = .ok (.aload_n 0, 1) := by decide +kernel
theorem dX7_init_30 : decode cX7_init 30 = .ok (.bipush 40, 2) := by decide +kernel
theorem dX7_init_32 : decode cX7_init 32 = .ok (.newarray .int, 2) := by decide +kernel
theorem dX7_init_34 : decode cX7_init 34 = .ok (.putfield 19, 3) := by decide +kernel
theorem dX7_init_37 : decode cX7_init 37 = .ok (.aload_n 0, 1) := by decide +kernel
theorem dX7_init_38 : decode cX7_init 38 = .ok (.iconst 4, 1) := by decide +kernel
theorem dX7_init_39 : decode cX7_init 39 = .ok (.newarray .int, 2) := by decide +kernel
theorem dX7_init_41 : decode cX7_init 41 = .ok (.putfield 22, 3) := by decide +kernel
theorem dX7_init_44 : decode cX7_init 44 = .ok (.aload_n 0, 1) := by decide +kernel
theorem dX7_init_45 : decode cX7_init 45 = .ok (.sipush 320, 3) := by decide +kernel
theorem dX7_init_48 : decode cX7_init 48 = .ok (.newarray .int, 2) := by decide +kernel
theorem dX7_init_50 : decode cX7_init 50 = .ok (.putfield 25, 3) := by decide +kernel
theorem dX7_init_53 : decode cX7_init 53 = .ok (.aload_n 0, 1) := by decide +kernel
theorem dX7_init_54 : decode cX7_init 54 = .ok (.bipush 12, 2) := by decide +kernel
theorem dX7_init_56 : decode cX7_init 56 = .ok (.newarray .int, 2) := by decide +kernel
theorem dX7_init_58 : decode cX7_init 58 = .ok (.putfield 28, 3) := by decide +kernel
theorem dX7_init_61 : decode cX7_init 61 = .ok (.aload_n 0, 1) := by decide +kernel
theorem dX7_init_62 : decode cX7_init 62 = .ok (.bipush 12, 2) := by decide +kernel
theorem dX7_init_64 : decode cX7_init 64 = .ok (.newarray .int, 2) := by decide +kernel
theorem dX7_init_66 : decode cX7_init 66 = .ok (.putfield 31, 3) := by decide +kernel
theorem dX7_init_69 : decode cX7_init 69 = .ok (.aload_n 0, 1) := by decide +kernel
theorem dX7_init_70 : decode cX7_init 70 = .ok (.bipush 12, 2) := by decide +kernel
theorem dX7_init_72 : decode cX7_init 72 = .ok (.newarray .int, 2) := by decide +kernel
theorem dX7_init_74 : decode cX7_init 74 = .ok (.putfield 34, 3) := by decide +kernel
theorem dX7_init_77 : decode cX7_init 77 = .ok (.aload_n 0, 1) := by decide +kernel
theorem dX7_init_78 : decode cX7_init 78 = .ok (.bipush 6, 2) := by decide +kernel
theorem dX7_init_80 : decode cX7_init 80 = .ok (.newarray .int, 2) := by decide +kernel
theorem dX7_init_82 : decode cX7_init 82 = .ok (.putfield 37, 3) := by decide +kernel
theorem dX7_init_85 : decode cX7_init 85 = .ok (.aload_n 0, 1) := by decide +kernel
theorem dX7_init_86 : decode cX7_init 86 = .ok (.bipush 12, 2) := by decide +kernel
theorem dX7_init_88 : decode cX7_init 88 = .ok (.newarray .int, 2) := by decide +kernel
theorem dX7_init_90 : decode cX7_init 90 = .ok (.putfield 40, 3) := by decide +kernel
theorem dX7_init_93 : decode cX7_init 93 = .ok (.aload_n 0, 1) := by decide +kernel
theorem dX7_init_94 : decode cX7_init 94 = .ok (.bipush 12, 2) := by decide +kernel
theorem dX7_init_96 : decode cX7_init 96 = .ok (.newarray .int, 2) := by decide +kernel
theorem dX7_init_98 : decode cX7_init 98 = .ok (.putfield 43, 3) := by decide +kernel
theorem dX7_init_101 : decode cX7_init 101 = .ok (.aload_n 0, 1) := by decide +kernel
theorem dX7_init_102 : decode cX7_init 102 = .ok (.bipush 12, 2) := by decide +kernel
theorem dX7_init_104 : decode cX7_init 104 = .ok (.newarray .int, 2) := by decide +kernel
theorem dX7_init_106 : decode cX7_init 106 = .ok (.putfield 46, 3) := by decide +kernel
theorem dX7_init_109 : decode cX7_init 109 = .ok (.aload_n 0, 1) := by decide +kernel
theorem dX7_init_110 : decode cX7_init 110 = .ok (.bipush 6, 2) := by decide +kernel
theorem dX7_init_112 : decode cX7_init 112 = .ok (.newarray .int, 2) := by decide +kernel
theorem dX7_init_114 : decode cX7_init 114 = .ok (.putfield 49, 3) := by decide +kernel
theorem dX7_init_117 : decode cX7_init 117 = .ok (.aload_n 0, 1) := by decide +kernel
theorem dX7_init_118 : decode cX7_init 118 = .ok (.sipush 1440, 3) := by decide +kernel
theorem dX7_init_121 : decode cX7_init 121 = .ok (.newarray .int, 2) := by decide +kernel
theorem dX7_init_123 : decode cX7_init 123 = .ok (.putfield 52, 3) := by decide +kernel
theorem dX7_init_126 : decode cX7_init 126 = .ok (.aload_n 0, 1) := by decide +kernel
theorem dX7_init_127 : decode cX7_init 127 = .ok (.bipush 96, 2) := by decide +kernel
theorem dX7_init_129 : decode cX7_init 129 = .ok (.newarray .int, 2) := by decide +kernel
theorem dX7_init_131 : decode cX7_init 131 = .ok (.putfield 55, 3) := by decide +kernel
theorem dX7_init_134 : decode cX7_init 134 = .ok (.aload_n 0, 1) := by decide +kernel
theorem dX7_init_135 : decode cX7_init 135 = .ok (.bipush 24, 2) := by decide +kernel
theorem dX7_init_137 : decode cX7_init 137 = .ok (.newarray .int, 2) := by decide +kernel
theorem dX7_init_139 : decode cX7_init 139 = .ok (.putfield 58, 3) := by decide +kernel
theorem dX7_init_142 : decode cX7_init 142 = .ok (.aload_n 0, 1) := by decide +kernel
theorem dX7_init_143 : decode cX7_init 143 = .ok (.bipush 84, 2) := by decide +kernel
theorem dX7_init_145 : decode cX7_init 145 = .ok (.newarray .int, 2) := by decide +kernel
theorem dX7_init_147 : decode cX7_init 147 = .ok (.putfield 61, 3) := by decide +kernel
theorem dX7_init_150 : decode cX7_init 150 = .ok (.aload_n 0, 1) := by decide +kernel
theorem dX7_init_151 : decode cX7_init 151 = .ok (.bipush 6, 2) := by decide +kernel
theorem dX7_init_153 : decode cX7_init 153 = .ok (.newarray .int, 2) := by decide +kernel
theorem dX7_init_155 : decode cX7_init 155 = .ok (.putfield 64, 3) := by decide +kernel
theorem dX7_init_158 : decode cX7_init 158 = .ok (.aload_n 0, 1) := by decide +kernel
theorem dX7_init_159 : decode cX7_init 159 = .ok (.bipush 6, 2) := by decide +kernel
theorem dX7_init_161 : decode cX7_init 161 = .ok (.newarray .int, 2) := by decide +kernel
theorem dX7_init_163 : decode cX7_init 163 = .ok (.putfield 67, 3) := by decide +kernel
theorem dX7_init_166 : decode cX7_init 166 = .ok (.aload_n 0, 1) := by decide +kernel
theorem dX7_init_167 : decode cX7_init 167 = .ok (.bipush 6, 2) := by decide +kernel
theorem dX7_init_169 : decode cX7_init 169 = .ok (.newarray .int, 2) := by decide +kernel
theorem dX7_init_171 : decode cX7_init 171 = .ok (.putfield 70, 3) := by decide +kernel
theorem dX7_init_174 : decode cX7_init 174 = .ok (.aload_n 0, 1) := by decide +kernel
theorem dX7_init_175 : decode cX7_init 175 = .ok (.bipush 6, 2) := by decide +kernel
theorem dX7_init_177 : decode cX7_init 177 = .ok (.newarray .int, 2) := by decide +kernel
theorem dX7_init_179 : decode cX7_init 179 = .ok (.putfield 73, 3) := by decide +kernel
theorem dX7_init_182 : decode cX7_init 182 = .ok (.iconst 0, 1) := by decide +kernel
theorem dX7_init_183 : decode cX7_init 183 = .ok (.istore_n 1, 1) := by decide +kernel
theorem dX7_init_184 : decode cX7_init 184 = .ok (.iload_n 1, 1) := by decide +kernel
theorem dX7_init_185 : decode cX7_init 185 = .ok (.bipush 6, 2) := by decide +kernel
theorem dX7_init_187 : decode cX7_init 187 = .ok (.if_icmp .ge 17, 3) := by decide +kernel
theorem dX7_init_190 : decode cX7_init 190 = .ok (.aload_n 0, 1) := by decide +kernel
theorem dX7_init_191 : decode cX7_init 191 = .ok (.getfield 13, 3) := by decide +kernel
theorem dX7_init_194 : decode cX7_init 194 = .ok (.iload_n 1, 1) := by decide +kernel
theorem dX7_init_195 : decode cX7_init 195 = .ok (.bipush (-9), 2) := by decide +kernel
theorem dX7_init_197 : decode cX7_init 197 = .ok (.iastore, 1) := by decide +kernel
theorem dX7_init_198 : decode cX7_init 198 = .ok (.iinc 1 1, 3) := by decide +kernel
theorem dX7_init_201 : decode cX7_init 201 = .ok (.goto (-17), 3) := by decide +kernel
theorem dX7_init_204 : decode cX7_init 204 = .ok (.iconst 0, 1) := by decide +kernel
theorem dX7_init_205 : decode cX7_init 205 = .ok (.istore_n 1, 1) := by decide +kernel
theorem dX7_init_206 : decode cX7_init 206 = .ok (.iload_n 1, 1) := by decide +kernel
theorem dX7_init_207 : decode cX7_init 207 = .ok (.iconst 4, 1) := by decide +kernel
theorem dX7_init_208 : decode cX7_init 208 = .ok (.if_icmp .ge 17, 3) := by decide +kernel
theorem dX7_init_211 : decode cX7_init 211 = .ok (.aload_n 0, 1) := by decide +kernel
theorem dX7_init_212 : decode cX7_init 212 = .ok (.getfield 22, 3) := by decide +kernel
theorem dX7_init_215 : decode cX7_init 215 = .ok (.iload_n 1, 1) := by decide +kernel
theorem dX7_init_216 : decode cX7_init 216 = .ok (.bipush (-9), 2) := by decide +kernel
theorem dX7_init_218 : decode cX7_init 218 = .ok (.iastore, 1) := by decide +kernel
theorem dX7_init_219 : decode cX7_init 219 = .ok (.iinc 1 1, 3) := by decide +kernel
theorem dX7_init_222 : decode cX7_init 222 = .ok (.goto (-16), 3) := by decide +kernel
theorem dX7_init_225 : decode cX7_init 225 = .ok (.iconst 0, 1) := by decide +kernel
theorem dX7_init_226 : decode cX7_init 226 = .ok (.istore_n 1, 1) := by decide +kernel
theorem dX7_init_227 : decode cX7_init 227 = .ok (.iload_n 1, 1) := by decide +kernel
theorem dX7_init_228 : decode cX7_init 228 = .ok (.iconst 3, 1) := by decide +kernel
theorem dX7_init_229 : decode cX7_init 229 = .ok (.if_icmp .ge 20, 3) := by decide +kernel
theorem dX7_init_232 : decode cX7_init 232 = .ok (.aload_n 0, 1) := by decide +kernel
theorem dX7_init_233 : decode cX7_init 233 = .ok (.getfield 55, 3) := by decide +kernel
theorem dX7_init_236 : decode cX7_init 236 = .ok (.bipush 32, 2) := by decide +kernel
theorem dX7_init_238 : decode cX7_init 238 = .ok (.iload_n 1, 1) := by decide +kernel
theorem dX7_init_239 : decode cX7_init 239 = .ok (.imul, 1) := by decide +kernel
theorem dX7_init_240 : decode cX7_init 240 = .ok (.bipush (-9), 2) := by decide +kernel
theorem dX7_init_242 : decode cX7_init 242 = .ok (.iastore, 1) := by decide +kernel
theorem dX7_init_243 : decode cX7_init 243 = .ok (.iinc 1 1, 3) := by decide +kernel
theorem dX7_init_246 : decode cX7_init 246 = .ok (.goto (-19), 3) := by decide +kernel
theorem dX7_init_249 : decode cX7_init 249 = .ok (.return_, 1) := by decide +kernel
theorem dX7_in_0 : decode cX7_in 0 = .ok (.iload_n 0, 1) := by decide +kernel
theorem dX7_in_1 : decode cX7_in 1 = .ok (.iload_n 1, 1) := by decide +kernel
theorem dX7_in_2 : decode cX7_in 2 = .ok (.if_icmp .lt 12, 3) := by decide +kernel
theorem dX7_in_5 : decode cX7_in 5 = .ok (.iload_n 0, 1) := by decide +kernel
theorem dX7_in_6 : decode cX7_in 6 = .ok (.iload_n 2, 1) := by decide +kernel
theorem dX7_in_7 : decode cX7_in 7 = .ok (.if_icmp .gt 7, 3) := by decide +kernel
theorem dX7_in_10 : decode cX7_in 10 = .ok (.iconst 1, 1) := by decide +kernel
theorem dX7_in_11 : decode cX7_in 11 = .ok (.goto 4, 3) := by decide +kernel
theorem dX7_in_14 : decode cX7_in 14 = .ok (.iconst 0, 1) := by decide +kernel
theorem dX7_in_15 : decode cX7_in 15 = .ok (.ireturn, 1) := by decide +kernel
theorem dX7_meet_0 : decode cX7_meet 0 = .ok (.aload_n 0, 1) := by decide +kernel
theorem dX7_meet_1 : decode cX7_meet 1 = .ok (.iload_n 1, 1) := by decide +kernel
theorem dX7_meet_2 : decode cX7_meet 2 = .ok (.putfield 76, 3) := by decide +kernel
theorem dX7_meet_5 : decode cX7_meet 5 = .ok (.aload_n 0, 1) := by decide +kernel
theorem dX7_meet_6 : decode cX7_meet 6 = .ok (.getfield 7, 3) := by decide +kernel
theorem dX7_meet_9 : decode cX7_meet 9 = .ok (.iload_n 1, 1) := by decide +kernel
theorem dX7_meet_10 : decode cX7_meet 10 = .ok (.dup2, 1) := by decide +kernel
theorem dX7_meet_11 : decode cX7_meet 11 = .ok (.iaload, 1) := by decide +kernel
theorem dX7_meet_12 : decode cX7_meet 12 = .ok (.iconst 1, 1) := by decide +kernel
theorem dX7_meet_13 : decode cX7_meet 13 = .ok (.iadd, 1) := by decide +kernel
theorem dX7_meet_14 : decode cX7_meet 14 = .ok (.iastore, 1) := by decide +kernel
theorem dX7_meet_15 : decode cX7_meet 15 = .ok (.bipush (-3), 2) := by decide +kernel
theorem dX7_meet_17 : decode cX7_meet 17 = .ok (.ireturn, 1) := by decide +kernel
theorem dX7_ask_0 : decode cX7_ask 0 = .ok (.aload_n 0, 1) := by decide +kernel
theorem dX7_ask_1 : decode cX7_ask 1 = .ok (.iload_n 1, 1) := by decide +kernel
theorem dX7_ask_2 : decode cX7_ask 2 = .ok (.putfield 80, 3) := by decide +kernel
theorem dX7_ask_5 : decode cX7_ask 5 = .ok (.iload_n 2, 1) := by decide +kernel
theorem dX7_ask_6 : decode cX7_ask 6 = .ok (.ireturn, 1) := by decide +kernel
theorem dX7_has_0 : decode cX7_has 0 = .ok (.iload_n 0, 1) := by decide +kernel
theorem dX7_has_1 : decode cX7_has 1 = .ok (.iload_n 1, 1) := by decide +kernel
theorem dX7_has_2 : decode cX7_has 2 = .ok (.ishr, 1) := by decide +kernel
theorem dX7_has_3 : decode cX7_has 3 = .ok (.iconst 1, 1) := by decide +kernel
theorem dX7_has_4 : decode cX7_has 4 = .ok (.iand, 1) := by decide +kernel
theorem dX7_has_5 : decode cX7_has 5 = .ok (.iconst 1, 1) := by decide +kernel
theorem dX7_has_6 : decode cX7_has 6 = .ok (.if_icmp .ne 7, 3) := by decide +kernel
theorem dX7_has_9 : decode cX7_has 9 = .ok (.iconst 1, 1) := by decide +kernel
theorem dX7_has_10 : decode cX7_has 10 = .ok (.goto 4, 3) := by decide +kernel
theorem dX7_has_13 : decode cX7_has 13 = .ok (.iconst 0, 1) := by decide +kernel
theorem dX7_has_14 : decode cX7_has 14 = .ok (.ireturn, 1) := by decide +kernel
theorem dX7_sizeOf_0 : decode cX7_sizeOf 0 = .ok (.iconst 0, 1) := by decide +kernel
theorem dX7_sizeOf_1 : decode cX7_sizeOf 1 = .ok (.istore_n 1, 1) := by decide +kernel
theorem dX7_sizeOf_2 : decode cX7_sizeOf 2 = .ok (.iconst 0, 1) := by decide +kernel
theorem dX7_sizeOf_3 : decode cX7_sizeOf 3 = .ok (.istore_n 2, 1) := by decide +kernel
theorem dX7_sizeOf_4 : decode cX7_sizeOf 4 = .ok (.iload_n 2, 1) := by decide +kernel
theorem dX7_sizeOf_5 : decode cX7_sizeOf 5 = .ok (.bipush 10, 2) := by decide +kernel
theorem dX7_sizeOf_7 : decode cX7_sizeOf 7 = .ok (.if_icmp .ge 17, 3) := by decide +kernel
theorem dX7_sizeOf_10 : decode cX7_sizeOf 10 = .ok (.iload_n 1, 1) := by decide +kernel
theorem dX7_sizeOf_11 : decode cX7_sizeOf 11 = .ok (.iload_n 0, 1) := by decide +kernel
theorem dX7_sizeOf_12 : decode cX7_sizeOf 12 = .ok (.iload_n 2, 1) := by decide +kernel
theorem dX7_sizeOf_13 : decode cX7_sizeOf 13 = .ok (.ishr, 1) := by decide +kernel
theorem dX7_sizeOf_14 : decode cX7_sizeOf 14 = .ok (.iconst 1, 1) := by decide +kernel
theorem dX7_sizeOf_15 : decode cX7_sizeOf 15 = .ok (.iand, 1) := by decide +kernel
theorem dX7_sizeOf_16 : decode cX7_sizeOf 16 = .ok (.iadd, 1) := by decide +kernel
theorem dX7_sizeOf_17 : decode cX7_sizeOf 17 = .ok (.istore_n 1, 1) := by decide +kernel
theorem dX7_sizeOf_18 : decode cX7_sizeOf 18 = .ok (.iinc 2 1, 3) := by decide +kernel
theorem dX7_sizeOf_21 : decode cX7_sizeOf 21 = .ok (.goto (-17), 3) := by decide +kernel
theorem dX7_sizeOf_24 : decode cX7_sizeOf 24 = .ok (.iload_n 1, 1) := by decide +kernel
theorem dX7_sizeOf_25 : decode cX7_sizeOf 25 = .ok (.ireturn, 1) := by decide +kernel
theorem dX7_isRow_0 : decode cX7_isRow 0 = .ok (.iload_n 0, 1) := by decide +kernel
theorem dX7_isRow_1 : decode cX7_isRow 1 = .ok (.iconst 0, 1) := by decide +kernel
theorem dX7_isRow_2 : decode cX7_isRow 2 = .ok (.iconst 5, 1) := by decide +kernel
theorem dX7_isRow_3 : decode cX7_isRow 3 = .ok (.invokestatic 83, 3) := by decide +kernel
theorem dX7_isRow_6 : decode cX7_isRow 6 = .ok (.ireturn, 1) := by decide +kernel
theorem dX7_isText_0 : decode cX7_isText 0 = .ok (.iload_n 0, 1) := by decide +kernel
theorem dX7_isText_1 : decode cX7_isText 1 = .ok (.iconst 0, 1) := by decide +kernel
theorem dX7_isText_2 : decode cX7_isText 2 = .ok (.iconst 3, 1) := by decide +kernel
theorem dX7_isText_3 : decode cX7_isText 3 = .ok (.invokestatic 83, 3) := by decide +kernel
theorem dX7_isText_6 : decode cX7_isText 6 = .ok (.ireturn, 1) := by decide +kernel
theorem dX7_askedRow_0 : decode cX7_askedRow 0 = .ok (.iload_n 1, 1) := by decide +kernel
theorem dX7_askedRow_1 : decode cX7_askedRow 1 = .ok (.invokestatic 87, 3) := by decide +kernel
theorem dX7_askedRow_4 : decode cX7_askedRow 4 = .ok (.ifCond .ne 7, 3) := by decide +kernel
theorem dX7_askedRow_7 : decode cX7_askedRow 7 = .ok (.iconst (-1), 1) := by decide +kernel
theorem dX7_askedRow_8 : decode cX7_askedRow 8 = .ok (.goto 21, 3) := by decide +kernel
theorem dX7_askedRow_11 : decode cX7_askedRow 11 = .ok (.aload_n 0, 1) := by decide +kernel
theorem dX7_askedRow_12 : decode cX7_askedRow 12 = .ok (.getfield 13, 3) := by decide +kernel
theorem dX7_askedRow_15 : decode cX7_askedRow 15 = .ok (.iload_n 1, 1) := by decide +kernel
theorem dX7_askedRow_16 : decode cX7_askedRow 16 = .ok (.iaload, 1) := by decide +kernel
theorem dX7_askedRow_17 : decode cX7_askedRow 17 = .ok (.ifCond .ge 11, 3) := by decide +kernel
theorem dX7_askedRow_20 : decode cX7_askedRow 20 = .ok (.aload_n 0, 1) := by decide +kernel
theorem dX7_askedRow_21 : decode cX7_askedRow 21 = .ok (.iconst 1, 1) := by decide +kernel
theorem dX7_askedRow_22 : decode cX7_askedRow 22 = .ok (.invokevirtual 91, 3) := by decide +kernel
theorem dX7_askedRow_25 : decode cX7_askedRow 25 = .ok (.goto 4, 3) := by decide +kernel
theorem dX7_askedRow_28 : decode cX7_askedRow 28 = .ok (.iconst 0, 1) := by decide +kernel
theorem dX7_askedRow_29 : decode cX7_askedRow 29 = .ok (.ireturn, 1) := by decide +kernel
theorem dX7_askedText_0 : decode cX7_askedText 0 = .ok (.iload_n 1, 1) := by decide +kernel
theorem dX7_askedText_1 : decode cX7_askedText 1 = .ok (.invokestatic 95, 3) := by decide +kernel
theorem dX7_askedText_4 : decode cX7_askedText 4 = .ok (.ifCond .ne 7, 3) := by decide +kernel
theorem dX7_askedText_7 : decode cX7_askedText 7 = .ok (.iconst (-1), 1) := by decide +kernel
theorem dX7_askedText_8 : decode cX7_askedText 8 = .ok (.goto 21, 3) := by decide +kernel
theorem dX7_askedText_11 : decode cX7_askedText 11 = .ok (.aload_n 0, 1) := by decide +kernel
theorem dX7_askedText_12 : decode cX7_askedText 12 = .ok (.getfield 22, 3) := by decide +kernel
theorem dX7_askedText_15 : decode cX7_askedText 15 = .ok (.iload_n 1, 1) := by decide +kernel
theorem dX7_askedText_16 : decode cX7_askedText 16 = .ok (.iaload, 1) := by decide +kernel
theorem dX7_askedText_17 : decode cX7_askedText 17 = .ok (.ifCond .ge 11, 3) := by decide +kernel
theorem dX7_askedText_20 : decode cX7_askedText 20 = .ok (.aload_n 0, 1) := by decide +kernel
theorem dX7_askedText_21 : decode cX7_askedText 21 = .ok (.iconst 1, 1) := by decide +kernel
theorem dX7_askedText_22 : decode cX7_askedText 22 = .ok (.invokevirtual 91, 3) := by decide +kernel
theorem dX7_askedText_25 : decode cX7_askedText 25 = .ok (.goto 4, 3) := by decide +kernel
theorem dX7_askedText_28 : decode cX7_askedText 28 = .ok (.iconst 0, 1) := by decide +kernel
theorem dX7_askedText_29 : decode cX7_askedText 29 = .ok (.ireturn, 1) := by decide +kernel
theorem dX7_rowAt_0 : decode cX7_rowAt 0 = .ok (.aload_n 0, 1) := by decide +kernel
theorem dX7_rowAt_1 : decode cX7_rowAt 1 = .ok (.getfield 16, 3) := by decide +kernel
theorem dX7_rowAt_4 : decode cX7_rowAt 4 = .ok (.bipush 40, 2) := by decide +kernel
theorem dX7_rowAt_6 : decode cX7_rowAt 6 = .ok (.iload_n 1, 1) := by decide +kernel
theorem dX7_rowAt_7 : decode cX7_rowAt 7 = .ok (.imul, 1) := by decide +kernel
theorem dX7_rowAt_8 : decode cX7_rowAt 8 = .ok (.iload_n 2, 1) := by decide +kernel
theorem dX7_rowAt_9 : decode cX7_rowAt 9 = .ok (.iadd, 1) := by decide +kernel
theorem dX7_rowAt_10 : decode cX7_rowAt 10 = .ok (.iaload, 1) := by decide +kernel
theorem dX7_rowAt_11 : decode cX7_rowAt 11 = .ok (.ireturn, 1) := by decide +kernel
theorem dX7_setRow_0 : decode cX7_setRow 0 = .ok (.aload_n 0, 1) := by decide +kernel
theorem dX7_setRow_1 : decode cX7_setRow 1 = .ok (.getfield 16, 3) := by decide +kernel
theorem dX7_setRow_4 : decode cX7_setRow 4 = .ok (.bipush 40, 2) := by decide +kernel
theorem dX7_setRow_6 : decode cX7_setRow 6 = .ok (.iload_n 1, 1) := by decide +kernel
theorem dX7_setRow_7 : decode cX7_setRow 7 = .ok (.imul, 1) := by decide +kernel
theorem dX7_setRow_8 : decode cX7_setRow 8 = .ok (.iload_n 2, 1) := by decide +kernel
theorem dX7_setRow_9 : decode cX7_setRow 9 = .ok (.iadd, 1) := by decide +kernel
theorem dX7_setRow_10 : decode cX7_setRow 10 = .ok (.iload_n 3, 1) := by decide +kernel
theorem dX7_setRow_11 : decode cX7_setRow 11 = .ok (.iastore, 1) := by decide +kernel
theorem dX7_setRow_12 : decode cX7_setRow 12 = .ok (.return_, 1) := by decide +kernel
theorem dX7_row_0 : decode cX7_row 0 = .ok (.iload_n 1, 1) := by decide +kernel
theorem dX7_row_1 : decode cX7_row 1 = .ok (.invokestatic 87, 3) := by decide +kernel
theorem dX7_row_4 : decode cX7_row 4 = .ok (.ifCond .eq 9, 3) := by decide +kernel
theorem dX7_row_7 : decode cX7_row 7 = .ok (.iload_n 2, 1) := by decide +kernel
theorem dX7_row_8 : decode cX7_row 8 = .ok (.bipush 40, 2) := by decide +kernel
theorem dX7_row_10 : decode cX7_row 10 = .ok (.if_icmp .le 5, 3) := by decide +kernel
theorem dX7_row_13 : decode cX7_row 13 = .ok (.iconst (-1), 1) := by decide +kernel
theorem dX7_row_14 : decode cX7_row 14 = .ok (.ireturn, 1) := by decide +kernel
theorem dX7_row_15 : decode cX7_row 15 = .ok (.iload_n 2, 1) := by decide +kernel
theorem dX7_row_16 : decode cX7_row 16 = .ok (.ifCond .ge 9, 3) := by decide +kernel
theorem dX7_row_19 : decode cX7_row 19 = .ok (.aload_n 0, 1) := by decide +kernel
theorem dX7_row_20 : decode cX7_row 20 = .ok (.iconst 5, 1) := by decide +kernel
theorem dX7_row_21 : decode cX7_row 21 = .ok (.invokevirtual 91, 3) := by decide +kernel
theorem dX7_row_24 : decode cX7_row 24 = .ok (.ireturn, 1) := by decide +kernel
theorem dX7_row_25 : decode cX7_row 25 = .ok (.aload_n 0, 1) := by decide +kernel
theorem dX7_row_26 : decode cX7_row 26 = .ok (.getfield 13, 3) := by decide +kernel
theorem dX7_row_29 : decode cX7_row 29 = .ok (.iload_n 1, 1) := by decide +kernel
theorem dX7_row_30 : decode cX7_row 30 = .ok (.iload_n 2, 1) := by decide +kernel
theorem dX7_row_31 : decode cX7_row 31 = .ok (.iastore, 1) := by decide +kernel
theorem dX7_row_32 : decode cX7_row 32 = .ok (.iconst 0, 1) := by decide +kernel
theorem dX7_row_33 : decode cX7_row 33 = .ok (.istore_n 3, 1) := by decide +kernel
theorem dX7_row_34 : decode cX7_row 34 = .ok (.iload_n 3, 1) := by decide +kernel
theorem dX7_row_35 : decode cX7_row 35 = .ok (.bipush 40, 2) := by decide +kernel
theorem dX7_row_37 : decode cX7_row 37 = .ok (.if_icmp .ge 16, 3) := by decide +kernel
theorem dX7_row_40 : decode cX7_row 40 = .ok (.aload_n 0, 1) := by decide +kernel
theorem dX7_row_41 : decode cX7_row 41 = .ok (.iload_n 1, 1) := by decide +kernel
theorem dX7_row_42 : decode cX7_row 42 = .ok (.iload_n 3, 1) := by decide +kernel
theorem dX7_row_43 : decode cX7_row 43 = .ok (.iconst 0, 1) := by decide +kernel
theorem dX7_row_44 : decode cX7_row 44 = .ok (.invokevirtual 98, 3) := by decide +kernel
theorem dX7_row_47 : decode cX7_row 47 = .ok (.iinc 3 1, 3) := by decide +kernel
theorem dX7_row_50 : decode cX7_row 50 = .ok (.goto (-16), 3) := by decide +kernel
theorem dX7_row_53 : decode cX7_row 53 = .ok (.iload_n 2, 1) := by decide +kernel
theorem dX7_row_54 : decode cX7_row 54 = .ok (.ireturn, 1) := by decide +kernel
theorem dX7_at_0 : decode cX7_at 0 = .ok (.aload_n 0, 1) := by decide +kernel
theorem dX7_at_1 : decode cX7_at 1 = .ok (.iload_n 1, 1) := by decide +kernel
theorem dX7_at_2 : decode cX7_at 2 = .ok (.invokevirtual 102, 3) := by decide +kernel
theorem dX7_at_5 : decode cX7_at 5 = .ok (.istore_n 3, 1) := by decide +kernel
theorem dX7_at_6 : decode cX7_at 6 = .ok (.iload_n 3, 1) := by decide +kernel
theorem dX7_at_7 : decode cX7_at 7 = .ok (.ifCond .ge 5, 3) := by decide +kernel
theorem dX7_at_10 : decode cX7_at 10 = .ok (.iload_n 3, 1) := by decide +kernel
theorem dX7_at_11 : decode cX7_at 11 = .ok (.ireturn, 1) := by decide +kernel
theorem dX7_at_12 : decode cX7_at 12 = .ok (.iload_n 2, 1) := by decide +kernel
theorem dX7_at_13 : decode cX7_at 13 = .ok (.iconst 0, 1) := by decide +kernel
theorem dX7_at_14 : decode cX7_at 14 = .ok (.aload_n 0, 1) := by decide +kernel
theorem dX7_at_15 : decode cX7_at 15 = .ok (.getfield 13, 3) := by decide +kernel
theorem dX7_at_18 : decode cX7_at 18 = .ok (.iload_n 1, 1) := by decide +kernel
theorem dX7_at_19 : decode cX7_at 19 = .ok (.iaload, 1) := by decide +kernel
theorem dX7_at_20 : decode cX7_at 20 = .ok (.iconst 1, 1) := by decide +kernel
theorem dX7_at_21 : decode cX7_at 21 = .ok (.isub, 1) := by decide +kernel
theorem dX7_at_22 : decode cX7_at 22 = .ok (.invokestatic 83, 3) := by decide +kernel
theorem dX7_at_25 : decode cX7_at 25 = .ok (.ifCond .eq 17, 3) := by decide +kernel
theorem dX7_at_28 : decode cX7_at 28 = .ok (.aload_n 0, 1) := by decide +kernel
theorem dX7_at_29 : decode cX7_at 29 = .ok (.aload_n 0, 1) := by decide +kernel
theorem dX7_at_30 : decode cX7_at 30 = .ok (.iload_n 1, 1) := by decide +kernel
theorem dX7_at_31 : decode cX7_at 31 = .ok (.iload_n 2, 1) := by decide +kernel
theorem dX7_at_32 : decode cX7_at 32 = .ok (.invokevirtual 105, 3) := by decide +kernel
theorem dX7_at_35 : decode cX7_at 35 = .ok (.iconst 1, 1) := by decide +kernel
theorem dX7_at_36 : decode cX7_at 36 = .ok (.invokevirtual 109, 3) := by decide +kernel
theorem dX7_at_39 : decode cX7_at 39 = .ok (.goto 8, 3) := by decide +kernel
theorem dX7_at_42 : decode cX7_at 42 = .ok (.aload_n 0, 1) := by decide +kernel
theorem dX7_at_43 : decode cX7_at 43 = .ok (.iconst 2, 1) := by decide +kernel
theorem dX7_at_44 : decode cX7_at 44 = .ok (.invokevirtual 91, 3) := by decide +kernel
theorem dX7_at_47 : decode cX7_at 47 = .ok (.ireturn, 1) := by decide +kernel
theorem dX7_lay_0 : decode cX7_lay 0 = .ok (.aload_n 0, 1) := by decide +kernel
theorem dX7_lay_1 : decode cX7_lay 1 = .ok (.iload_n 1, 1) := by decide +kernel
theorem dX7_lay_2 : decode cX7_lay 2 = .ok (.iload_n 2, 1) := by decide +kernel
theorem dX7_lay_3 : decode cX7_lay 3 = .ok (.invokevirtual 112, 3) := by decide +kernel
theorem dX7_lay_6 : decode cX7_lay 6 = .ok (.istore 4, 2) := by decide +kernel
theorem dX7_lay_8 : decode cX7_lay 8 = .ok (.iload 4, 2) := by decide +kernel
theorem dX7_lay_10 : decode cX7_lay 10 = .ok (.ifCond .ge 6, 3) := by decide +kernel
theorem dX7_lay_13 : decode cX7_lay 13 = .ok (.iload 4, 2) := by decide +kernel
theorem dX7_lay_15 : decode cX7_lay 15 = .ok (.ireturn, 1) := by decide +kernel
theorem dX7_lay_16 : decode cX7_lay 16 = .ok (.aload_n 0, 1) := by decide +kernel
theorem dX7_lay_17 : decode cX7_lay 17 = .ok (.iload_n 1, 1) := by decide +kernel
theorem dX7_lay_18 : decode cX7_lay 18 = .ok (.iload_n 2, 1) := by decide +kernel
theorem dX7_lay_19 : decode cX7_lay 19 = .ok (.iload_n 3, 1) := by decide +kernel
theorem dX7_lay_20 : decode cX7_lay 20 = .ok (.invokevirtual 98, 3) := by decide +kernel
theorem dX7_lay_23 : decode cX7_lay 23 = .ok (.iconst 1, 1) := by decide +kernel
theorem dX7_lay_24 : decode cX7_lay 24 = .ok (.ireturn, 1) := by decide +kernel
theorem dX7_tear_0 : decode cX7_tear 0 = .ok (.aload_n 0, 1) := by decide +kernel
theorem dX7_tear_1 : decode cX7_tear 1 = .ok (.iload_n 1, 1) := by decide +kernel
theorem dX7_tear_2 : decode cX7_tear 2 = .ok (.invokevirtual 102, 3) := by decide +kernel
theorem dX7_tear_5 : decode cX7_tear 5 = .ok (.istore_n 2, 1) := by decide +kernel
theorem dX7_tear_6 : decode cX7_tear 6 = .ok (.iload_n 2, 1) := by decide +kernel
theorem dX7_tear_7 : decode cX7_tear 7 = .ok (.ifCond .ge 5, 3) := by decide +kernel
theorem dX7_tear_10 : decode cX7_tear 10 = .ok (.iload_n 2, 1) := by decide +kernel
theorem dX7_tear_11 : decode cX7_tear 11 = .ok (.ireturn, 1) := by decide +kernel
theorem dX7_tear_12 : decode cX7_tear 12 = .ok (.aload_n 0, 1) := by decide +kernel
theorem dX7_tear_13 : decode cX7_tear 13 = .ok (.getfield 13, 3) := by decide +kernel
theorem dX7_tear_16 : decode cX7_tear 16 = .ok (.iload_n 1, 1) := by decide +kernel
theorem dX7_tear_17 : decode cX7_tear 17 = .ok (.bipush (-9), 2) := by decide +kernel
theorem dX7_tear_19 : decode cX7_tear 19 = .ok (.iastore, 1) := by decide +kernel
theorem dX7_tear_20 : decode cX7_tear 20 = .ok (.iconst 1, 1) := by decide +kernel
theorem dX7_tear_21 : decode cX7_tear 21 = .ok (.ireturn, 1) := by decide +kernel
theorem dX7_copy_0 : decode cX7_copy 0 = .ok (.iload_n 1, 1) := by decide +kernel
theorem dX7_copy_1 : decode cX7_copy 1 = .ok (.invokestatic 87, 3) := by decide +kernel
theorem dX7_copy_4 : decode cX7_copy 4 = .ok (.ifCond .eq 10, 3) := by decide +kernel
theorem dX7_copy_7 : decode cX7_copy 7 = .ok (.iload_n 3, 1) := by decide +kernel
theorem dX7_copy_8 : decode cX7_copy 8 = .ok (.invokestatic 87, 3) := by decide +kernel
theorem dX7_copy_11 : decode cX7_copy 11 = .ok (.ifCond .ne 5, 3) := by decide +kernel
theorem dX7_copy_14 : decode cX7_copy 14 = .ok (.iconst (-1), 1) := by decide +kernel
theorem dX7_copy_15 : decode cX7_copy 15 = .ok (.ireturn, 1) := by decide +kernel
theorem dX7_copy_16 : decode cX7_copy 16 = .ok (.iload 5, 2) := by decide +kernel
theorem dX7_copy_18 : decode cX7_copy 18 = .ok (.ifCond .ge 9, 3) := by decide +kernel
theorem dX7_copy_21 : decode cX7_copy 21 = .ok (.aload_n 0, 1) := by decide +kernel
theorem dX7_copy_22 : decode cX7_copy 22 = .ok (.iconst 5, 1) := by decide +kernel
theorem dX7_copy_23 : decode cX7_copy 23 = .ok (.invokevirtual 91, 3) := by decide +kernel
theorem dX7_copy_26 : decode cX7_copy 26 = .ok (.ireturn, 1) := by decide +kernel
theorem dX7_copy_27 : decode cX7_copy 27 = .ok (.aload_n 0, 1) := by decide +kernel
theorem dX7_copy_28 : decode cX7_copy 28 = .ok (.getfield 13, 3) := by decide +kernel
theorem dX7_copy_31 : decode cX7_copy 31 = .ok (.iload_n 1, 1) := by decide +kernel
theorem dX7_copy_32 : decode cX7_copy 32 = .ok (.iaload, 1) := by decide +kernel
theorem dX7_copy_33 : decode cX7_copy 33 = .ok (.ifCond .lt 12, 3) := by decide +kernel
theorem dX7_copy_36 : decode cX7_copy 36 = .ok (.aload_n 0, 1) := by decide +kernel
theorem dX7_copy_37 : decode cX7_copy 37 = .ok (.getfield 13, 3) := by decide +kernel
theorem dX7_copy_40 : decode cX7_copy 40 = .ok (.iload_n 3, 1) := by decide +kernel
theorem dX7_copy_41 : decode cX7_copy 41 = .ok (.iaload, 1) := by decide +kernel
theorem dX7_copy_42 : decode cX7_copy 42 = .ok (.ifCond .ge 9, 3) := by decide +kernel
theorem dX7_copy_45 : decode cX7_copy 45 = .ok (.aload_n 0, 1) := by decide +kernel
theorem dX7_copy_46 : decode cX7_copy 46 = .ok (.iconst 1, 1) := by decide +kernel
theorem dX7_copy_47 : decode cX7_copy 47 = .ok (.invokevirtual 91, 3) := by decide +kernel
theorem dX7_copy_50 : decode cX7_copy 50 = .ok (.ireturn, 1) := by decide +kernel
theorem dX7_copy_51 : decode cX7_copy 51 = .ok (.iload_n 2, 1) := by decide +kernel
theorem dX7_copy_52 : decode cX7_copy 52 = .ok (.ifCond .lt 43, 3) := by decide +kernel
theorem dX7_copy_55 : decode cX7_copy 55 = .ok (.iload 4, 2) := by decide +kernel
theorem dX7_copy_57 : decode cX7_copy 57 = .ok (.ifCond .lt 38, 3) := by decide +kernel
theorem dX7_copy_60 : decode cX7_copy 60 = .ok (.iload_n 2, 1) := by decide +kernel
theorem dX7_copy_61 : decode cX7_copy 61 = .ok (.i2l, 1) := by decide +kernel
theorem dX7_copy_62 : decode cX7_copy 62 = .ok (.iload 5, 2) := by decide +kernel
theorem dX7_copy_64 : decode cX7_copy 64 = .ok (.i2l, 1) := by decide +kernel
theorem dX7_copy_65 : decode cX7_copy 65 = .ok (.ladd, 1) := by decide +kernel
theorem dX7_copy_66 : decode cX7_copy 66 = .ok (.aload_n 0, 1) := by decide +kernel
theorem dX7_copy_67 : decode cX7_copy 67 = .ok (.getfield 13, 3) := by decide +kernel
theorem dX7_copy_70 : decode cX7_copy 70 = .ok (.iload_n 1, 1) := by decide +kernel
theorem dX7_copy_71 : decode cX7_copy 71 = .ok (.iaload, 1) := by decide +kernel
theorem dX7_copy_72 : decode cX7_copy 72 = .ok (.i2l, 1) := by decide +kernel
theorem dX7_copy_73 : decode cX7_copy 73 = .ok (.lcmp, 1) := by decide +kernel
theorem dX7_copy_74 : decode cX7_copy 74 = .ok (.ifCond .gt 21, 3) := by decide +kernel
theorem dX7_copy_77 : decode cX7_copy 77 = .ok (.iload 4, 2) := by decide +kernel
theorem dX7_copy_79 : decode cX7_copy 79 = .ok (.i2l, 1) := by decide +kernel
theorem dX7_copy_80 : decode cX7_copy 80 = .ok (.iload 5, 2) := by decide +kernel
theorem dX7_copy_82 : decode cX7_copy 82 = .ok (.i2l, 1) := by decide +kernel
theorem dX7_copy_83 : decode cX7_copy 83 = .ok (.ladd, 1) := by decide +kernel
theorem dX7_copy_84 : decode cX7_copy 84 = .ok (.aload_n 0, 1) := by decide +kernel
theorem dX7_copy_85 : decode cX7_copy 85 = .ok (.getfield 13, 3) := by decide +kernel
theorem dX7_copy_88 : decode cX7_copy 88 = .ok (.iload_n 3, 1) := by decide +kernel
theorem dX7_copy_89 : decode cX7_copy 89 = .ok (.iaload, 1) := by decide +kernel
theorem dX7_copy_90 : decode cX7_copy 90 = .ok (.i2l, 1) := by decide +kernel
theorem dX7_copy_91 : decode cX7_copy 91 = .ok (.lcmp, 1) := by decide +kernel
theorem dX7_copy_92 : decode cX7_copy 92 = .ok (.ifCond .le 9, 3) := by decide +kernel
theorem dX7_copy_95 : decode cX7_copy 95 = .ok (.aload_n 0, 1) := by decide +kernel
theorem dX7_copy_96 : decode cX7_copy 96 = .ok (.iconst 2, 1) := by decide +kernel
theorem dX7_copy_97 : decode cX7_copy 97 = .ok (.invokevirtual 91, 3) := by decide +kernel
theorem dX7_copy_100 : decode cX7_copy 100 = .ok (.ireturn, 1) := by decide +kernel
theorem dX7_copy_101 : decode cX7_copy 101 = .ok (.iconst 0, 1) := by decide +kernel
theorem dX7_copy_102 : decode cX7_copy 102 = .ok (.istore 6, 2) := by decide +kernel
theorem dX7_copy_104 : decode cX7_copy 104 = .ok (.iload 6, 2) := by decide +kernel
theorem dX7_copy_106 : decode cX7_copy 106 = .ok (.iload 5, 2) := by decide +kernel
theorem dX7_copy_108 : decode cX7_copy 108 = .ok (.if_icmp .ge 25, 3) := by decide +kernel
theorem dX7_copy_111 : decode cX7_copy 111 = .ok (.aload_n 0, 1) := by decide +kernel
theorem dX7_copy_112 : decode cX7_copy 112 = .ok (.getfield 19, 3) := by decide +kernel
theorem dX7_copy_115 : decode cX7_copy 115 = .ok (.iload 6, 2) := by decide +kernel
theorem dX7_copy_117 : decode cX7_copy 117 = .ok (.aload_n 0, 1) := by decide +kernel
theorem dX7_copy_118 : decode cX7_copy 118 = .ok (.iload_n 1, 1) := by decide +kernel
theorem dX7_copy_119 : decode cX7_copy 119 = .ok (.iload_n 2, 1) := by decide +kernel
theorem dX7_copy_120 : decode cX7_copy 120 = .ok (.iload 6, 2) := by decide +kernel
theorem dX7_copy_122 : decode cX7_copy 122 = .ok (.iadd, 1) := by decide +kernel
theorem dX7_copy_123 : decode cX7_copy 123 = .ok (.invokevirtual 105, 3) := by decide +kernel
theorem dX7_copy_126 : decode cX7_copy 126 = .ok (.iastore, 1) := by decide +kernel
theorem dX7_copy_127 : decode cX7_copy 127 = .ok (.iinc 6 1, 3) := by decide +kernel
theorem dX7_copy_130 : decode cX7_copy 130 = .ok (.goto (-26), 3) := by decide +kernel
theorem dX7_copy_133 : decode cX7_copy 133 = .ok (.iconst 0, 1) := by decide +kernel
theorem dX7_copy_134 : decode cX7_copy 134 = .ok (.istore 6, 2) := by decide +kernel
theorem dX7_copy_136 : decode cX7_copy 136 = .ok (.iload 6, 2) := by decide +kernel
theorem dX7_copy_138 : decode cX7_copy 138 = .ok (.iload 5, 2) := by decide +kernel
theorem dX7_copy_140 : decode cX7_copy 140 = .ok (.if_icmp .ge 26, 3) := by decide +kernel
theorem dX7_copy_143 : decode cX7_copy 143 = .ok (.aload_n 0, 1) := by decide +kernel
theorem dX7_copy_144 : decode cX7_copy 144 = .ok (.iload_n 3, 1) := by decide +kernel
theorem dX7_copy_145 : decode cX7_copy 145 = .ok (.iload 4, 2) := by decide +kernel
theorem dX7_copy_147 : decode cX7_copy 147 = .ok (.iload 6, 2) := by decide +kernel
theorem dX7_copy_149 : decode cX7_copy 149 = .ok (.iadd, 1) := by decide +kernel
theorem dX7_copy_150 : decode cX7_copy 150 = .ok (.aload_n 0, 1) := by decide +kernel
theorem dX7_copy_151 : decode cX7_copy 151 = .ok (.getfield 19, 3) := by decide +kernel
theorem dX7_copy_154 : decode cX7_copy 154 = .ok (.iload 6, 2) := by decide +kernel
theorem dX7_copy_156 : decode cX7_copy 156 = .ok (.iaload, 1) := by decide +kernel
theorem dX7_copy_157 : decode cX7_copy 157 = .ok (.invokevirtual 98, 3) := by decide +kernel
theorem dX7_copy_160 : decode cX7_copy 160 = .ok (.iinc 6 1, 3) := by decide +kernel
theorem dX7_copy_163 : decode cX7_copy 163 = .ok (.goto (-27), 3) := by decide +kernel
theorem dX7_copy_166 : decode cX7_copy 166 = .ok (.iconst 1, 1) := by decide +kernel
theorem dX7_copy_167 : decode cX7_copy 167 = .ok (.ireturn, 1) := by decide +kernel
theorem dX7_mean_0 : decode cX7_mean 0 = .ok (.aload_n 0, 1) := by decide +kernel
theorem dX7_mean_1 : decode cX7_mean 1 = .ok (.iload_n 1, 1) := by decide +kernel
theorem dX7_mean_2 : decode cX7_mean 2 = .ok (.invokevirtual 102, 3) := by decide +kernel
theorem dX7_mean_5 : decode cX7_mean 5 = .ok (.istore_n 2, 1) := by decide +kernel
theorem dX7_mean_6 : decode cX7_mean 6 = .ok (.iload_n 2, 1) := by decide +kernel
theorem dX7_mean_7 : decode cX7_mean 7 = .ok (.ifCond .ge 5, 3) := by decide +kernel
theorem dX7_mean_10 : decode cX7_mean 10 = .ok (.iload_n 2, 1) := by decide +kernel
theorem dX7_mean_11 : decode cX7_mean 11 = .ok (.ireturn, 1) := by decide +kernel
theorem dX7_mean_12 : decode cX7_mean 12 = .ok (.lconst 0, 1) := by decide +kernel
theorem dX7_mean_13 : decode cX7_mean 13 = .ok (.lstore_n 3, 1) := by decide +kernel
theorem dX7_mean_14 : decode cX7_mean 14 = .ok (.iconst 0, 1) := by decide +kernel
theorem dX7_mean_15 : decode cX7_mean 15 = .ok (.istore 5, 2) := by decide +kernel
theorem dX7_mean_17 : decode cX7_mean 17 = .ok (.iload 5, 2) := by decide +kernel
theorem dX7_mean_19 : decode cX7_mean 19 = .ok (.aload_n 0, 1) := by decide +kernel
theorem dX7_mean_20 : decode cX7_mean 20 = .ok (.getfield 13, 3) := by decide +kernel
theorem dX7_mean_23 : decode cX7_mean 23 = .ok (.iload_n 1, 1) := by decide +kernel
theorem dX7_mean_24 : decode cX7_mean 24 = .ok (.iaload, 1) := by decide +kernel
theorem dX7_mean_25 : decode cX7_mean 25 = .ok (.if_icmp .ge 20, 3) := by decide +kernel
theorem dX7_mean_28 : decode cX7_mean 28 = .ok (.lload_n 3, 1) := by decide +kernel
theorem dX7_mean_29 : decode cX7_mean 29 = .ok (.aload_n 0, 1) := by decide +kernel
theorem dX7_mean_30 : decode cX7_mean 30 = .ok (.iload_n 1, 1) := by decide +kernel
theorem dX7_mean_31 : decode cX7_mean 31 = .ok (.iload 5, 2) := by decide +kernel
theorem dX7_mean_33 : decode cX7_mean 33 = .ok (.invokevirtual 105, 3) := by decide +kernel
theorem dX7_mean_36 : decode cX7_mean 36 = .ok (.i2l, 1) := by decide +kernel
theorem dX7_mean_37 : decode cX7_mean 37 = .ok (.ladd, 1) := by decide +kernel
theorem dX7_mean_38 : decode cX7_mean 38 = .ok (.lstore_n 3, 1) := by decide +kernel
theorem dX7_mean_39 : decode cX7_mean 39 = .ok (.iinc 5 1, 3) := by decide +kernel
theorem dX7_mean_42 : decode cX7_mean 42 = .ok (.goto (-25), 3) := by decide +kernel
theorem dX7_mean_45 : decode cX7_mean 45 = .ok (.aload_n 0, 1) := by decide +kernel
theorem dX7_mean_46 : decode cX7_mean 46 = .ok (.getfield 13, 3) := by decide +kernel
theorem dX7_mean_49 : decode cX7_mean 49 = .ok (.iload_n 1, 1) := by decide +kernel
theorem dX7_mean_50 : decode cX7_mean 50 = .ok (.iaload, 1) := by decide +kernel
theorem dX7_mean_51 : decode cX7_mean 51 = .ok (.ifCond .ne 11, 3) := by decide +kernel
theorem dX7_mean_54 : decode cX7_mean 54 = .ok (.aload_n 0, 1) := by decide +kernel
theorem dX7_mean_55 : decode cX7_mean 55 = .ok (.iconst 4, 1) := by decide +kernel
theorem dX7_mean_56 : decode cX7_mean 56 = .ok (.invokevirtual 91, 3) := by decide +kernel
theorem dX7_mean_59 : decode cX7_mean 59 = .ok (.goto 18, 3) := by decide +kernel
theorem dX7_mean_62 : decode cX7_mean 62 = .ok (.aload_n 0, 1) := by decide +kernel
theorem dX7_mean_63 : decode cX7_mean 63 = .ok (.lload_n 3, 1) := by decide +kernel
theorem dX7_mean_64 : decode cX7_mean 64 = .ok (.aload_n 0, 1) := by decide +kernel
theorem dX7_mean_65 : decode cX7_mean 65 = .ok (.getfield 13, 3) := by decide +kernel
theorem dX7_mean_68 : decode cX7_mean 68 = .ok (.iload_n 1, 1) := by decide +kernel
theorem dX7_mean_69 : decode cX7_mean 69 = .ok (.iaload, 1) := by decide +kernel
theorem dX7_mean_70 : decode cX7_mean 70 = .ok (.i2l, 1) := by decide +kernel
theorem dX7_mean_71 : decode cX7_mean 71 = .ok (.ldiv, 1) := by decide +kernel
theorem dX7_mean_72 : decode cX7_mean 72 = .ok (.l2i, 1) := by decide +kernel
theorem dX7_mean_73 : decode cX7_mean 73 = .ok (.iconst 1, 1) := by decide +kernel
theorem dX7_mean_74 : decode cX7_mean 74 = .ok (.invokevirtual 109, 3) := by decide +kernel
theorem dX7_mean_77 : decode cX7_mean 77 = .ok (.ireturn, 1) := by decide +kernel
theorem dX7_text_0 : decode cX7_text 0 = .ok (.iload_n 1, 1) := by decide +kernel
theorem dX7_text_1 : decode cX7_text 1 = .ok (.invokestatic 95, 3) := by decide +kernel
theorem dX7_text_4 : decode cX7_text 4 = .ok (.ifCond .eq 9, 3) := by decide +kernel
theorem dX7_text_7 : decode cX7_text 7 = .ok (.iload_n 2, 1) := by decide +kernel
theorem dX7_text_8 : decode cX7_text 8 = .ok (.bipush 80, 2) := by decide +kernel
theorem dX7_text_10 : decode cX7_text 10 = .ok (.if_icmp .le 5, 3) := by decide +kernel
theorem dX7_text_13 : decode cX7_text 13 = .ok (.iconst (-1), 1) := by decide +kernel
theorem dX7_text_14 : decode cX7_text 14 = .ok (.ireturn, 1) := by decide +kernel
theorem dX7_text_15 : decode cX7_text 15 = .ok (.iload_n 2, 1) := by decide +kernel
theorem dX7_text_16 : decode cX7_text 16 = .ok (.ifCond .ge 9, 3) := by decide +kernel
theorem dX7_text_19 : decode cX7_text 19 = .ok (.aload_n 0, 1) := by decide +kernel
theorem dX7_text_20 : decode cX7_text 20 = .ok (.iconst 5, 1) := by decide +kernel
theorem dX7_text_21 : decode cX7_text 21 = .ok (.invokevirtual 91, 3) := by decide +kernel
theorem dX7_text_24 : decode cX7_text 24 = .ok (.ireturn, 1) := by decide +kernel
theorem dX7_text_25 : decode cX7_text 25 = .ok (.aload_n 0, 1) := by decide +kernel
theorem dX7_text_26 : decode cX7_text 26 = .ok (.getfield 22, 3) := by decide +kernel
theorem dX7_text_29 : decode cX7_text 29 = .ok (.iload_n 1, 1) := by decide +kernel
theorem dX7_text_30 : decode cX7_text 30 = .ok (.iload_n 2, 1) := by decide +kernel
theorem dX7_text_31 : decode cX7_text 31 = .ok (.iastore, 1) := by decide +kernel
theorem dX7_text_32 : decode cX7_text 32 = .ok (.iconst 0, 1) := by decide +kernel
theorem dX7_text_33 : decode cX7_text 33 = .ok (.istore_n 3, 1) := by decide +kernel
theorem dX7_text_34 : decode cX7_text 34 = .ok (.iload_n 3, 1) := by decide +kernel
theorem dX7_text_35 : decode cX7_text 35 = .ok (.bipush 80, 2) := by decide +kernel
theorem dX7_text_37 : decode cX7_text 37 = .ok (.if_icmp .ge 22, 3) := by decide +kernel
theorem dX7_text_40 : decode cX7_text 40 = .ok (.aload_n 0, 1) := by decide +kernel
theorem dX7_text_41 : decode cX7_text 41 = .ok (.getfield 25, 3) := by decide +kernel
theorem dX7_text_44 : decode cX7_text 44 = .ok (.bipush 80, 2) := by decide +kernel
theorem dX7_text_46 : decode cX7_text 46 = .ok (.iload_n 1, 1) := by decide +kernel
theorem dX7_text_47 : decode cX7_text 47 = .ok (.imul, 1) := by decide +kernel
theorem dX7_text_48 : decode cX7_text 48 = .ok (.iload_n 3, 1) := by decide +kernel
theorem dX7_text_49 : decode cX7_text 49 = .ok (.iadd, 1) := by decide +kernel
theorem dX7_text_50 : decode cX7_text 50 = .ok (.bipush 32, 2) := by decide +kernel
theorem dX7_text_52 : decode cX7_text 52 = .ok (.iastore, 1) := by decide +kernel
theorem dX7_text_53 : decode cX7_text 53 = .ok (.iinc 3 1, 3) := by decide +kernel
theorem dX7_text_56 : decode cX7_text 56 = .ok (.goto (-22), 3) := by decide +kernel
theorem dX7_text_59 : decode cX7_text 59 = .ok (.iload_n 2, 1) := by decide +kernel
theorem dX7_text_60 : decode cX7_text 60 = .ok (.ireturn, 1) := by decide +kernel
theorem dX7_put_0 : decode cX7_put 0 = .ok (.aload_n 0, 1) := by decide +kernel
theorem dX7_put_1 : decode cX7_put 1 = .ok (.iload_n 1, 1) := by decide +kernel
theorem dX7_put_2 : decode cX7_put 2 = .ok (.invokevirtual 115, 3) := by decide +kernel
theorem dX7_put_5 : decode cX7_put 5 = .ok (.istore 4, 2) := by decide +kernel
theorem dX7_put_7 : decode cX7_put 7 = .ok (.iload 4, 2) := by decide +kernel
theorem dX7_put_9 : decode cX7_put 9 = .ok (.ifCond .ge 6, 3) := by decide +kernel
theorem dX7_put_12 : decode cX7_put 12 = .ok (.iload 4, 2) := by decide +kernel
theorem dX7_put_14 : decode cX7_put 14 = .ok (.ireturn, 1) := by decide +kernel
theorem dX7_put_15 : decode cX7_put 15 = .ok (.iload_n 2, 1) := by decide +kernel
theorem dX7_put_16 : decode cX7_put 16 = .ok (.iconst 0, 1) := by decide +kernel
theorem dX7_put_17 : decode cX7_put 17 = .ok (.aload_n 0, 1) := by decide +kernel
theorem dX7_put_18 : decode cX7_put 18 = .ok (.getfield 22, 3) := by decide +kernel
theorem dX7_put_21 : decode cX7_put 21 = .ok (.iload_n 1, 1) := by decide +kernel
theorem dX7_put_22 : decode cX7_put 22 = .ok (.iaload, 1) := by decide +kernel
theorem dX7_put_23 : decode cX7_put 23 = .ok (.iconst 1, 1) := by decide +kernel
theorem dX7_put_24 : decode cX7_put 24 = .ok (.isub, 1) := by decide +kernel
theorem dX7_put_25 : decode cX7_put 25 = .ok (.invokestatic 83, 3) := by decide +kernel
theorem dX7_put_28 : decode cX7_put 28 = .ok (.ifCond .ne 9, 3) := by decide +kernel
theorem dX7_put_31 : decode cX7_put 31 = .ok (.aload_n 0, 1) := by decide +kernel
theorem dX7_put_32 : decode cX7_put 32 = .ok (.iconst 2, 1) := by decide +kernel
theorem dX7_put_33 : decode cX7_put 33 = .ok (.invokevirtual 91, 3) := by decide +kernel
theorem dX7_put_36 : decode cX7_put 36 = .ok (.ireturn, 1) := by decide +kernel
theorem dX7_put_37 : decode cX7_put 37 = .ok (.aload_n 0, 1) := by decide +kernel
theorem dX7_put_38 : decode cX7_put 38 = .ok (.getfield 25, 3) := by decide +kernel
theorem dX7_put_41 : decode cX7_put 41 = .ok (.bipush 80, 2) := by decide +kernel
theorem dX7_put_43 : decode cX7_put 43 = .ok (.iload_n 1, 1) := by decide +kernel
theorem dX7_put_44 : decode cX7_put 44 = .ok (.imul, 1) := by decide +kernel
theorem dX7_put_45 : decode cX7_put 45 = .ok (.iload_n 2, 1) := by decide +kernel
theorem dX7_put_46 : decode cX7_put 46 = .ok (.iadd, 1) := by decide +kernel
theorem dX7_put_47 : decode cX7_put 47 = .ok (.iaload, 1) := by decide +kernel
theorem dX7_put_48 : decode cX7_put 48 = .ok (.istore 5, 2) := by decide +kernel
theorem dX7_put_50 : decode cX7_put 50 = .ok (.aload_n 0, 1) := by decide +kernel
theorem dX7_put_51 : decode cX7_put 51 = .ok (.getfield 25, 3) := by decide +kernel
theorem dX7_put_54 : decode cX7_put 54 = .ok (.bipush 80, 2) := by decide +kernel
theorem dX7_put_56 : decode cX7_put 56 = .ok (.iload_n 1, 1) := by decide +kernel
theorem dX7_put_57 : decode cX7_put 57 = .ok (.imul, 1) := by decide +kernel
theorem dX7_put_58 : decode cX7_put 58 = .ok (.iload_n 2, 1) := by decide +kernel
theorem dX7_put_59 : decode cX7_put 59 = .ok (.iadd, 1) := by decide +kernel
theorem dX7_put_60 : decode cX7_put 60 = .ok (.iload_n 3, 1) := by decide +kernel
theorem dX7_put_61 : decode cX7_put 61 = .ok (.i2b, 1) := by decide +kernel
theorem dX7_put_62 : decode cX7_put 62 = .ok (.iastore, 1) := by decide +kernel
theorem dX7_put_63 : decode cX7_put 63 = .ok (.iload 5, 2) := by decide +kernel
theorem dX7_put_65 : decode cX7_put 65 = .ok (.sipush 1000, 3) := by decide +kernel
theorem dX7_put_68 : decode cX7_put 68 = .ok (.iadd, 1) := by decide +kernel
theorem dX7_put_69 : decode cX7_put 69 = .ok (.ireturn, 1) := by decide +kernel
theorem dX7_here_0 : decode cX7_here 0 = .ok (.aload_n 0, 1) := by decide +kernel
theorem dX7_here_1 : decode cX7_here 1 = .ok (.getfield 118, 3) := by decide +kernel
theorem dX7_here_4 : decode cX7_here 4 = .ok (.aload_n 0, 1) := by decide +kernel
theorem dX7_here_5 : decode cX7_here 5 = .ok (.getfield 22, 3) := by decide +kernel
theorem dX7_here_8 : decode cX7_here 8 = .ok (.iload_n 1, 1) := by decide +kernel
theorem dX7_here_9 : decode cX7_here 9 = .ok (.iaload, 1) := by decide +kernel
theorem dX7_here_10 : decode cX7_here 10 = .ok (.if_icmp .ge 20, 3) := by decide +kernel
theorem dX7_here_13 : decode cX7_here 13 = .ok (.aload_n 0, 1) := by decide +kernel
theorem dX7_here_14 : decode cX7_here 14 = .ok (.getfield 25, 3) := by decide +kernel
theorem dX7_here_17 : decode cX7_here 17 = .ok (.bipush 80, 2) := by decide +kernel
theorem dX7_here_19 : decode cX7_here 19 = .ok (.iload_n 1, 1) := by decide +kernel
theorem dX7_here_20 : decode cX7_here 20 = .ok (.imul, 1) := by decide +kernel
theorem dX7_here_21 : decode cX7_here 21 = .ok (.aload_n 0, 1) := by decide +kernel
theorem dX7_here_22 : decode cX7_here 22 = .ok (.getfield 118, 3) := by decide +kernel
theorem dX7_here_25 : decode cX7_here 25 = .ok (.iadd, 1) := by decide +kernel
theorem dX7_here_26 : decode cX7_here 26 = .ok (.iaload, 1) := by decide +kernel
theorem dX7_here_27 : decode cX7_here 27 = .ok (.goto 5, 3) := by decide +kernel
theorem dX7_here_30 : decode cX7_here 30 = .ok (.bipush (-9), 2) := by decide +kernel
theorem dX7_here_32 : decode cX7_here 32 = .ok (.ireturn, 1) := by decide +kernel
theorem dX7_kindOf_0 : decode cX7_kindOf 0 = .ok (.iload_n 0, 1) := by decide +kernel
theorem dX7_kindOf_1 : decode cX7_kindOf 1 = .ok (.bipush 98, 2) := by decide +kernel
theorem dX7_kindOf_3 : decode cX7_kindOf 3 = .ok (.if_icmp .ne 7, 3) := by decide +kernel
theorem dX7_kindOf_6 : decode cX7_kindOf 6 = .ok (.iconst 0, 1) := by decide +kernel
theorem dX7_kindOf_7 : decode cX7_kindOf 7 = .ok (.goto 55, 3) := by decide +kernel
theorem dX7_kindOf_10 : decode cX7_kindOf 10 = .ok (.iload_n 0, 1) := by decide +kernel
theorem dX7_kindOf_11 : decode cX7_kindOf 11 = .ok (.bipush 114, 2) := by decide +kernel
theorem dX7_kindOf_13 : decode cX7_kindOf 13 = .ok (.if_icmp .ne 7, 3) := by decide +kernel
theorem dX7_kindOf_16 : decode cX7_kindOf 16 = .ok (.iconst 1, 1) := by decide +kernel
theorem dX7_kindOf_17 : decode cX7_kindOf 17 = .ok (.goto 45, 3) := by decide +kernel
theorem dX7_kindOf_20 : decode cX7_kindOf 20 = .ok (.iload_n 0, 1) := by decide +kernel
theorem dX7_kindOf_21 : decode cX7_kindOf 21 = .ok (.bipush 100, 2) := by decide +kernel
theorem dX7_kindOf_23 : decode cX7_kindOf 23 = .ok (.if_icmp .ne 7, 3) := by decide +kernel
theorem dX7_kindOf_26 : decode cX7_kindOf 26 = .ok (.iconst 2, 1) := by decide +kernel
theorem dX7_kindOf_27 : decode cX7_kindOf 27 = .ok (.goto 35, 3) := by decide +kernel
theorem dX7_kindOf_30 : decode cX7_kindOf 30 = .ok (.iload_n 0, 1) := by decide +kernel
theorem dX7_kindOf_31 : decode cX7_kindOf 31 = .ok (.bipush 99, 2) := by decide +kernel
theorem dX7_kindOf_33 : decode cX7_kindOf 33 = .ok (.if_icmp .ne 7, 3) := by decide +kernel
theorem dX7_kindOf_36 : decode cX7_kindOf 36 = .ok (.iconst 3, 1) := by decide +kernel
theorem dX7_kindOf_37 : decode cX7_kindOf 37 = .ok (.goto 25, 3) := by decide +kernel
theorem dX7_kindOf_40 : decode cX7_kindOf 40 = .ok (.iload_n 0, 1) := by decide +kernel
theorem dX7_kindOf_41 : decode cX7_kindOf 41 = .ok (.bipush 116, 2) := by decide +kernel
theorem dX7_kindOf_43 : decode cX7_kindOf 43 = .ok (.if_icmp .ne 7, 3) := by decide +kernel
theorem dX7_kindOf_46 : decode cX7_kindOf 46 = .ok (.iconst 4, 1) := by decide +kernel
theorem dX7_kindOf_47 : decode cX7_kindOf 47 = .ok (.goto 15, 3) := by decide +kernel
theorem dX7_kindOf_50 : decode cX7_kindOf 50 = .ok (.iload_n 0, 1) := by decide +kernel
theorem dX7_kindOf_51 : decode cX7_kindOf 51 = .ok (.bipush 112, 2) := by decide +kernel
theorem dX7_kindOf_53 : decode cX7_kindOf 53 = .ok (.if_icmp .ne 7, 3) := by decide +kernel
theorem dX7_kindOf_56 : decode cX7_kindOf 56 = .ok (.iconst 5, 1) := by decide +kernel
theorem dX7_kindOf_57 : decode cX7_kindOf 57 = .ok (.goto 5, 3) := by decide +kernel
theorem dX7_kindOf_60 : decode cX7_kindOf 60 = .ok (.bipush (-9), 2) := by decide +kernel
theorem dX7_kindOf_62 : decode cX7_kindOf 62 = .ok (.ireturn, 1) := by decide +kernel
theorem dX7_isHere_0 : decode cX7_isHere 0 = .ok (.aload_n 0, 1) := by decide +kernel
theorem dX7_isHere_1 : decode cX7_isHere 1 = .ok (.iload_n 1, 1) := by decide +kernel
theorem dX7_isHere_2 : decode cX7_isHere 2 = .ok (.invokevirtual 121, 3) := by decide +kernel
theorem dX7_isHere_5 : decode cX7_isHere 5 = .ok (.iload_n 2, 1) := by decide +kernel
theorem dX7_isHere_6 : decode cX7_isHere 6 = .ok (.iload_n 3, 1) := by decide +kernel
theorem dX7_isHere_7 : decode cX7_isHere 7 = .ok (.invokestatic 83, 3) := by decide +kernel
theorem dX7_isHere_10 : decode cX7_isHere 10 = .ok (.ireturn, 1) := by decide +kernel
theorem dX7_readsHead_0 : decode cX7_readsHead 0 = .ok (.aload_n 0, 1) := by decide +kernel
theorem dX7_readsHead_1 : decode cX7_readsHead 1 = .ok (.iload_n 1, 1) := by decide +kernel
theorem dX7_readsHead_2 : decode cX7_readsHead 2 = .ok (.invokevirtual 121, 3) := by decide +kernel
theorem dX7_readsHead_5 : decode cX7_readsHead 5 = .ok (.bipush 103, 2) := by decide +kernel
theorem dX7_readsHead_7 : decode cX7_readsHead 7 = .ok (.if_icmp .eq 5, 3) := by decide +kernel
theorem dX7_readsHead_10 : decode cX7_readsHead 10 = .ok (.iconst 0, 1) := by decide +kernel
theorem dX7_readsHead_11 : decode cX7_readsHead 11 = .ok (.ireturn, 1) := by decide +kernel
theorem dX7_readsHead_12 : decode cX7_readsHead 12 = .ok (.aload_n 0, 1) := by decide +kernel
theorem dX7_readsHead_13 : decode cX7_readsHead 13 = .ok (.dup, 1) := by decide +kernel
theorem dX7_readsHead_14 : decode cX7_readsHead 14 = .ok (.getfield 118, 3) := by decide +kernel
theorem dX7_readsHead_17 : decode cX7_readsHead 17 = .ok (.iconst 1, 1) := by decide +kernel
theorem dX7_readsHead_18 : decode cX7_readsHead 18 = .ok (.iadd, 1) := by decide +kernel
theorem dX7_readsHead_19 : decode cX7_readsHead 19 = .ok (.putfield 118, 3) := by decide +kernel
theorem dX7_readsHead_22 : decode cX7_readsHead 22 = .ok (.aload_n 0, 1) := by decide +kernel
theorem dX7_readsHead_23 : decode cX7_readsHead 23 = .ok (.iload_n 1, 1) := by decide +kernel
theorem dX7_readsHead_24 : decode cX7_readsHead 24 = .ok (.bipush 49, 2) := by decide +kernel
theorem dX7_readsHead_26 : decode cX7_readsHead 26 = .ok (.bipush 52, 2) := by decide +kernel
theorem dX7_readsHead_28 : decode cX7_readsHead 28 = .ok (.invokevirtual 124, 3) := by decide +kernel
theorem dX7_readsHead_31 : decode cX7_readsHead 31 = .ok (.ifCond .ne 5, 3) := by decide +kernel
theorem dX7_readsHead_34 : decode cX7_readsHead 34 = .ok (.iconst 0, 1) := by decide +kernel
theorem dX7_readsHead_35 : decode cX7_readsHead 35 = .ok (.ireturn, 1) := by decide +kernel
theorem dX7_readsHead_36 : decode cX7_readsHead 36 = .ok (.aload_n 0, 1) := by decide +kernel
theorem dX7_readsHead_37 : decode cX7_readsHead 37 = .ok (.aload_n 0, 1) := by decide +kernel
theorem dX7_readsHead_38 : decode cX7_readsHead 38 = .ok (.iload_n 1, 1) := by decide +kernel
theorem dX7_readsHead_39 : decode cX7_readsHead 39 = .ok (.invokevirtual 121, 3) := by decide +kernel
theorem dX7_readsHead_42 : decode cX7_readsHead 42 = .ok (.bipush 48, 2) := by decide +kernel
theorem dX7_readsHead_44 : decode cX7_readsHead 44 = .ok (.isub, 1) := by decide +kernel
theorem dX7_readsHead_45 : decode cX7_readsHead 45 = .ok (.putfield 127, 3) := by decide +kernel
theorem dX7_readsHead_48 : decode cX7_readsHead 48 = .ok (.aload_n 0, 1) := by decide +kernel
theorem dX7_readsHead_49 : decode cX7_readsHead 49 = .ok (.dup, 1) := by decide +kernel
theorem dX7_readsHead_50 : decode cX7_readsHead 50 = .ok (.getfield 118, 3) := by decide +kernel
theorem dX7_readsHead_53 : decode cX7_readsHead 53 = .ok (.iconst 1, 1) := by decide +kernel
theorem dX7_readsHead_54 : decode cX7_readsHead 54 = .ok (.iadd, 1) := by decide +kernel
theorem dX7_readsHead_55 : decode cX7_readsHead 55 = .ok (.putfield 118, 3) := by decide +kernel
theorem dX7_readsHead_58 : decode cX7_readsHead 58 = .ok (.iconst 1, 1) := by decide +kernel
theorem dX7_readsHead_59 : decode cX7_readsHead 59 = .ok (.ireturn, 1) := by decide +kernel
theorem dX7_readsStall_0 : decode cX7_readsStall 0 = .ok (.aload_n 0, 1) := by decide +kernel
theorem dX7_readsStall_1 : decode cX7_readsStall 1 = .ok (.getfield 130, 3) := by decide +kernel
theorem dX7_readsStall_4 : decode cX7_readsStall 4 = .ok (.ifCond .gt 12, 3) := by decide +kernel
theorem dX7_readsStall_7 : decode cX7_readsStall 7 = .ok (.aload_n 0, 1) := by decide +kernel
theorem dX7_readsStall_8 : decode cX7_readsStall 8 = .ok (.getfield 133, 3) := by decide +kernel
theorem dX7_readsStall_11 : decode cX7_readsStall 11 = .ok (.bipush 6, 2) := by decide +kernel
theorem dX7_readsStall_13 : decode cX7_readsStall 13 = .ok (.if_icmp .ne 5, 3) := by decide +kernel
theorem dX7_readsStall_16 : decode cX7_readsStall 16 = .ok (.iconst 0, 1) := by decide +kernel
theorem dX7_readsStall_17 : decode cX7_readsStall 17 = .ok (.ireturn, 1) := by decide +kernel
theorem dX7_readsStall_18 : decode cX7_readsStall 18 = .ok (.bipush 6, 2) := by decide +kernel
theorem dX7_readsStall_20 : decode cX7_readsStall 20 = .ok (.aload_n 0, 1) := by decide +kernel
theorem dX7_readsStall_21 : decode cX7_readsStall 21 = .ok (.getfield 133, 3) := by decide +kernel
theorem dX7_readsStall_24 : decode cX7_readsStall 24 = .ok (.iadd, 1) := by decide +kernel
theorem dX7_readsStall_25 : decode cX7_readsStall 25 = .ok (.istore_n 2, 1) := by decide +kernel
theorem dX7_readsStall_26 : decode cX7_readsStall 26 = .ok (.aload_n 0, 1) := by decide +kernel
theorem dX7_readsStall_27 : decode cX7_readsStall 27 = .ok (.dup, 1) := by decide +kernel
theorem dX7_readsStall_28 : decode cX7_readsStall 28 = .ok (.getfield 118, 3) := by decide +kernel
theorem dX7_readsStall_31 : decode cX7_readsStall 31 = .ok (.iconst 1, 1) := by decide +kernel
theorem dX7_readsStall_32 : decode cX7_readsStall 32 = .ok (.iadd, 1) := by decide +kernel
theorem dX7_readsStall_33 : decode cX7_readsStall 33 = .ok (.putfield 118, 3) := by decide +kernel
theorem dX7_readsStall_36 : decode cX7_readsStall 36 = .ok (.aload_n 0, 1) := by decide +kernel
theorem dX7_readsStall_37 : decode cX7_readsStall 37 = .ok (.iload_n 1, 1) := by decide +kernel
theorem dX7_readsStall_38 : decode cX7_readsStall 38 = .ok (.bipush 65, 2) := by decide +kernel
theorem dX7_readsStall_40 : decode cX7_readsStall 40 = .ok (.bipush 84, 2) := by decide +kernel
theorem dX7_readsStall_42 : decode cX7_readsStall 42 = .ok (.invokevirtual 124, 3) := by decide +kernel
theorem dX7_readsStall_45 : decode cX7_readsStall 45 = .ok (.ifCond .ne 5, 3) := by decide +kernel
theorem dX7_readsStall_48 : decode cX7_readsStall 48 = .ok (.iconst 0, 1) := by decide +kernel
theorem dX7_readsStall_49 : decode cX7_readsStall 49 = .ok (.ireturn, 1) := by decide +kernel
theorem dX7_readsStall_50 : decode cX7_readsStall 50 = .ok (.aload_n 0, 1) := by decide +kernel
theorem dX7_readsStall_51 : decode cX7_readsStall 51 = .ok (.getfield 40, 3) := by decide +kernel
theorem dX7_readsStall_54 : decode cX7_readsStall 54 = .ok (.iload_n 2, 1) := by decide +kernel
theorem dX7_readsStall_55 : decode cX7_readsStall 55 = .ok (.aload_n 0, 1) := by decide +kernel
theorem dX7_readsStall_56 : decode cX7_readsStall 56 = .ok (.iload_n 1, 1) := by decide +kernel
theorem dX7_readsStall_57 : decode cX7_readsStall 57 = .ok (.invokevirtual 121, 3) := by decide +kernel
theorem dX7_readsStall_60 : decode cX7_readsStall 60 = .ok (.bipush 65, 2) := by decide +kernel
theorem dX7_readsStall_62 : decode cX7_readsStall 62 = .ok (.isub, 1) := by decide +kernel
theorem dX7_readsStall_63 : decode cX7_readsStall 63 = .ok (.iastore, 1) := by decide +kernel
theorem dX7_readsStall_64 : decode cX7_readsStall 64 = .ok (.aload_n 0, 1) := by decide +kernel
theorem dX7_readsStall_65 : decode cX7_readsStall 65 = .ok (.dup, 1) := by decide +kernel
theorem dX7_readsStall_66 : decode cX7_readsStall 66 = .ok (.getfield 118, 3) := by decide +kernel
theorem dX7_readsStall_69 : decode cX7_readsStall 69 = .ok (.iconst 1, 1) := by decide +kernel
theorem dX7_readsStall_70 : decode cX7_readsStall 70 = .ok (.iadd, 1) := by decide +kernel
theorem dX7_readsStall_71 : decode cX7_readsStall 71 = .ok (.putfield 118, 3) := by decide +kernel
theorem dX7_readsStall_74 : decode cX7_readsStall 74 = .ok (.aload_n 0, 1) := by decide +kernel
theorem dX7_readsStall_75 : decode cX7_readsStall 75 = .ok (.iload_n 1, 1) := by decide +kernel
theorem dX7_readsStall_76 : decode cX7_readsStall 76 = .ok (.bipush 48, 2) := by decide +kernel
theorem dX7_readsStall_78 : decode cX7_readsStall 78 = .ok (.bipush 51, 2) := by decide +kernel
theorem dX7_readsStall_80 : decode cX7_readsStall 80 = .ok (.invokevirtual 124, 3) := by decide +kernel
theorem dX7_readsStall_83 : decode cX7_readsStall 83 = .ok (.ifCond .ne 5, 3) := by decide +kernel
theorem dX7_readsStall_86 : decode cX7_readsStall 86 = .ok (.iconst 0, 1) := by decide +kernel
theorem dX7_readsStall_87 : decode cX7_readsStall 87 = .ok (.ireturn, 1) := by decide +kernel
theorem dX7_readsStall_88 : decode cX7_readsStall 88 = .ok (.aload_n 0, 1) := by decide +kernel
theorem dX7_readsStall_89 : decode cX7_readsStall 89 = .ok (.getfield 43, 3) := by decide +kernel
theorem dX7_readsStall_92 : decode cX7_readsStall 92 = .ok (.iload_n 2, 1) := by decide +kernel
theorem dX7_readsStall_93 : decode cX7_readsStall 93 = .ok (.aload_n 0, 1) := by decide +kernel
theorem dX7_readsStall_94 : decode cX7_readsStall 94 = .ok (.iload_n 1, 1) := by decide +kernel
theorem dX7_readsStall_95 : decode cX7_readsStall 95 = .ok (.invokevirtual 121, 3) := by decide +kernel
theorem dX7_readsStall_98 : decode cX7_readsStall 98 = .ok (.bipush 48, 2) := by decide +kernel
theorem dX7_readsStall_100 : decode cX7_readsStall 100 = .ok (.isub, 1) := by decide +kernel
theorem dX7_readsStall_101 : decode cX7_readsStall 101 = .ok (.iastore, 1) := by decide +kernel
theorem dX7_readsStall_102 : decode cX7_readsStall 102 = .ok (.aload_n 0, 1) := by decide +kernel
theorem dX7_readsStall_103 : decode cX7_readsStall 103 = .ok (.dup, 1) := by decide +kernel
theorem dX7_readsStall_104 : decode cX7_readsStall 104 = .ok (.getfield 118, 3) := by decide +kernel
theorem dX7_readsStall_107 : decode cX7_readsStall 107 = .ok (.iconst 1, 1) := by decide +kernel
theorem dX7_readsStall_108 : decode cX7_readsStall 108 = .ok (.iadd, 1) := by decide +kernel
theorem dX7_readsStall_109 : decode cX7_readsStall 109 = .ok (.putfield 118, 3) := by decide +kernel
theorem dX7_readsStall_112 : decode cX7_readsStall 112 = .ok (.aload_n 0, 1) := by decide +kernel
theorem dX7_readsStall_113 : decode cX7_readsStall 113 = .ok (.iload_n 1, 1) := by decide +kernel
theorem dX7_readsStall_114 : decode cX7_readsStall 114 = .ok (.bipush 48, 2) := by decide +kernel
theorem dX7_readsStall_116 : decode cX7_readsStall 116 = .ok (.bipush 57, 2) := by decide +kernel
theorem dX7_readsStall_118 : decode cX7_readsStall 118 = .ok (.invokevirtual 124, 3) := by decide +kernel
theorem dX7_readsStall_121 : decode cX7_readsStall 121 = .ok (.ifCond .ne 5, 3) := by decide +kernel
theorem dX7_readsStall_124 : decode cX7_readsStall 124 = .ok (.iconst 0, 1) := by decide +kernel
theorem dX7_readsStall_125 : decode cX7_readsStall 125 = .ok (.ireturn, 1) := by decide +kernel
theorem dX7_readsStall_126 : decode cX7_readsStall 126 = .ok (.aload_n 0, 1) := by decide +kernel
theorem dX7_readsStall_127 : decode cX7_readsStall 127 = .ok (.getfield 46, 3) := by decide +kernel
theorem dX7_readsStall_130 : decode cX7_readsStall 130 = .ok (.iload_n 2, 1) := by decide +kernel
theorem dX7_readsStall_131 : decode cX7_readsStall 131 = .ok (.aload_n 0, 1) := by decide +kernel
theorem dX7_readsStall_132 : decode cX7_readsStall 132 = .ok (.iload_n 1, 1) := by decide +kernel
theorem dX7_readsStall_133 : decode cX7_readsStall 133 = .ok (.invokevirtual 121, 3) := by decide +kernel
theorem dX7_readsStall_136 : decode cX7_readsStall 136 = .ok (.bipush 48, 2) := by decide +kernel
theorem dX7_readsStall_138 : decode cX7_readsStall 138 = .ok (.isub, 1) := by decide +kernel
theorem dX7_readsStall_139 : decode cX7_readsStall 139 = .ok (.iastore, 1) := by decide +kernel
theorem dX7_readsStall_140 : decode cX7_readsStall 140 = .ok (.aload_n 0, 1) := by decide +kernel
theorem dX7_readsStall_141 : decode cX7_readsStall 141 = .ok (.dup, 1) := by decide +kernel
theorem dX7_readsStall_142 : decode cX7_readsStall 142 = .ok (.getfield 118, 3) := by decide +kernel
theorem dX7_readsStall_145 : decode cX7_readsStall 145 = .ok (.iconst 1, 1) := by decide +kernel
theorem dX7_readsStall_146 : decode cX7_readsStall 146 = .ok (.iadd, 1) := by decide +kernel
theorem dX7_readsStall_147 : decode cX7_readsStall 147 = .ok (.putfield 118, 3) := by decide +kernel
theorem dX7_readsStall_150 : decode cX7_readsStall 150 = .ok (.aload_n 0, 1) := by decide +kernel
theorem dX7_readsStall_151 : decode cX7_readsStall 151 = .ok (.dup, 1) := by decide +kernel
theorem dX7_readsStall_152 : decode cX7_readsStall 152 = .ok (.getfield 133, 3) := by decide +kernel
theorem dX7_readsStall_155 : decode cX7_readsStall 155 = .ok (.iconst 1, 1) := by decide +kernel
theorem dX7_readsStall_156 : decode cX7_readsStall 156 = .ok (.iadd, 1) := by decide +kernel
theorem dX7_readsStall_157 : decode cX7_readsStall 157 = .ok (.putfield 133, 3) := by decide +kernel
theorem dX7_readsStall_160 : decode cX7_readsStall 160 = .ok (.iconst 1, 1) := by decide +kernel
theorem dX7_readsStall_161 : decode cX7_readsStall 161 = .ok (.ireturn, 1) := by decide +kernel
theorem dX7_readsBuyer_0 : decode cX7_readsBuyer 0 = .ok (.aload_n 0, 1) := by decide +kernel
theorem dX7_readsBuyer_1 : decode cX7_readsBuyer 1 = .ok (.iload_n 1, 1) := by decide +kernel
theorem dX7_readsBuyer_2 : decode cX7_readsBuyer 2 = .ok (.invokevirtual 121, 3) := by decide +kernel
theorem dX7_readsBuyer_5 : decode cX7_readsBuyer 5 = .ok (.invokestatic 136, 3) := by decide +kernel
theorem dX7_readsBuyer_8 : decode cX7_readsBuyer 8 = .ok (.istore_n 2, 1) := by decide +kernel
theorem dX7_readsBuyer_9 : decode cX7_readsBuyer 9 = .ok (.iload_n 2, 1) := by decide +kernel
theorem dX7_readsBuyer_10 : decode cX7_readsBuyer 10 = .ok (.bipush (-9), 2) := by decide +kernel
theorem dX7_readsBuyer_12 : decode cX7_readsBuyer 12 = .ok (.if_icmp .eq 12, 3) := by decide +kernel
theorem dX7_readsBuyer_15 : decode cX7_readsBuyer 15 = .ok (.aload_n 0, 1) := by decide +kernel
theorem dX7_readsBuyer_16 : decode cX7_readsBuyer 16 = .ok (.getfield 130, 3) := by decide +kernel
theorem dX7_readsBuyer_19 : decode cX7_readsBuyer 19 = .ok (.bipush 6, 2) := by decide +kernel
theorem dX7_readsBuyer_21 : decode cX7_readsBuyer 21 = .ok (.if_icmp .ne 5, 3) := by decide +kernel
theorem dX7_readsBuyer_24 : decode cX7_readsBuyer 24 = .ok (.iconst 0, 1) := by decide +kernel
theorem dX7_readsBuyer_25 : decode cX7_readsBuyer 25 = .ok (.ireturn, 1) := by decide +kernel
theorem dX7_readsBuyer_26 : decode cX7_readsBuyer 26 = .ok (.bipush 6, 2) := by decide +kernel
theorem dX7_readsBuyer_28 : decode cX7_readsBuyer 28 = .ok (.aload_n 0, 1) := by decide +kernel
theorem dX7_readsBuyer_29 : decode cX7_readsBuyer 29 = .ok (.getfield 130, 3) := by decide +kernel
theorem dX7_readsBuyer_32 : decode cX7_readsBuyer 32 = .ok (.iadd, 1) := by decide +kernel
theorem dX7_readsBuyer_33 : decode cX7_readsBuyer 33 = .ok (.istore_n 3, 1) := by decide +kernel
theorem dX7_readsBuyer_34 : decode cX7_readsBuyer 34 = .ok (.aload_n 0, 1) := by decide +kernel
theorem dX7_readsBuyer_35 : decode cX7_readsBuyer 35 = .ok (.getfield 28, 3) := by decide +kernel
theorem dX7_readsBuyer_38 : decode cX7_readsBuyer 38 = .ok (.iload_n 3, 1) := by decide +kernel
theorem dX7_readsBuyer_39 : decode cX7_readsBuyer 39 = .ok (.iload_n 2, 1) := by decide +kernel
theorem dX7_readsBuyer_40 : decode cX7_readsBuyer 40 = .ok (.iastore, 1) := by decide +kernel
theorem dX7_readsBuyer_41 : decode cX7_readsBuyer 41 = .ok (.aload_n 0, 1) := by decide +kernel
theorem dX7_readsBuyer_42 : decode cX7_readsBuyer 42 = .ok (.dup, 1) := by decide +kernel
theorem dX7_readsBuyer_43 : decode cX7_readsBuyer 43 = .ok (.getfield 118, 3) := by decide +kernel
theorem dX7_readsBuyer_46 : decode cX7_readsBuyer 46 = .ok (.iconst 1, 1) := by decide +kernel
theorem dX7_readsBuyer_47 : decode cX7_readsBuyer 47 = .ok (.iadd, 1) := by decide +kernel
theorem dX7_readsBuyer_48 : decode cX7_readsBuyer 48 = .ok (.putfield 118, 3) := by decide +kernel
theorem dX7_readsBuyer_51 : decode cX7_readsBuyer 51 = .ok (.aload_n 0, 1) := by decide +kernel
theorem dX7_readsBuyer_52 : decode cX7_readsBuyer 52 = .ok (.iload_n 1, 1) := by decide +kernel
theorem dX7_readsBuyer_53 : decode cX7_readsBuyer 53 = .ok (.bipush 65, 2) := by decide +kernel
theorem dX7_readsBuyer_55 : decode cX7_readsBuyer 55 = .ok (.bipush 84, 2) := by decide +kernel
theorem dX7_readsBuyer_57 : decode cX7_readsBuyer 57 = .ok (.invokevirtual 124, 3) := by decide +kernel
theorem dX7_readsBuyer_60 : decode cX7_readsBuyer 60 = .ok (.ifCond .ne 5, 3) := by decide +kernel
theorem dX7_readsBuyer_63 : decode cX7_readsBuyer 63 = .ok (.iconst 0, 1) := by decide +kernel
theorem dX7_readsBuyer_64 : decode cX7_readsBuyer 64 = .ok (.ireturn, 1) := by decide +kernel
theorem dX7_readsBuyer_65 : decode cX7_readsBuyer 65 = .ok (.aload_n 0, 1) := by decide +kernel
theorem dX7_readsBuyer_66 : decode cX7_readsBuyer 66 = .ok (.iload_n 1, 1) := by decide +kernel
theorem dX7_readsBuyer_67 : decode cX7_readsBuyer 67 = .ok (.invokevirtual 121, 3) := by decide +kernel
theorem dX7_readsBuyer_70 : decode cX7_readsBuyer 70 = .ok (.bipush 65, 2) := by decide +kernel
theorem dX7_readsBuyer_72 : decode cX7_readsBuyer 72 = .ok (.isub, 1) := by decide +kernel
theorem dX7_readsBuyer_73 : decode cX7_readsBuyer 73 = .ok (.istore 4, 2) := by decide +kernel
theorem dX7_readsBuyer_75 : decode cX7_readsBuyer 75 = .ok (.aload_n 0, 1) := by decide +kernel
theorem dX7_readsBuyer_76 : decode cX7_readsBuyer 76 = .ok (.getfield 130, 3) := by decide +kernel
theorem dX7_readsBuyer_79 : decode cX7_readsBuyer 79 = .ok (.ifCond .ne 7, 3) := by decide +kernel
theorem dX7_readsBuyer_82 : decode cX7_readsBuyer 82 = .ok (.iconst 1, 1) := by decide +kernel
theorem dX7_readsBuyer_83 : decode cX7_readsBuyer 83 = .ok (.goto 14, 3) := by decide +kernel
theorem dX7_readsBuyer_86 : decode cX7_readsBuyer 86 = .ok (.iload 4, 2) := by decide +kernel
theorem dX7_readsBuyer_88 : decode cX7_readsBuyer 88 = .ok (.aload_n 0, 1) := by decide +kernel
theorem dX7_readsBuyer_89 : decode cX7_readsBuyer 89 = .ok (.getfield 31, 3) := by decide +kernel
theorem dX7_readsBuyer_92 : decode cX7_readsBuyer 92 = .ok (.iload_n 3, 1) := by decide +kernel
theorem dX7_readsBuyer_93 : decode cX7_readsBuyer 93 = .ok (.iconst 1, 1) := by decide +kernel
theorem dX7_readsBuyer_94 : decode cX7_readsBuyer 94 = .ok (.isub, 1) := by decide +kernel
theorem dX7_readsBuyer_95 : decode cX7_readsBuyer 95 = .ok (.iaload, 1) := by decide +kernel
theorem dX7_readsBuyer_96 : decode cX7_readsBuyer 96 = .ok (.isub, 1) := by decide +kernel
theorem dX7_readsBuyer_97 : decode cX7_readsBuyer 97 = .ok (.istore 5, 2) := by decide +kernel
theorem dX7_readsBuyer_99 : decode cX7_readsBuyer 99 = .ok (.aload_n 0, 1) := by decide +kernel
theorem dX7_readsBuyer_100 : decode cX7_readsBuyer 100 = .ok (.getfield 130, 3) := by decide +kernel
theorem dX7_readsBuyer_103 : decode cX7_readsBuyer 103 = .ok (.ifCond .le 24, 3) := by decide +kernel
theorem dX7_readsBuyer_106 : decode cX7_readsBuyer 106 = .ok (.iload_n 2, 1) := by decide +kernel
theorem dX7_readsBuyer_107 : decode cX7_readsBuyer 107 = .ok (.iconst 4, 1) := by decide +kernel
theorem dX7_readsBuyer_108 : decode cX7_readsBuyer 108 = .ok (.if_icmp .eq 15, 3) := by decide +kernel
theorem dX7_readsBuyer_111 : decode cX7_readsBuyer 111 = .ok (.aload_n 0, 1) := by decide +kernel
theorem dX7_readsBuyer_112 : decode cX7_readsBuyer 112 = .ok (.getfield 28, 3) := by decide +kernel
theorem dX7_readsBuyer_115 : decode cX7_readsBuyer 115 = .ok (.iload_n 3, 1) := by decide +kernel
theorem dX7_readsBuyer_116 : decode cX7_readsBuyer 116 = .ok (.iconst 1, 1) := by decide +kernel
theorem dX7_readsBuyer_117 : decode cX7_readsBuyer 117 = .ok (.isub, 1) := by decide +kernel
theorem dX7_readsBuyer_118 : decode cX7_readsBuyer 118 = .ok (.iaload, 1) := by decide +kernel
theorem dX7_readsBuyer_119 : decode cX7_readsBuyer 119 = .ok (.iconst 4, 1) := by decide +kernel
theorem dX7_readsBuyer_120 : decode cX7_readsBuyer 120 = .ok (.if_icmp .ne 7, 3) := by decide +kernel
theorem dX7_readsBuyer_123 : decode cX7_readsBuyer 123 = .ok (.iconst 1, 1) := by decide +kernel
theorem dX7_readsBuyer_124 : decode cX7_readsBuyer 124 = .ok (.goto 4, 3) := by decide +kernel
theorem dX7_readsBuyer_127 : decode cX7_readsBuyer 127 = .ok (.iconst 0, 1) := by decide +kernel
theorem dX7_readsBuyer_128 : decode cX7_readsBuyer 128 = .ok (.istore 6, 2) := by decide +kernel
theorem dX7_readsBuyer_130 : decode cX7_readsBuyer 130 = .ok (.iload 5, 2) := by decide +kernel
theorem dX7_readsBuyer_132 : decode cX7_readsBuyer 132 = .ok (.iconst 1, 1) := by decide +kernel
theorem dX7_readsBuyer_133 : decode cX7_readsBuyer 133 = .ok (.if_icmp .lt 17, 3) := by decide +kernel
theorem dX7_readsBuyer_136 : decode cX7_readsBuyer 136 = .ok (.iload 5, 2) := by decide +kernel
theorem dX7_readsBuyer_138 : decode cX7_readsBuyer 138 = .ok (.aload_n 0, 1) := by decide +kernel
theorem dX7_readsBuyer_139 : decode cX7_readsBuyer 139 = .ok (.getfield 127, 3) := by decide +kernel
theorem dX7_readsBuyer_142 : decode cX7_readsBuyer 142 = .ok (.if_icmp .le 10, 3) := by decide +kernel
theorem dX7_readsBuyer_145 : decode cX7_readsBuyer 145 = .ok (.iload 6, 2) := by decide +kernel
theorem dX7_readsBuyer_147 : decode cX7_readsBuyer 147 = .ok (.ifCond .ne 5, 3) := by decide +kernel
theorem dX7_readsBuyer_150 : decode cX7_readsBuyer 150 = .ok (.iconst 0, 1) := by decide +kernel
theorem dX7_readsBuyer_151 : decode cX7_readsBuyer 151 = .ok (.ireturn, 1) := by decide +kernel
theorem dX7_readsBuyer_152 : decode cX7_readsBuyer 152 = .ok (.aload_n 0, 1) := by decide +kernel
theorem dX7_readsBuyer_153 : decode cX7_readsBuyer 153 = .ok (.getfield 31, 3) := by decide +kernel
theorem dX7_readsBuyer_156 : decode cX7_readsBuyer 156 = .ok (.iload_n 3, 1) := by decide +kernel
theorem dX7_readsBuyer_157 : decode cX7_readsBuyer 157 = .ok (.iload 4, 2) := by decide +kernel
theorem dX7_readsBuyer_159 : decode cX7_readsBuyer 159 = .ok (.iastore, 1) := by decide +kernel
theorem dX7_readsBuyer_160 : decode cX7_readsBuyer 160 = .ok (.aload_n 0, 1) := by decide +kernel
theorem dX7_readsBuyer_161 : decode cX7_readsBuyer 161 = .ok (.dup, 1) := by decide +kernel
theorem dX7_readsBuyer_162 : decode cX7_readsBuyer 162 = .ok (.getfield 118, 3) := by decide +kernel
theorem dX7_readsBuyer_165 : decode cX7_readsBuyer 165 = .ok (.iconst 1, 1) := by decide +kernel
theorem dX7_readsBuyer_166 : decode cX7_readsBuyer 166 = .ok (.iadd, 1) := by decide +kernel
theorem dX7_readsBuyer_167 : decode cX7_readsBuyer 167 = .ok (.putfield 118, 3) := by decide +kernel
theorem dX7_readsBuyer_170 : decode cX7_readsBuyer 170 = .ok (.aload_n 0, 1) := by decide +kernel
theorem dX7_readsBuyer_171 : decode cX7_readsBuyer 171 = .ok (.iload_n 1, 1) := by decide +kernel
theorem dX7_readsBuyer_172 : decode cX7_readsBuyer 172 = .ok (.invokevirtual 121, 3) := by decide +kernel
theorem dX7_readsBuyer_175 : decode cX7_readsBuyer 175 = .ok (.bipush 45, 2) := by decide +kernel
theorem dX7_readsBuyer_177 : decode cX7_readsBuyer 177 = .ok (.if_icmp .eq 17, 3) := by decide +kernel
theorem dX7_readsBuyer_180 : decode cX7_readsBuyer 180 = .ok (.aload_n 0, 1) := by decide +kernel
theorem dX7_readsBuyer_181 : decode cX7_readsBuyer 181 = .ok (.iload_n 1, 1) := by decide +kernel
theorem dX7_readsBuyer_182 : decode cX7_readsBuyer 182 = .ok (.bipush 48, 2) := by decide +kernel
theorem dX7_readsBuyer_184 : decode cX7_readsBuyer 184 = .ok (.bipush 51, 2) := by decide +kernel
theorem dX7_readsBuyer_186 : decode cX7_readsBuyer 186 = .ok (.invokevirtual 124, 3) := by decide +kernel
theorem dX7_readsBuyer_189 : decode cX7_readsBuyer 189 = .ok (.ifCond .ne 5, 3) := by decide +kernel
theorem dX7_readsBuyer_192 : decode cX7_readsBuyer 192 = .ok (.iconst 0, 1) := by decide +kernel
theorem dX7_readsBuyer_193 : decode cX7_readsBuyer 193 = .ok (.ireturn, 1) := by decide +kernel
theorem dX7_readsBuyer_194 : decode cX7_readsBuyer 194 = .ok (.aload_n 0, 1) := by decide +kernel
theorem dX7_readsBuyer_195 : decode cX7_readsBuyer 195 = .ok (.getfield 34, 3) := by decide +kernel
theorem dX7_readsBuyer_198 : decode cX7_readsBuyer 198 = .ok (.iload_n 3, 1) := by decide +kernel
theorem dX7_readsBuyer_199 : decode cX7_readsBuyer 199 = .ok (.aload_n 0, 1) := by decide +kernel
theorem dX7_readsBuyer_200 : decode cX7_readsBuyer 200 = .ok (.iload_n 1, 1) := by decide +kernel
theorem dX7_readsBuyer_201 : decode cX7_readsBuyer 201 = .ok (.invokevirtual 121, 3) := by decide +kernel
theorem dX7_readsBuyer_204 : decode cX7_readsBuyer 204 = .ok (.bipush 45, 2) := by decide +kernel
theorem dX7_readsBuyer_206 : decode cX7_readsBuyer 206 = .ok (.if_icmp .ne 7, 3) := by decide +kernel
theorem dX7_readsBuyer_209 : decode cX7_readsBuyer 209 = .ok (.iconst 4, 1) := by decide +kernel
theorem dX7_readsBuyer_210 : decode cX7_readsBuyer 210 = .ok (.goto 11, 3) := by decide +kernel
theorem dX7_readsBuyer_213 : decode cX7_readsBuyer 213 = .ok (.aload_n 0, 1) := by decide +kernel
theorem dX7_readsBuyer_214 : decode cX7_readsBuyer 214 = .ok (.iload_n 1, 1) := by decide +kernel
theorem dX7_readsBuyer_215 : decode cX7_readsBuyer 215 = .ok (.invokevirtual 121, 3) := by decide +kernel
theorem dX7_readsBuyer_218 : decode cX7_readsBuyer 218 = .ok (.bipush 48, 2) := by decide +kernel
theorem dX7_readsBuyer_220 : decode cX7_readsBuyer 220 = .ok (.isub, 1) := by decide +kernel
theorem dX7_readsBuyer_221 : decode cX7_readsBuyer 221 = .ok (.iastore, 1) := by decide +kernel
theorem dX7_readsBuyer_222 : decode cX7_readsBuyer 222 = .ok (.aload_n 0, 1) := by decide +kernel
theorem dX7_readsBuyer_223 : decode cX7_readsBuyer 223 = .ok (.dup, 1) := by decide +kernel
theorem dX7_readsBuyer_224 : decode cX7_readsBuyer 224 = .ok (.getfield 118, 3) := by decide +kernel
theorem dX7_readsBuyer_227 : decode cX7_readsBuyer 227 = .ok (.iconst 1, 1) := by decide +kernel
theorem dX7_readsBuyer_228 : decode cX7_readsBuyer 228 = .ok (.iadd, 1) := by decide +kernel
theorem dX7_readsBuyer_229 : decode cX7_readsBuyer 229 = .ok (.putfield 118, 3) := by decide +kernel
theorem dX7_readsBuyer_232 : decode cX7_readsBuyer 232 = .ok (.aload_n 0, 1) := by decide +kernel
theorem dX7_readsBuyer_233 : decode cX7_readsBuyer 233 = .ok (.dup, 1) := by decide +kernel
theorem dX7_readsBuyer_234 : decode cX7_readsBuyer 234 = .ok (.getfield 130, 3) := by decide +kernel
theorem dX7_readsBuyer_237 : decode cX7_readsBuyer 237 = .ok (.iconst 1, 1) := by decide +kernel
theorem dX7_readsBuyer_238 : decode cX7_readsBuyer 238 = .ok (.iadd, 1) := by decide +kernel
theorem dX7_readsBuyer_239 : decode cX7_readsBuyer 239 = .ok (.putfield 130, 3) := by decide +kernel
theorem dX7_readsBuyer_242 : decode cX7_readsBuyer 242 = .ok (.iconst 1, 1) := by decide +kernel
theorem dX7_readsBuyer_243 : decode cX7_readsBuyer 243 = .ok (.ireturn, 1) := by decide +kernel
theorem dX7_goesOn_0 : decode cX7_goesOn 0 = .ok (.aload_n 0, 1) := by decide +kernel
theorem dX7_goesOn_1 : decode cX7_goesOn 1 = .ok (.iconst 0, 1) := by decide +kernel
theorem dX7_goesOn_2 : decode cX7_goesOn 2 = .ok (.putfield 118, 3) := by decide +kernel
theorem dX7_goesOn_5 : decode cX7_goesOn 5 = .ok (.aload_n 0, 1) := by decide +kernel
theorem dX7_goesOn_6 : decode cX7_goesOn 6 = .ok (.iconst 0, 1) := by decide +kernel
theorem dX7_goesOn_7 : decode cX7_goesOn 7 = .ok (.putfield 127, 3) := by decide +kernel
theorem dX7_goesOn_10 : decode cX7_goesOn 10 = .ok (.aload_n 0, 1) := by decide +kernel
theorem dX7_goesOn_11 : decode cX7_goesOn 11 = .ok (.iconst 0, 1) := by decide +kernel
theorem dX7_goesOn_12 : decode cX7_goesOn 12 = .ok (.putfield 130, 3) := by decide +kernel
theorem dX7_goesOn_15 : decode cX7_goesOn 15 = .ok (.aload_n 0, 1) := by decide +kernel
theorem dX7_goesOn_16 : decode cX7_goesOn 16 = .ok (.iconst 0, 1) := by decide +kernel
theorem dX7_goesOn_17 : decode cX7_goesOn 17 = .ok (.putfield 133, 3) := by decide +kernel
theorem dX7_goesOn_20 : decode cX7_goesOn 20 = .ok (.aload_n 0, 1) := by decide +kernel
theorem dX7_goesOn_21 : decode cX7_goesOn 21 = .ok (.getfield 118, 3) := by decide +kernel
theorem dX7_goesOn_24 : decode cX7_goesOn 24 = .ok (.aload_n 0, 1) := by decide +kernel
theorem dX7_goesOn_25 : decode cX7_goesOn 25 = .ok (.getfield 22, 3) := by decide +kernel
theorem dX7_goesOn_28 : decode cX7_goesOn 28 = .ok (.iload_n 1, 1) := by decide +kernel
theorem dX7_goesOn_29 : decode cX7_goesOn 29 = .ok (.iaload, 1) := by decide +kernel
theorem dX7_goesOn_30 : decode cX7_goesOn 30 = .ok (.if_icmp .ge 78, 3) := by decide +kernel
theorem dX7_goesOn_33 : decode cX7_goesOn 33 = .ok (.aload_n 0, 1) := by decide +kernel
theorem dX7_goesOn_34 : decode cX7_goesOn 34 = .ok (.iload_n 1, 1) := by decide +kernel
theorem dX7_goesOn_35 : decode cX7_goesOn 35 = .ok (.invokevirtual 121, 3) := by decide +kernel
theorem dX7_goesOn_38 : decode cX7_goesOn 38 = .ok (.bipush 32, 2) := by decide +kernel
theorem dX7_goesOn_40 : decode cX7_goesOn 40 = .ok (.if_icmp .ne 16, 3) := by decide +kernel
theorem dX7_goesOn_43 : decode cX7_goesOn 43 = .ok (.aload_n 0, 1) := by decide +kernel
theorem dX7_goesOn_44 : decode cX7_goesOn 44 = .ok (.dup, 1) := by decide +kernel
theorem dX7_goesOn_45 : decode cX7_goesOn 45 = .ok (.getfield 118, 3) := by decide +kernel
theorem dX7_goesOn_48 : decode cX7_goesOn 48 = .ok (.iconst 1, 1) := by decide +kernel
theorem dX7_goesOn_49 : decode cX7_goesOn 49 = .ok (.iadd, 1) := by decide +kernel
theorem dX7_goesOn_50 : decode cX7_goesOn 50 = .ok (.putfield 118, 3) := by decide +kernel
theorem dX7_goesOn_53 : decode cX7_goesOn 53 = .ok (.goto (-33), 3) := by decide +kernel
theorem dX7_goesOn_56 : decode cX7_goesOn 56 = .ok (.aload_n 0, 1) := by decide +kernel
theorem dX7_goesOn_57 : decode cX7_goesOn 57 = .ok (.getfield 127, 3) := by decide +kernel
theorem dX7_goesOn_60 : decode cX7_goesOn 60 = .ok (.ifCond .ne 14, 3) := by decide +kernel
theorem dX7_goesOn_63 : decode cX7_goesOn 63 = .ok (.aload_n 0, 1) := by decide +kernel
theorem dX7_goesOn_64 : decode cX7_goesOn 64 = .ok (.iload_n 1, 1) := by decide +kernel
theorem dX7_goesOn_65 : decode cX7_goesOn 65 = .ok (.invokevirtual 139, 3) := by decide +kernel
theorem dX7_goesOn_68 : decode cX7_goesOn 68 = .ok (.ifCond .ne (-48), 3) := by decide +kernel
theorem dX7_goesOn_71 : decode cX7_goesOn 71 = .ok (.goto 32, 3) := by decide +kernel
theorem dX7_goesOn_74 : decode cX7_goesOn 74 = .ok (.aload_n 0, 1) := by decide +kernel
theorem dX7_goesOn_75 : decode cX7_goesOn 75 = .ok (.iload_n 1, 1) := by decide +kernel
theorem dX7_goesOn_76 : decode cX7_goesOn 76 = .ok (.invokevirtual 121, 3) := by decide +kernel
theorem dX7_goesOn_79 : decode cX7_goesOn 79 = .ok (.bipush 111, 2) := by decide +kernel
theorem dX7_goesOn_81 : decode cX7_goesOn 81 = .ok (.if_icmp .ne 14, 3) := by decide +kernel
theorem dX7_goesOn_84 : decode cX7_goesOn 84 = .ok (.aload_n 0, 1) := by decide +kernel
theorem dX7_goesOn_85 : decode cX7_goesOn 85 = .ok (.iload_n 1, 1) := by decide +kernel
theorem dX7_goesOn_86 : decode cX7_goesOn 86 = .ok (.invokevirtual 142, 3) := by decide +kernel
theorem dX7_goesOn_89 : decode cX7_goesOn 89 = .ok (.ifCond .ne (-69), 3) := by decide +kernel
theorem dX7_goesOn_92 : decode cX7_goesOn 92 = .ok (.goto 11, 3) := by decide +kernel
theorem dX7_goesOn_95 : decode cX7_goesOn 95 = .ok (.aload_n 0, 1) := by decide +kernel
theorem dX7_goesOn_96 : decode cX7_goesOn 96 = .ok (.iload_n 1, 1) := by decide +kernel
theorem dX7_goesOn_97 : decode cX7_goesOn 97 = .ok (.invokevirtual 145, 3) := by decide +kernel
theorem dX7_goesOn_100 : decode cX7_goesOn 100 = .ok (.ifCond .ne (-80), 3) := by decide +kernel
theorem dX7_goesOn_103 : decode cX7_goesOn 103 = .ok (.aload_n 0, 1) := by decide +kernel
theorem dX7_goesOn_104 : decode cX7_goesOn 104 = .ok (.getfield 118, 3) := by decide +kernel
theorem dX7_goesOn_107 : decode cX7_goesOn 107 = .ok (.ireturn, 1) := by decide +kernel
theorem dX7_goesOn_108 : decode cX7_goesOn 108 = .ok (.aload_n 0, 1) := by decide +kernel
theorem dX7_goesOn_109 : decode cX7_goesOn 109 = .ok (.getfield 127, 3) := by decide +kernel
theorem dX7_goesOn_112 : decode cX7_goesOn 112 = .ok (.ifCond .ne 12, 3) := by decide +kernel
theorem dX7_goesOn_115 : decode cX7_goesOn 115 = .ok (.aload_n 0, 1) := by decide +kernel
theorem dX7_goesOn_116 : decode cX7_goesOn 116 = .ok (.getfield 22, 3) := by decide +kernel
theorem dX7_goesOn_119 : decode cX7_goesOn 119 = .ok (.iload_n 1, 1) := by decide +kernel
theorem dX7_goesOn_120 : decode cX7_goesOn 120 = .ok (.iaload, 1) := by decide +kernel
theorem dX7_goesOn_121 : decode cX7_goesOn 121 = .ok (.goto 5, 3) := by decide +kernel
theorem dX7_goesOn_124 : decode cX7_goesOn 124 = .ok (.bipush (-9), 2) := by decide +kernel
theorem dX7_goesOn_126 : decode cX7_goesOn 126 = .ok (.ireturn, 1) := by decide +kernel
theorem dX7_fault_0 : decode cX7_fault 0 = .ok (.aload_n 0, 1) := by decide +kernel
theorem dX7_fault_1 : decode cX7_fault 1 = .ok (.iload_n 1, 1) := by decide +kernel
theorem dX7_fault_2 : decode cX7_fault 2 = .ok (.invokevirtual 115, 3) := by decide +kernel
theorem dX7_fault_5 : decode cX7_fault 5 = .ok (.istore_n 2, 1) := by decide +kernel
theorem dX7_fault_6 : decode cX7_fault 6 = .ok (.iload_n 2, 1) := by decide +kernel
theorem dX7_fault_7 : decode cX7_fault 7 = .ok (.ifCond .ge 7, 3) := by decide +kernel
theorem dX7_fault_10 : decode cX7_fault 10 = .ok (.iload_n 2, 1) := by decide +kernel
theorem dX7_fault_11 : decode cX7_fault 11 = .ok (.goto 8, 3) := by decide +kernel
theorem dX7_fault_14 : decode cX7_fault 14 = .ok (.aload_n 0, 1) := by decide +kernel
theorem dX7_fault_15 : decode cX7_fault 15 = .ok (.iload_n 1, 1) := by decide +kernel
theorem dX7_fault_16 : decode cX7_fault 16 = .ok (.invokevirtual 148, 3) := by decide +kernel
theorem dX7_fault_19 : decode cX7_fault 19 = .ok (.ireturn, 1) := by decide +kernel
theorem dX7_market_0 : decode cX7_market 0 = .ok (.aload_n 0, 1) := by decide +kernel
theorem dX7_market_1 : decode cX7_market 1 = .ok (.iload_n 1, 1) := by decide +kernel
theorem dX7_market_2 : decode cX7_market 2 = .ok (.invokevirtual 115, 3) := by decide +kernel
theorem dX7_market_5 : decode cX7_market 5 = .ok (.istore_n 2, 1) := by decide +kernel
theorem dX7_market_6 : decode cX7_market 6 = .ok (.iload_n 2, 1) := by decide +kernel
theorem dX7_market_7 : decode cX7_market 7 = .ok (.ifCond .ge 5, 3) := by decide +kernel
theorem dX7_market_10 : decode cX7_market 10 = .ok (.iload_n 2, 1) := by decide +kernel
theorem dX7_market_11 : decode cX7_market 11 = .ok (.ireturn, 1) := by decide +kernel
theorem dX7_market_12 : decode cX7_market 12 = .ok (.aload_n 0, 1) := by decide +kernel
theorem dX7_market_13 : decode cX7_market 13 = .ok (.iload_n 1, 1) := by decide +kernel
theorem dX7_market_14 : decode cX7_market 14 = .ok (.invokevirtual 148, 3) := by decide +kernel
theorem dX7_market_17 : decode cX7_market 17 = .ok (.bipush (-9), 2) := by decide +kernel
theorem dX7_market_19 : decode cX7_market 19 = .ok (.if_icmp .eq 6, 3) := by decide +kernel
theorem dX7_market_22 : decode cX7_market 22 = .ok (.bipush (-4), 2) := by decide +kernel
theorem dX7_market_24 : decode cX7_market 24 = .ok (.ireturn, 1) := by decide +kernel
theorem dX7_market_25 : decode cX7_market 25 = .ok (.aload_n 0, 1) := by decide +kernel
theorem dX7_market_26 : decode cX7_market 26 = .ok (.aload_n 0, 1) := by decide +kernel
theorem dX7_market_27 : decode cX7_market 27 = .ok (.getfield 130, 3) := by decide +kernel
theorem dX7_market_30 : decode cX7_market 30 = .ok (.putfield 151, 3) := by decide +kernel
theorem dX7_market_33 : decode cX7_market 33 = .ok (.aload_n 0, 1) := by decide +kernel
theorem dX7_market_34 : decode cX7_market 34 = .ok (.aload_n 0, 1) := by decide +kernel
theorem dX7_market_35 : decode cX7_market 35 = .ok (.getfield 133, 3) := by decide +kernel
theorem dX7_market_38 : decode cX7_market 38 = .ok (.putfield 154, 3) := by decide +kernel
theorem dX7_market_41 : decode cX7_market 41 = .ok (.aload_n 0, 1) := by decide +kernel
theorem dX7_market_42 : decode cX7_market 42 = .ok (.aload_n 0, 1) := by decide +kernel
theorem dX7_market_43 : decode cX7_market 43 = .ok (.getfield 127, 3) := by decide +kernel
theorem dX7_market_46 : decode cX7_market 46 = .ok (.putfield 157, 3) := by decide +kernel
theorem dX7_market_49 : decode cX7_market 49 = .ok (.iconst 0, 1) := by decide +kernel
theorem dX7_market_50 : decode cX7_market 50 = .ok (.istore_n 3, 1) := by decide +kernel
theorem dX7_market_51 : decode cX7_market 51 = .ok (.iload_n 3, 1) := by decide +kernel
theorem dX7_market_52 : decode cX7_market 52 = .ok (.bipush 6, 2) := by decide +kernel
theorem dX7_market_54 : decode cX7_market 54 = .ok (.if_icmp .ge 113, 3) := by decide +kernel
theorem dX7_market_57 : decode cX7_market 57 = .ok (.aload_n 0, 1) := by decide +kernel
theorem dX7_market_58 : decode cX7_market 58 = .ok (.getfield 28, 3) := by decide +kernel
theorem dX7_market_61 : decode cX7_market 61 = .ok (.iload_n 3, 1) := by decide +kernel
theorem dX7_market_62 : decode cX7_market 62 = .ok (.aload_n 0, 1) := by decide +kernel
theorem dX7_market_63 : decode cX7_market 63 = .ok (.getfield 28, 3) := by decide +kernel
theorem dX7_market_66 : decode cX7_market 66 = .ok (.bipush 6, 2) := by decide +kernel
theorem dX7_market_68 : decode cX7_market 68 = .ok (.iload_n 3, 1) := by decide +kernel
theorem dX7_market_69 : decode cX7_market 69 = .ok (.iadd, 1) := by decide +kernel
theorem dX7_market_70 : decode cX7_market 70 = .ok (.iaload, 1) := by decide +kernel
theorem dX7_market_71 : decode cX7_market 71 = .ok (.iastore, 1) := by decide +kernel
theorem dX7_market_72 : decode cX7_market 72 = .ok (.aload_n 0, 1) := by decide +kernel
theorem dX7_market_73 : decode cX7_market 73 = .ok (.getfield 31, 3) := by decide +kernel
theorem dX7_market_76 : decode cX7_market 76 = .ok (.iload_n 3, 1) := by decide +kernel
theorem dX7_market_77 : decode cX7_market 77 = .ok (.aload_n 0, 1) := by decide +kernel
theorem dX7_market_78 : decode cX7_market 78 = .ok (.getfield 31, 3) := by decide +kernel
theorem dX7_market_81 : decode cX7_market 81 = .ok (.bipush 6, 2) := by decide +kernel
theorem dX7_market_83 : decode cX7_market 83 = .ok (.iload_n 3, 1) := by decide +kernel
theorem dX7_market_84 : decode cX7_market 84 = .ok (.iadd, 1) := by decide +kernel
theorem dX7_market_85 : decode cX7_market 85 = .ok (.iaload, 1) := by decide +kernel
theorem dX7_market_86 : decode cX7_market 86 = .ok (.iastore, 1) := by decide +kernel
theorem dX7_market_87 : decode cX7_market 87 = .ok (.aload_n 0, 1) := by decide +kernel
theorem dX7_market_88 : decode cX7_market 88 = .ok (.getfield 34, 3) := by decide +kernel
theorem dX7_market_91 : decode cX7_market 91 = .ok (.iload_n 3, 1) := by decide +kernel
theorem dX7_market_92 : decode cX7_market 92 = .ok (.aload_n 0, 1) := by decide +kernel
theorem dX7_market_93 : decode cX7_market 93 = .ok (.getfield 34, 3) := by decide +kernel
theorem dX7_market_96 : decode cX7_market 96 = .ok (.bipush 6, 2) := by decide +kernel
theorem dX7_market_98 : decode cX7_market 98 = .ok (.iload_n 3, 1) := by decide +kernel
theorem dX7_market_99 : decode cX7_market 99 = .ok (.iadd, 1) := by decide +kernel
theorem dX7_market_100 : decode cX7_market 100 = .ok (.iaload, 1) := by decide +kernel
theorem dX7_market_101 : decode cX7_market 101 = .ok (.iastore, 1) := by decide +kernel
theorem dX7_market_102 : decode cX7_market 102 = .ok (.aload_n 0, 1) := by decide +kernel
theorem dX7_market_103 : decode cX7_market 103 = .ok (.getfield 40, 3) := by decide +kernel
theorem dX7_market_106 : decode cX7_market 106 = .ok (.iload_n 3, 1) := by decide +kernel
theorem dX7_market_107 : decode cX7_market 107 = .ok (.aload_n 0, 1) := by decide +kernel
theorem dX7_market_108 : decode cX7_market 108 = .ok (.getfield 40, 3) := by decide +kernel
theorem dX7_market_111 : decode cX7_market 111 = .ok (.bipush 6, 2) := by decide +kernel
theorem dX7_market_113 : decode cX7_market 113 = .ok (.iload_n 3, 1) := by decide +kernel
theorem dX7_market_114 : decode cX7_market 114 = .ok (.iadd, 1) := by decide +kernel
theorem dX7_market_115 : decode cX7_market 115 = .ok (.iaload, 1) := by decide +kernel
theorem dX7_market_116 : decode cX7_market 116 = .ok (.iastore, 1) := by decide +kernel
theorem dX7_market_117 : decode cX7_market 117 = .ok (.aload_n 0, 1) := by decide +kernel
theorem dX7_market_118 : decode cX7_market 118 = .ok (.getfield 43, 3) := by decide +kernel
theorem dX7_market_121 : decode cX7_market 121 = .ok (.iload_n 3, 1) := by decide +kernel
theorem dX7_market_122 : decode cX7_market 122 = .ok (.aload_n 0, 1) := by decide +kernel
theorem dX7_market_123 : decode cX7_market 123 = .ok (.getfield 43, 3) := by decide +kernel
theorem dX7_market_126 : decode cX7_market 126 = .ok (.bipush 6, 2) := by decide +kernel
theorem dX7_market_128 : decode cX7_market 128 = .ok (.iload_n 3, 1) := by decide +kernel
theorem dX7_market_129 : decode cX7_market 129 = .ok (.iadd, 1) := by decide +kernel
theorem dX7_market_130 : decode cX7_market 130 = .ok (.iaload, 1) := by decide +kernel
theorem dX7_market_131 : decode cX7_market 131 = .ok (.iastore, 1) := by decide +kernel
theorem dX7_market_132 : decode cX7_market 132 = .ok (.aload_n 0, 1) := by decide +kernel
theorem dX7_market_133 : decode cX7_market 133 = .ok (.getfield 46, 3) := by decide +kernel
theorem dX7_market_136 : decode cX7_market 136 = .ok (.iload_n 3, 1) := by decide +kernel
theorem dX7_market_137 : decode cX7_market 137 = .ok (.aload_n 0, 1) := by decide +kernel
theorem dX7_market_138 : decode cX7_market 138 = .ok (.getfield 46, 3) := by decide +kernel
theorem dX7_market_141 : decode cX7_market 141 = .ok (.bipush 6, 2) := by decide +kernel
theorem dX7_market_143 : decode cX7_market 143 = .ok (.iload_n 3, 1) := by decide +kernel
theorem dX7_market_144 : decode cX7_market 144 = .ok (.iadd, 1) := by decide +kernel
theorem dX7_market_145 : decode cX7_market 145 = .ok (.iaload, 1) := by decide +kernel
theorem dX7_market_146 : decode cX7_market 146 = .ok (.iastore, 1) := by decide +kernel
theorem dX7_market_147 : decode cX7_market 147 = .ok (.aload_n 0, 1) := by decide +kernel
theorem dX7_market_148 : decode cX7_market 148 = .ok (.getfield 37, 3) := by decide +kernel
theorem dX7_market_151 : decode cX7_market 151 = .ok (.iload_n 3, 1) := by decide +kernel
theorem dX7_market_152 : decode cX7_market 152 = .ok (.iconst 0, 1) := by decide +kernel
theorem dX7_market_153 : decode cX7_market 153 = .ok (.iastore, 1) := by decide +kernel
theorem dX7_market_154 : decode cX7_market 154 = .ok (.aload_n 0, 1) := by decide +kernel
theorem dX7_market_155 : decode cX7_market 155 = .ok (.getfield 49, 3) := by decide +kernel
theorem dX7_market_158 : decode cX7_market 158 = .ok (.iload_n 3, 1) := by decide +kernel
theorem dX7_market_159 : decode cX7_market 159 = .ok (.iconst 0, 1) := by decide +kernel
theorem dX7_market_160 : decode cX7_market 160 = .ok (.iastore, 1) := by decide +kernel
theorem dX7_market_161 : decode cX7_market 161 = .ok (.iinc 3 1, 3) := by decide +kernel
theorem dX7_market_164 : decode cX7_market 164 = .ok (.goto (-113), 3) := by decide +kernel
theorem dX7_market_167 : decode cX7_market 167 = .ok (.aload_n 0, 1) := by decide +kernel
theorem dX7_market_168 : decode cX7_market 168 = .ok (.iconst 0, 1) := by decide +kernel
theorem dX7_market_169 : decode cX7_market 169 = .ok (.putfield 160, 3) := by decide +kernel
theorem dX7_market_172 : decode cX7_market 172 = .ok (.aload_n 0, 1) := by decide +kernel
theorem dX7_market_173 : decode cX7_market 173 = .ok (.iconst 0, 1) := by decide +kernel
theorem dX7_market_174 : decode cX7_market 174 = .ok (.putfield 163, 3) := by decide +kernel
theorem dX7_market_177 : decode cX7_market 177 = .ok (.iconst 0, 1) := by decide +kernel
theorem dX7_market_178 : decode cX7_market 178 = .ok (.istore_n 3, 1) := by decide +kernel
theorem dX7_market_179 : decode cX7_market 179 = .ok (.iload_n 3, 1) := by decide +kernel
theorem dX7_market_180 : decode cX7_market 180 = .ok (.iconst 3, 1) := by decide +kernel
theorem dX7_market_181 : decode cX7_market 181 = .ok (.if_icmp .ge 20, 3) := by decide +kernel
theorem dX7_market_184 : decode cX7_market 184 = .ok (.aload_n 0, 1) := by decide +kernel
theorem dX7_market_185 : decode cX7_market 185 = .ok (.getfield 55, 3) := by decide +kernel
theorem dX7_market_188 : decode cX7_market 188 = .ok (.bipush 32, 2) := by decide +kernel
theorem dX7_market_190 : decode cX7_market 190 = .ok (.iload_n 3, 1) := by decide +kernel
theorem dX7_market_191 : decode cX7_market 191 = .ok (.imul, 1) := by decide +kernel
theorem dX7_market_192 : decode cX7_market 192 = .ok (.bipush (-9), 2) := by decide +kernel
theorem dX7_market_194 : decode cX7_market 194 = .ok (.iastore, 1) := by decide +kernel
theorem dX7_market_195 : decode cX7_market 195 = .ok (.iinc 3 1, 3) := by decide +kernel
theorem dX7_market_198 : decode cX7_market 198 = .ok (.goto (-19), 3) := by decide +kernel
theorem dX7_market_201 : decode cX7_market 201 = .ok (.aload_n 0, 1) := by decide +kernel
theorem dX7_market_202 : decode cX7_market 202 = .ok (.getfield 151, 3) := by decide +kernel
theorem dX7_market_205 : decode cX7_market 205 = .ok (.ireturn, 1) := by decide +kernel
theorem dX7_isBuyer_0 : decode cX7_isBuyer 0 = .ok (.iload_n 1, 1) := by decide +kernel
theorem dX7_isBuyer_1 : decode cX7_isBuyer 1 = .ok (.iconst 0, 1) := by decide +kernel
theorem dX7_isBuyer_2 : decode cX7_isBuyer 2 = .ok (.aload_n 0, 1) := by decide +kernel
theorem dX7_isBuyer_3 : decode cX7_isBuyer 3 = .ok (.getfield 151, 3) := by decide +kernel
theorem dX7_isBuyer_6 : decode cX7_isBuyer 6 = .ok (.iconst 1, 1) := by decide +kernel
theorem dX7_isBuyer_7 : decode cX7_isBuyer 7 = .ok (.isub, 1) := by decide +kernel
theorem dX7_isBuyer_8 : decode cX7_isBuyer 8 = .ok (.invokestatic 83, 3) := by decide +kernel
theorem dX7_isBuyer_11 : decode cX7_isBuyer 11 = .ok (.ireturn, 1) := by decide +kernel
theorem dX7_isStall_0 : decode cX7_isStall 0 = .ok (.iload_n 1, 1) := by decide +kernel
theorem dX7_isStall_1 : decode cX7_isStall 1 = .ok (.iconst 0, 1) := by decide +kernel
theorem dX7_isStall_2 : decode cX7_isStall 2 = .ok (.aload_n 0, 1) := by decide +kernel
theorem dX7_isStall_3 : decode cX7_isStall 3 = .ok (.getfield 154, 3) := by decide +kernel
theorem dX7_isStall_6 : decode cX7_isStall 6 = .ok (.iconst 1, 1) := by decide +kernel
theorem dX7_isStall_7 : decode cX7_isStall 7 = .ok (.isub, 1) := by decide +kernel
theorem dX7_isStall_8 : decode cX7_isStall 8 = .ok (.invokestatic 83, 3) := by decide +kernel
theorem dX7_isStall_11 : decode cX7_isStall 11 = .ok (.ireturn, 1) := by decide +kernel
theorem dX7_isA_0 : decode cX7_isA 0 = .ok (.aload_n 0, 1) := by decide +kernel
theorem dX7_isA_1 : decode cX7_isA 1 = .ok (.getfield 28, 3) := by decide +kernel
theorem dX7_isA_4 : decode cX7_isA 4 = .ok (.iload_n 1, 1) := by decide +kernel
theorem dX7_isA_5 : decode cX7_isA 5 = .ok (.iaload, 1) := by decide +kernel
theorem dX7_isA_6 : decode cX7_isA 6 = .ok (.iload_n 2, 1) := by decide +kernel
theorem dX7_isA_7 : decode cX7_isA 7 = .ok (.if_icmp .eq 33, 3) := by decide +kernel
theorem dX7_isA_10 : decode cX7_isA 10 = .ok (.iload_n 2, 1) := by decide +kernel
theorem dX7_isA_11 : decode cX7_isA 11 = .ok (.iconst 1, 1) := by decide +kernel
theorem dX7_isA_12 : decode cX7_isA 12 = .ok (.if_icmp .ne 13, 3) := by decide +kernel
theorem dX7_isA_15 : decode cX7_isA 15 = .ok (.aload_n 0, 1) := by decide +kernel
theorem dX7_isA_16 : decode cX7_isA 16 = .ok (.getfield 28, 3) := by decide +kernel
theorem dX7_isA_19 : decode cX7_isA 19 = .ok (.iload_n 1, 1) := by decide +kernel
theorem dX7_isA_20 : decode cX7_isA 20 = .ok (.iaload, 1) := by decide +kernel
theorem dX7_isA_21 : decode cX7_isA 21 = .ok (.iconst 5, 1) := by decide +kernel
theorem dX7_isA_22 : decode cX7_isA 22 = .ok (.if_icmp .eq 18, 3) := by decide +kernel
theorem dX7_isA_25 : decode cX7_isA 25 = .ok (.iload_n 2, 1) := by decide +kernel
theorem dX7_isA_26 : decode cX7_isA 26 = .ok (.iconst 2, 1) := by decide +kernel
theorem dX7_isA_27 : decode cX7_isA 27 = .ok (.if_icmp .ne 17, 3) := by decide +kernel
theorem dX7_isA_30 : decode cX7_isA 30 = .ok (.aload_n 0, 1) := by decide +kernel
theorem dX7_isA_31 : decode cX7_isA 31 = .ok (.getfield 28, 3) := by decide +kernel
theorem dX7_isA_34 : decode cX7_isA 34 = .ok (.iload_n 1, 1) := by decide +kernel
theorem dX7_isA_35 : decode cX7_isA 35 = .ok (.iaload, 1) := by decide +kernel
theorem dX7_isA_36 : decode cX7_isA 36 = .ok (.iconst 4, 1) := by decide +kernel
theorem dX7_isA_37 : decode cX7_isA 37 = .ok (.if_icmp .ne 7, 3) := by decide +kernel
theorem dX7_isA_40 : decode cX7_isA 40 = .ok (.iconst 1, 1) := by decide +kernel
theorem dX7_isA_41 : decode cX7_isA 41 = .ok (.goto 4, 3) := by decide +kernel
theorem dX7_isA_44 : decode cX7_isA 44 = .ok (.iconst 0, 1) := by decide +kernel
theorem dX7_isA_45 : decode cX7_isA 45 = .ok (.ireturn, 1) := by decide +kernel
theorem dX7_buyerOf_0 : decode cX7_buyerOf 0 = .ok (.iload_n 2, 1) := by decide +kernel
theorem dX7_buyerOf_1 : decode cX7_buyerOf 1 = .ok (.ifCond .ne 12, 3) := by decide +kernel
theorem dX7_buyerOf_4 : decode cX7_buyerOf 4 = .ok (.aload_n 0, 1) := by decide +kernel
theorem dX7_buyerOf_5 : decode cX7_buyerOf 5 = .ok (.getfield 28, 3) := by decide +kernel
theorem dX7_buyerOf_8 : decode cX7_buyerOf 8 = .ok (.iload_n 1, 1) := by decide +kernel
theorem dX7_buyerOf_9 : decode cX7_buyerOf 9 = .ok (.iaload, 1) := by decide +kernel
theorem dX7_buyerOf_10 : decode cX7_buyerOf 10 = .ok (.goto 52, 3) := by decide +kernel
theorem dX7_buyerOf_13 : decode cX7_buyerOf 13 = .ok (.iload_n 2, 1) := by decide +kernel
theorem dX7_buyerOf_14 : decode cX7_buyerOf 14 = .ok (.iconst 1, 1) := by decide +kernel
theorem dX7_buyerOf_15 : decode cX7_buyerOf 15 = .ok (.if_icmp .ne 12, 3) := by decide +kernel
theorem dX7_buyerOf_18 : decode cX7_buyerOf 18 = .ok (.aload_n 0, 1) := by decide +kernel
theorem dX7_buyerOf_19 : decode cX7_buyerOf 19 = .ok (.getfield 31, 3) := by decide +kernel
theorem dX7_buyerOf_22 : decode cX7_buyerOf 22 = .ok (.iload_n 1, 1) := by decide +kernel
theorem dX7_buyerOf_23 : decode cX7_buyerOf 23 = .ok (.iaload, 1) := by decide +kernel
theorem dX7_buyerOf_24 : decode cX7_buyerOf 24 = .ok (.goto 38, 3) := by decide +kernel
theorem dX7_buyerOf_27 : decode cX7_buyerOf 27 = .ok (.iload_n 2, 1) := by decide +kernel
theorem dX7_buyerOf_28 : decode cX7_buyerOf 28 = .ok (.iconst 2, 1) := by decide +kernel
theorem dX7_buyerOf_29 : decode cX7_buyerOf 29 = .ok (.if_icmp .ne 27, 3) := by decide +kernel
theorem dX7_buyerOf_32 : decode cX7_buyerOf 32 = .ok (.aload_n 0, 1) := by decide +kernel
theorem dX7_buyerOf_33 : decode cX7_buyerOf 33 = .ok (.getfield 34, 3) := by decide +kernel
theorem dX7_buyerOf_36 : decode cX7_buyerOf 36 = .ok (.iload_n 1, 1) := by decide +kernel
theorem dX7_buyerOf_37 : decode cX7_buyerOf 37 = .ok (.iaload, 1) := by decide +kernel
theorem dX7_buyerOf_38 : decode cX7_buyerOf 38 = .ok (.iconst 4, 1) := by decide +kernel
theorem dX7_buyerOf_39 : decode cX7_buyerOf 39 = .ok (.if_icmp .ne 8, 3) := by decide +kernel
theorem dX7_buyerOf_42 : decode cX7_buyerOf 42 = .ok (.bipush (-9), 2) := by decide +kernel
theorem dX7_buyerOf_44 : decode cX7_buyerOf 44 = .ok (.goto 18, 3) := by decide +kernel
theorem dX7_buyerOf_47 : decode cX7_buyerOf 47 = .ok (.aload_n 0, 1) := by decide +kernel
theorem dX7_buyerOf_48 : decode cX7_buyerOf 48 = .ok (.getfield 34, 3) := by decide +kernel
theorem dX7_buyerOf_51 : decode cX7_buyerOf 51 = .ok (.iload_n 1, 1) := by decide +kernel
theorem dX7_buyerOf_52 : decode cX7_buyerOf 52 = .ok (.iaload, 1) := by decide +kernel
theorem dX7_buyerOf_53 : decode cX7_buyerOf 53 = .ok (.goto 9, 3) := by decide +kernel
theorem dX7_buyerOf_56 : decode cX7_buyerOf 56 = .ok (.aload_n 0, 1) := by decide +kernel
theorem dX7_buyerOf_57 : decode cX7_buyerOf 57 = .ok (.getfield 37, 3) := by decide +kernel
theorem dX7_buyerOf_60 : decode cX7_buyerOf 60 = .ok (.iload_n 1, 1) := by decide +kernel
theorem dX7_buyerOf_61 : decode cX7_buyerOf 61 = .ok (.iaload, 1) := by decide +kernel
theorem dX7_buyerOf_62 : decode cX7_buyerOf 62 = .ok (.ireturn, 1) := by decide +kernel
theorem dX7_stallOf_0 : decode cX7_stallOf 0 = .ok (.iload_n 2, 1) := by decide +kernel
theorem dX7_stallOf_1 : decode cX7_stallOf 1 = .ok (.ifCond .ne 12, 3) := by decide +kernel
theorem dX7_stallOf_4 : decode cX7_stallOf 4 = .ok (.aload_n 0, 1) := by decide +kernel
theorem dX7_stallOf_5 : decode cX7_stallOf 5 = .ok (.getfield 40, 3) := by decide +kernel
theorem dX7_stallOf_8 : decode cX7_stallOf 8 = .ok (.iload_n 1, 1) := by decide +kernel
theorem dX7_stallOf_9 : decode cX7_stallOf 9 = .ok (.iaload, 1) := by decide +kernel
theorem dX7_stallOf_10 : decode cX7_stallOf 10 = .ok (.goto 37, 3) := by decide +kernel
theorem dX7_stallOf_13 : decode cX7_stallOf 13 = .ok (.iload_n 2, 1) := by decide +kernel
theorem dX7_stallOf_14 : decode cX7_stallOf 14 = .ok (.iconst 1, 1) := by decide +kernel
theorem dX7_stallOf_15 : decode cX7_stallOf 15 = .ok (.if_icmp .ne 12, 3) := by decide +kernel
theorem dX7_stallOf_18 : decode cX7_stallOf 18 = .ok (.aload_n 0, 1) := by decide +kernel
theorem dX7_stallOf_19 : decode cX7_stallOf 19 = .ok (.getfield 43, 3) := by decide +kernel
theorem dX7_stallOf_22 : decode cX7_stallOf 22 = .ok (.iload_n 1, 1) := by decide +kernel
theorem dX7_stallOf_23 : decode cX7_stallOf 23 = .ok (.iaload, 1) := by decide +kernel
theorem dX7_stallOf_24 : decode cX7_stallOf 24 = .ok (.goto 23, 3) := by decide +kernel
theorem dX7_stallOf_27 : decode cX7_stallOf 27 = .ok (.iload_n 2, 1) := by decide +kernel
theorem dX7_stallOf_28 : decode cX7_stallOf 28 = .ok (.iconst 2, 1) := by decide +kernel
theorem dX7_stallOf_29 : decode cX7_stallOf 29 = .ok (.if_icmp .ne 12, 3) := by decide +kernel
theorem dX7_stallOf_32 : decode cX7_stallOf 32 = .ok (.aload_n 0, 1) := by decide +kernel
theorem dX7_stallOf_33 : decode cX7_stallOf 33 = .ok (.getfield 46, 3) := by decide +kernel
theorem dX7_stallOf_36 : decode cX7_stallOf 36 = .ok (.iload_n 1, 1) := by decide +kernel
theorem dX7_stallOf_37 : decode cX7_stallOf 37 = .ok (.iaload, 1) := by decide +kernel
theorem dX7_stallOf_38 : decode cX7_stallOf 38 = .ok (.goto 9, 3) := by decide +kernel
theorem dX7_stallOf_41 : decode cX7_stallOf 41 = .ok (.aload_n 0, 1) := by decide +kernel
theorem dX7_stallOf_42 : decode cX7_stallOf 42 = .ok (.getfield 49, 3) := by decide +kernel
theorem dX7_stallOf_45 : decode cX7_stallOf 45 = .ok (.iload_n 1, 1) := by decide +kernel
theorem dX7_stallOf_46 : decode cX7_stallOf 46 = .ok (.iaload, 1) := by decide +kernel
theorem dX7_stallOf_47 : decode cX7_stallOf 47 = .ok (.ireturn, 1) := by decide +kernel
theorem dX7_buyer_0 : decode cX7_buyer 0 = .ok (.aload_n 0, 1) := by decide +kernel
theorem dX7_buyer_1 : decode cX7_buyer 1 = .ok (.iload_n 1, 1) := by decide +kernel
theorem dX7_buyer_2 : decode cX7_buyer 2 = .ok (.invokevirtual 166, 3) := by decide +kernel
theorem dX7_buyer_5 : decode cX7_buyer 5 = .ok (.ifCond .eq 26, 3) := by decide +kernel
theorem dX7_buyer_8 : decode cX7_buyer 8 = .ok (.iload_n 2, 1) := by decide +kernel
theorem dX7_buyer_9 : decode cX7_buyer 9 = .ok (.iconst 0, 1) := by decide +kernel
theorem dX7_buyer_10 : decode cX7_buyer 10 = .ok (.iconst 3, 1) := by decide +kernel
theorem dX7_buyer_11 : decode cX7_buyer 11 = .ok (.invokestatic 83, 3) := by decide +kernel
theorem dX7_buyer_14 : decode cX7_buyer 14 = .ok (.ifCond .eq 17, 3) := by decide +kernel
theorem dX7_buyer_17 : decode cX7_buyer 17 = .ok (.aload_n 0, 1) := by decide +kernel
theorem dX7_buyer_18 : decode cX7_buyer 18 = .ok (.aload_n 0, 1) := by decide +kernel
theorem dX7_buyer_19 : decode cX7_buyer 19 = .ok (.iload_n 1, 1) := by decide +kernel
theorem dX7_buyer_20 : decode cX7_buyer 20 = .ok (.iload_n 2, 1) := by decide +kernel
theorem dX7_buyer_21 : decode cX7_buyer 21 = .ok (.invokevirtual 169, 3) := by decide +kernel
theorem dX7_buyer_24 : decode cX7_buyer 24 = .ok (.iconst 1, 1) := by decide +kernel
theorem dX7_buyer_25 : decode cX7_buyer 25 = .ok (.invokevirtual 109, 3) := by decide +kernel
theorem dX7_buyer_28 : decode cX7_buyer 28 = .ok (.goto 4, 3) := by decide +kernel
theorem dX7_buyer_31 : decode cX7_buyer 31 = .ok (.iconst (-1), 1) := by decide +kernel
theorem dX7_buyer_32 : decode cX7_buyer 32 = .ok (.ireturn, 1) := by decide +kernel
theorem dX7_stall_0 : decode cX7_stall 0 = .ok (.aload_n 0, 1) := by decide +kernel
theorem dX7_stall_1 : decode cX7_stall 1 = .ok (.iload_n 1, 1) := by decide +kernel
theorem dX7_stall_2 : decode cX7_stall 2 = .ok (.invokevirtual 172, 3) := by decide +kernel
theorem dX7_stall_5 : decode cX7_stall 5 = .ok (.ifCond .eq 26, 3) := by decide +kernel
theorem dX7_stall_8 : decode cX7_stall 8 = .ok (.iload_n 2, 1) := by decide +kernel
theorem dX7_stall_9 : decode cX7_stall 9 = .ok (.iconst 0, 1) := by decide +kernel
theorem dX7_stall_10 : decode cX7_stall 10 = .ok (.iconst 3, 1) := by decide +kernel
theorem dX7_stall_11 : decode cX7_stall 11 = .ok (.invokestatic 83, 3) := by decide +kernel
theorem dX7_stall_14 : decode cX7_stall 14 = .ok (.ifCond .eq 17, 3) := by decide +kernel
theorem dX7_stall_17 : decode cX7_stall 17 = .ok (.aload_n 0, 1) := by decide +kernel
theorem dX7_stall_18 : decode cX7_stall 18 = .ok (.aload_n 0, 1) := by decide +kernel
theorem dX7_stall_19 : decode cX7_stall 19 = .ok (.iload_n 1, 1) := by decide +kernel
theorem dX7_stall_20 : decode cX7_stall 20 = .ok (.iload_n 2, 1) := by decide +kernel
theorem dX7_stall_21 : decode cX7_stall 21 = .ok (.invokevirtual 175, 3) := by decide +kernel
theorem dX7_stall_24 : decode cX7_stall 24 = .ok (.iconst 1, 1) := by decide +kernel
theorem dX7_stall_25 : decode cX7_stall 25 = .ok (.invokevirtual 109, 3) := by decide +kernel
theorem dX7_stall_28 : decode cX7_stall 28 = .ok (.goto 4, 3) := by decide +kernel
theorem dX7_stall_31 : decode cX7_stall 31 = .ok (.iconst (-1), 1) := by decide +kernel
theorem dX7_stall_32 : decode cX7_stall 32 = .ok (.ireturn, 1) := by decide +kernel
theorem dX7_size_0 : decode cX7_size 0 = .ok (.iload_n 0, 1) := by decide +kernel
theorem dX7_size_1 : decode cX7_size 1 = .ok (.ifCond .ge 8, 3) := by decide +kernel
theorem dX7_size_4 : decode cX7_size 4 = .ok (.iload_n 0, 1) := by decide +kernel
theorem dX7_size_5 : decode cX7_size 5 = .ok (.ineg, 1) := by decide +kernel
theorem dX7_size_6 : decode cX7_size 6 = .ok (.goto 4, 3) := by decide +kernel
theorem dX7_size_9 : decode cX7_size 9 = .ok (.iload_n 0, 1) := by decide +kernel
theorem dX7_size_10 : decode cX7_size 10 = .ok (.ireturn, 1) := by decide +kernel
theorem dX7_nearest_0 : decode cX7_nearest 0 = .ok (.bipush (-9), 2) := by decide +kernel
theorem dX7_nearest_2 : decode cX7_nearest 2 = .ok (.istore 4, 2) := by decide +kernel
theorem dX7_nearest_4 : decode cX7_nearest 4 = .ok (.iconst 0, 1) := by decide +kernel
theorem dX7_nearest_5 : decode cX7_nearest 5 = .ok (.istore 5, 2) := by decide +kernel
theorem dX7_nearest_7 : decode cX7_nearest 7 = .ok (.iload 5, 2) := by decide +kernel
theorem dX7_nearest_9 : decode cX7_nearest 9 = .ok (.aload_n 0, 1) := by decide +kernel
theorem dX7_nearest_10 : decode cX7_nearest 10 = .ok (.getfield 154, 3) := by decide +kernel
theorem dX7_nearest_13 : decode cX7_nearest 13 = .ok (.if_icmp .ge 133, 3) := by decide +kernel
theorem dX7_nearest_16 : decode cX7_nearest 16 = .ok (.aload_n 0, 1) := by decide +kernel
theorem dX7_nearest_17 : decode cX7_nearest 17 = .ok (.getfield 43, 3) := by decide +kernel
theorem dX7_nearest_20 : decode cX7_nearest 20 = .ok (.iload 5, 2) := by decide +kernel
theorem dX7_nearest_22 : decode cX7_nearest 22 = .ok (.iaload, 1) := by decide +kernel
theorem dX7_nearest_23 : decode cX7_nearest 23 = .ok (.iload_n 2, 1) := by decide +kernel
theorem dX7_nearest_24 : decode cX7_nearest 24 = .ok (.if_icmp .eq 14, 3) := by decide +kernel
theorem dX7_nearest_27 : decode cX7_nearest 27 = .ok (.aload_n 0, 1) := by decide +kernel
theorem dX7_nearest_28 : decode cX7_nearest 28 = .ok (.getfield 43, 3) := by decide +kernel
theorem dX7_nearest_31 : decode cX7_nearest 31 = .ok (.iload 5, 2) := by decide +kernel
theorem dX7_nearest_33 : decode cX7_nearest 33 = .ok (.iaload, 1) := by decide +kernel
theorem dX7_nearest_34 : decode cX7_nearest 34 = .ok (.iload_n 3, 1) := by decide +kernel
theorem dX7_nearest_35 : decode cX7_nearest 35 = .ok (.if_icmp .ne 105, 3) := by decide +kernel
theorem dX7_nearest_38 : decode cX7_nearest 38 = .ok (.aload_n 0, 1) := by decide +kernel
theorem dX7_nearest_39 : decode cX7_nearest 39 = .ok (.getfield 40, 3) := by decide +kernel
theorem dX7_nearest_42 : decode cX7_nearest 42 = .ok (.iload 5, 2) := by decide +kernel
theorem dX7_nearest_44 : decode cX7_nearest 44 = .ok (.iaload, 1) := by decide +kernel
theorem dX7_nearest_45 : decode cX7_nearest 45 = .ok (.aload_n 0, 1) := by decide +kernel
theorem dX7_nearest_46 : decode cX7_nearest 46 = .ok (.getfield 31, 3) := by decide +kernel
theorem dX7_nearest_49 : decode cX7_nearest 49 = .ok (.iload_n 1, 1) := by decide +kernel
theorem dX7_nearest_50 : decode cX7_nearest 50 = .ok (.iaload, 1) := by decide +kernel
theorem dX7_nearest_51 : decode cX7_nearest 51 = .ok (.isub, 1) := by decide +kernel
theorem dX7_nearest_52 : decode cX7_nearest 52 = .ok (.invokestatic 178, 3) := by decide +kernel
theorem dX7_nearest_55 : decode cX7_nearest 55 = .ok (.istore 6, 2) := by decide +kernel
theorem dX7_nearest_57 : decode cX7_nearest 57 = .ok (.iload 4, 2) := by decide +kernel
theorem dX7_nearest_59 : decode cX7_nearest 59 = .ok (.bipush (-9), 2) := by decide +kernel
theorem dX7_nearest_61 : decode cX7_nearest 61 = .ok (.if_icmp .ne 8, 3) := by decide +kernel
theorem dX7_nearest_64 : decode cX7_nearest 64 = .ok (.bipush 100, 2) := by decide +kernel
theorem dX7_nearest_66 : decode cX7_nearest 66 = .ok (.goto 20, 3) := by decide +kernel
theorem dX7_nearest_69 : decode cX7_nearest 69 = .ok (.aload_n 0, 1) := by decide +kernel
theorem dX7_nearest_70 : decode cX7_nearest 70 = .ok (.getfield 40, 3) := by decide +kernel
theorem dX7_nearest_73 : decode cX7_nearest 73 = .ok (.iload 4, 2) := by decide +kernel
theorem dX7_nearest_75 : decode cX7_nearest 75 = .ok (.iaload, 1) := by decide +kernel
theorem dX7_nearest_76 : decode cX7_nearest 76 = .ok (.aload_n 0, 1) := by decide +kernel
theorem dX7_nearest_77 : decode cX7_nearest 77 = .ok (.getfield 31, 3) := by decide +kernel
theorem dX7_nearest_80 : decode cX7_nearest 80 = .ok (.iload_n 1, 1) := by decide +kernel
theorem dX7_nearest_81 : decode cX7_nearest 81 = .ok (.iaload, 1) := by decide +kernel
theorem dX7_nearest_82 : decode cX7_nearest 82 = .ok (.isub, 1) := by decide +kernel
theorem dX7_nearest_83 : decode cX7_nearest 83 = .ok (.invokestatic 178, 3) := by decide +kernel
theorem dX7_nearest_86 : decode cX7_nearest 86 = .ok (.istore 7, 2) := by decide +kernel
theorem dX7_nearest_88 : decode cX7_nearest 88 = .ok (.iload 6, 2) := by decide +kernel
theorem dX7_nearest_90 : decode cX7_nearest 90 = .ok (.iload 7, 2) := by decide +kernel
theorem dX7_nearest_92 : decode cX7_nearest 92 = .ok (.if_icmp .lt 27, 3) := by decide +kernel
theorem dX7_nearest_95 : decode cX7_nearest 95 = .ok (.iload 6, 2) := by decide +kernel
theorem dX7_nearest_97 : decode cX7_nearest 97 = .ok (.iload 7, 2) := by decide +kernel
theorem dX7_nearest_99 : decode cX7_nearest 99 = .ok (.if_icmp .ne 24, 3) := by decide +kernel
theorem dX7_nearest_102 : decode cX7_nearest 102 = .ok (.aload_n 0, 1) := by decide +kernel
theorem dX7_nearest_103 : decode cX7_nearest 103 = .ok (.getfield 40, 3) := by decide +kernel
theorem dX7_nearest_106 : decode cX7_nearest 106 = .ok (.iload 5, 2) := by decide +kernel
theorem dX7_nearest_108 : decode cX7_nearest 108 = .ok (.iaload, 1) := by decide +kernel
theorem dX7_nearest_109 : decode cX7_nearest 109 = .ok (.aload_n 0, 1) := by decide +kernel
theorem dX7_nearest_110 : decode cX7_nearest 110 = .ok (.getfield 40, 3) := by decide +kernel
theorem dX7_nearest_113 : decode cX7_nearest 113 = .ok (.iload 4, 2) := by decide +kernel
theorem dX7_nearest_115 : decode cX7_nearest 115 = .ok (.iaload, 1) := by decide +kernel
theorem dX7_nearest_116 : decode cX7_nearest 116 = .ok (.if_icmp .ge 7, 3) := by decide +kernel
theorem dX7_nearest_119 : decode cX7_nearest 119 = .ok (.iconst 1, 1) := by decide +kernel
theorem dX7_nearest_120 : decode cX7_nearest 120 = .ok (.goto 4, 3) := by decide +kernel
theorem dX7_nearest_123 : decode cX7_nearest 123 = .ok (.iconst 0, 1) := by decide +kernel
theorem dX7_nearest_124 : decode cX7_nearest 124 = .ok (.istore 8, 2) := by decide +kernel
theorem dX7_nearest_126 : decode cX7_nearest 126 = .ok (.iload 8, 2) := by decide +kernel
theorem dX7_nearest_128 : decode cX7_nearest 128 = .ok (.ifCond .eq 8, 3) := by decide +kernel
theorem dX7_nearest_131 : decode cX7_nearest 131 = .ok (.iload 5, 2) := by decide +kernel
theorem dX7_nearest_133 : decode cX7_nearest 133 = .ok (.goto 5, 3) := by decide +kernel
theorem dX7_nearest_136 : decode cX7_nearest 136 = .ok (.iload 4, 2) := by decide +kernel
theorem dX7_nearest_138 : decode cX7_nearest 138 = .ok (.istore 4, 2) := by decide +kernel
theorem dX7_nearest_140 : decode cX7_nearest 140 = .ok (.iinc 5 1, 3) := by decide +kernel
theorem dX7_nearest_143 : decode cX7_nearest 143 = .ok (.goto (-136), 3) := by decide +kernel
theorem dX7_nearest_146 : decode cX7_nearest 146 = .ok (.iload 4, 2) := by decide +kernel
theorem dX7_nearest_148 : decode cX7_nearest 148 = .ok (.ireturn, 1) := by decide +kernel
theorem dX7_farTo_0 : decode cX7_farTo 0 = .ok (.aload_n 0, 1) := by decide +kernel
theorem dX7_farTo_1 : decode cX7_farTo 1 = .ok (.iload_n 1, 1) := by decide +kernel
theorem dX7_farTo_2 : decode cX7_farTo 2 = .ok (.iload_n 2, 1) := by decide +kernel
theorem dX7_farTo_3 : decode cX7_farTo 3 = .ok (.iload_n 2, 1) := by decide +kernel
theorem dX7_farTo_4 : decode cX7_farTo 4 = .ok (.invokevirtual 181, 3) := by decide +kernel
theorem dX7_farTo_7 : decode cX7_farTo 7 = .ok (.istore_n 3, 1) := by decide +kernel
theorem dX7_farTo_8 : decode cX7_farTo 8 = .ok (.iload_n 3, 1) := by decide +kernel
theorem dX7_farTo_9 : decode cX7_farTo 9 = .ok (.bipush (-9), 2) := by decide +kernel
theorem dX7_farTo_11 : decode cX7_farTo 11 = .ok (.if_icmp .ne 8, 3) := by decide +kernel
theorem dX7_farTo_14 : decode cX7_farTo 14 = .ok (.bipush (-9), 2) := by decide +kernel
theorem dX7_farTo_16 : decode cX7_farTo 16 = .ok (.goto 19, 3) := by decide +kernel
theorem dX7_farTo_19 : decode cX7_farTo 19 = .ok (.aload_n 0, 1) := by decide +kernel
theorem dX7_farTo_20 : decode cX7_farTo 20 = .ok (.getfield 40, 3) := by decide +kernel
theorem dX7_farTo_23 : decode cX7_farTo 23 = .ok (.iload_n 3, 1) := by decide +kernel
theorem dX7_farTo_24 : decode cX7_farTo 24 = .ok (.iaload, 1) := by decide +kernel
theorem dX7_farTo_25 : decode cX7_farTo 25 = .ok (.aload_n 0, 1) := by decide +kernel
theorem dX7_farTo_26 : decode cX7_farTo 26 = .ok (.getfield 31, 3) := by decide +kernel
theorem dX7_farTo_29 : decode cX7_farTo 29 = .ok (.iload_n 1, 1) := by decide +kernel
theorem dX7_farTo_30 : decode cX7_farTo 30 = .ok (.iaload, 1) := by decide +kernel
theorem dX7_farTo_31 : decode cX7_farTo 31 = .ok (.isub, 1) := by decide +kernel
theorem dX7_farTo_32 : decode cX7_farTo 32 = .ok (.invokestatic 178, 3) := by decide +kernel
theorem dX7_farTo_35 : decode cX7_farTo 35 = .ok (.ireturn, 1) := by decide +kernel
theorem dX7_wishOf_0 : decode cX7_wishOf 0 = .ok (.aload_n 0, 1) := by decide +kernel
theorem dX7_wishOf_1 : decode cX7_wishOf 1 = .ok (.iload_n 1, 1) := by decide +kernel
theorem dX7_wishOf_2 : decode cX7_wishOf 2 = .ok (.iconst 2, 1) := by decide +kernel
theorem dX7_wishOf_3 : decode cX7_wishOf 3 = .ok (.invokevirtual 185, 3) := by decide +kernel
theorem dX7_wishOf_6 : decode cX7_wishOf 6 = .ok (.ifCond .eq 5, 3) := by decide +kernel
theorem dX7_wishOf_9 : decode cX7_wishOf 9 = .ok (.iconst 0, 1) := by decide +kernel
theorem dX7_wishOf_10 : decode cX7_wishOf 10 = .ok (.ireturn, 1) := by decide +kernel
theorem dX7_wishOf_11 : decode cX7_wishOf 11 = .ok (.aload_n 0, 1) := by decide +kernel
theorem dX7_wishOf_12 : decode cX7_wishOf 12 = .ok (.getfield 34, 3) := by decide +kernel
theorem dX7_wishOf_15 : decode cX7_wishOf 15 = .ok (.iload_n 1, 1) := by decide +kernel
theorem dX7_wishOf_16 : decode cX7_wishOf 16 = .ok (.iaload, 1) := by decide +kernel
theorem dX7_wishOf_17 : decode cX7_wishOf 17 = .ok (.iconst 4, 1) := by decide +kernel
theorem dX7_wishOf_18 : decode cX7_wishOf 18 = .ok (.if_icmp .ne 8, 3) := by decide +kernel
theorem dX7_wishOf_21 : decode cX7_wishOf 21 = .ok (.bipush (-9), 2) := by decide +kernel
theorem dX7_wishOf_23 : decode cX7_wishOf 23 = .ok (.goto 9, 3) := by decide +kernel
theorem dX7_wishOf_26 : decode cX7_wishOf 26 = .ok (.aload_n 0, 1) := by decide +kernel
theorem dX7_wishOf_27 : decode cX7_wishOf 27 = .ok (.getfield 34, 3) := by decide +kernel
theorem dX7_wishOf_30 : decode cX7_wishOf 30 = .ok (.iload_n 1, 1) := by decide +kernel
theorem dX7_wishOf_31 : decode cX7_wishOf 31 = .ok (.iaload, 1) := by decide +kernel
theorem dX7_wishOf_32 : decode cX7_wishOf 32 = .ok (.istore_n 2, 1) := by decide +kernel
theorem dX7_wishOf_33 : decode cX7_wishOf 33 = .ok (.aload_n 0, 1) := by decide +kernel
theorem dX7_wishOf_34 : decode cX7_wishOf 34 = .ok (.iload_n 1, 1) := by decide +kernel
theorem dX7_wishOf_35 : decode cX7_wishOf 35 = .ok (.iload_n 2, 1) := by decide +kernel
theorem dX7_wishOf_36 : decode cX7_wishOf 36 = .ok (.aload_n 0, 1) := by decide +kernel
theorem dX7_wishOf_37 : decode cX7_wishOf 37 = .ok (.getfield 28, 3) := by decide +kernel
theorem dX7_wishOf_40 : decode cX7_wishOf 40 = .ok (.iload_n 1, 1) := by decide +kernel
theorem dX7_wishOf_41 : decode cX7_wishOf 41 = .ok (.iaload, 1) := by decide +kernel
theorem dX7_wishOf_42 : decode cX7_wishOf 42 = .ok (.iconst 3, 1) := by decide +kernel
theorem dX7_wishOf_43 : decode cX7_wishOf 43 = .ok (.if_icmp .ne 7, 3) := by decide +kernel
theorem dX7_wishOf_46 : decode cX7_wishOf 46 = .ok (.iconst 3, 1) := by decide +kernel
theorem dX7_wishOf_47 : decode cX7_wishOf 47 = .ok (.goto 4, 3) := by decide +kernel
theorem dX7_wishOf_50 : decode cX7_wishOf 50 = .ok (.iload_n 2, 1) := by decide +kernel
theorem dX7_wishOf_51 : decode cX7_wishOf 51 = .ok (.invokevirtual 181, 3) := by decide +kernel
theorem dX7_wishOf_54 : decode cX7_wishOf 54 = .ok (.istore_n 3, 1) := by decide +kernel
theorem dX7_wishOf_55 : decode cX7_wishOf 55 = .ok (.iload_n 3, 1) := by decide +kernel
theorem dX7_wishOf_56 : decode cX7_wishOf 56 = .ok (.bipush (-9), 2) := by decide +kernel
theorem dX7_wishOf_58 : decode cX7_wishOf 58 = .ok (.if_icmp .ne 7, 3) := by decide +kernel
theorem dX7_wishOf_61 : decode cX7_wishOf 61 = .ok (.iconst 0, 1) := by decide +kernel
theorem dX7_wishOf_62 : decode cX7_wishOf 62 = .ok (.goto 16, 3) := by decide +kernel
theorem dX7_wishOf_65 : decode cX7_wishOf 65 = .ok (.aload_n 0, 1) := by decide +kernel
theorem dX7_wishOf_66 : decode cX7_wishOf 66 = .ok (.getfield 40, 3) := by decide +kernel
theorem dX7_wishOf_69 : decode cX7_wishOf 69 = .ok (.iload_n 3, 1) := by decide +kernel
theorem dX7_wishOf_70 : decode cX7_wishOf 70 = .ok (.iaload, 1) := by decide +kernel
theorem dX7_wishOf_71 : decode cX7_wishOf 71 = .ok (.aload_n 0, 1) := by decide +kernel
theorem dX7_wishOf_72 : decode cX7_wishOf 72 = .ok (.getfield 31, 3) := by decide +kernel
theorem dX7_wishOf_75 : decode cX7_wishOf 75 = .ok (.iload_n 1, 1) := by decide +kernel
theorem dX7_wishOf_76 : decode cX7_wishOf 76 = .ok (.iaload, 1) := by decide +kernel
theorem dX7_wishOf_77 : decode cX7_wishOf 77 = .ok (.isub, 1) := by decide +kernel
theorem dX7_wishOf_78 : decode cX7_wishOf 78 = .ok (.istore 4, 2) := by decide +kernel
theorem dX7_wishOf_80 : decode cX7_wishOf 80 = .ok (.iload 4, 2) := by decide +kernel
theorem dX7_wishOf_82 : decode cX7_wishOf 82 = .ok (.ifCond .le 7, 3) := by decide +kernel
theorem dX7_wishOf_85 : decode cX7_wishOf 85 = .ok (.iconst 1, 1) := by decide +kernel
theorem dX7_wishOf_86 : decode cX7_wishOf 86 = .ok (.goto 13, 3) := by decide +kernel
theorem dX7_wishOf_89 : decode cX7_wishOf 89 = .ok (.iload 4, 2) := by decide +kernel
theorem dX7_wishOf_91 : decode cX7_wishOf 91 = .ok (.ifCond .ge 7, 3) := by decide +kernel
theorem dX7_wishOf_94 : decode cX7_wishOf 94 = .ok (.iconst (-1), 1) := by decide +kernel
theorem dX7_wishOf_95 : decode cX7_wishOf 95 = .ok (.goto 4, 3) := by decide +kernel
theorem dX7_wishOf_98 : decode cX7_wishOf 98 = .ok (.iconst 0, 1) := by decide +kernel
theorem dX7_wishOf_99 : decode cX7_wishOf 99 = .ok (.ireturn, 1) := by decide +kernel
theorem dX7_mark_0 : decode cX7_mark 0 = .ok (.aload_n 0, 1) := by decide +kernel
theorem dX7_mark_1 : decode cX7_mark 1 = .ok (.iload_n 1, 1) := by decide +kernel
theorem dX7_mark_2 : decode cX7_mark 2 = .ok (.invokevirtual 166, 3) := by decide +kernel
theorem dX7_mark_5 : decode cX7_mark 5 = .ok (.ifCond .eq 12, 3) := by decide +kernel
theorem dX7_mark_8 : decode cX7_mark 8 = .ok (.iload_n 2, 1) := by decide +kernel
theorem dX7_mark_9 : decode cX7_mark 9 = .ok (.iconst 1, 1) := by decide +kernel
theorem dX7_mark_10 : decode cX7_mark 10 = .ok (.iconst 5, 1) := by decide +kernel
theorem dX7_mark_11 : decode cX7_mark 11 = .ok (.invokestatic 83, 3) := by decide +kernel
theorem dX7_mark_14 : decode cX7_mark 14 = .ok (.ifCond .ne 5, 3) := by decide +kernel
theorem dX7_mark_17 : decode cX7_mark 17 = .ok (.iconst (-1), 1) := by decide +kernel
theorem dX7_mark_18 : decode cX7_mark 18 = .ok (.ireturn, 1) := by decide +kernel
theorem dX7_mark_19 : decode cX7_mark 19 = .ok (.aload_n 0, 1) := by decide +kernel
theorem dX7_mark_20 : decode cX7_mark 20 = .ok (.iload_n 1, 1) := by decide +kernel
theorem dX7_mark_21 : decode cX7_mark 21 = .ok (.iload_n 2, 1) := by decide +kernel
theorem dX7_mark_22 : decode cX7_mark 22 = .ok (.invokevirtual 185, 3) := by decide +kernel
theorem dX7_mark_25 : decode cX7_mark 25 = .ok (.ifCond .ne 9, 3) := by decide +kernel
theorem dX7_mark_28 : decode cX7_mark 28 = .ok (.aload_n 0, 1) := by decide +kernel
theorem dX7_mark_29 : decode cX7_mark 29 = .ok (.iconst 3, 1) := by decide +kernel
theorem dX7_mark_30 : decode cX7_mark 30 = .ok (.invokevirtual 91, 3) := by decide +kernel
theorem dX7_mark_33 : decode cX7_mark 33 = .ok (.ireturn, 1) := by decide +kernel
theorem dX7_mark_34 : decode cX7_mark 34 = .ok (.iconst 0, 1) := by decide +kernel
theorem dX7_mark_35 : decode cX7_mark 35 = .ok (.istore_n 3, 1) := by decide +kernel
