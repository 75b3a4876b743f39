theorem dX7_setFits_0 : decode cX7_setFits 0 = .ok (.aload_n 0, 1) := by decide +kernel
theorem dX7_setFits_1 : decode cX7_setFits 1 = .ok (.iconst 0, 1) := by decide +kernel
theorem dX7_setFits_2 : decode cX7_setFits 2 = .ok (.putfield 295, 3) := by decide +kernel
theorem dX7_setFits_5 : decode cX7_setFits 5 = .ok (.aload_n 0, 1) := by decide +kernel
theorem dX7_setFits_6 : decode cX7_setFits 6 = .ok (.bipush (-9), 2) := by decide +kernel
theorem dX7_setFits_8 : decode cX7_setFits 8 = .ok (.putfield 298, 3) := by decide +kernel
theorem dX7_setFits_11 : decode cX7_setFits 11 = .ok (.iconst 0, 1) := by decide +kernel
theorem dX7_setFits_12 : decode cX7_setFits 12 = .ok (.istore 4, 2) := by decide +kernel
theorem dX7_setFits_14 : decode cX7_setFits 14 = .ok (.iload 4, 2) := by decide +kernel
theorem dX7_setFits_16 : decode cX7_setFits 16 = .ok (.bipush 6, 2) := by decide +kernel
theorem dX7_setFits_18 : decode cX7_setFits 18 = .ok (.if_icmp .ge 31, 3) := by decide +kernel
theorem dX7_setFits_21 : decode cX7_setFits 21 = .ok (.aload_n 0, 1) := by decide +kernel
theorem dX7_setFits_22 : decode cX7_setFits 22 = .ok (.getfield 73, 3) := by decide +kernel
theorem dX7_setFits_25 : decode cX7_setFits 25 = .ok (.iload 4, 2) := by decide +kernel
theorem dX7_setFits_27 : decode cX7_setFits 27 = .ok (.iconst 0, 1) := by decide +kernel
theorem dX7_setFits_28 : decode cX7_setFits 28 = .ok (.iastore, 1) := by decide +kernel
theorem dX7_setFits_29 : decode cX7_setFits 29 = .ok (.aload_n 0, 1) := by decide +kernel
theorem dX7_setFits_30 : decode cX7_setFits 30 = .ok (.getfield 70, 3) := by decide +kernel
theorem dX7_setFits_33 : decode cX7_setFits 33 = .ok (.iload 4, 2) := by decide +kernel
theorem dX7_setFits_35 : decode cX7_setFits 35 = .ok (.aload_n 0, 1) := by decide +kernel
theorem dX7_setFits_36 : decode cX7_setFits 36 = .ok (.getfield 34, 3) := by decide +kernel
theorem dX7_setFits_39 : decode cX7_setFits 39 = .ok (.iload 4, 2) := by decide +kernel
theorem dX7_setFits_41 : decode cX7_setFits 41 = .ok (.iaload, 1) := by decide +kernel
theorem dX7_setFits_42 : decode cX7_setFits 42 = .ok (.iastore, 1) := by decide +kernel
theorem dX7_setFits_43 : decode cX7_setFits 43 = .ok (.iinc 4 1, 3) := by decide +kernel
theorem dX7_setFits_46 : decode cX7_setFits 46 = .ok (.goto (-32), 3) := by decide +kernel
theorem dX7_setFits_49 : decode cX7_setFits 49 = .ok (.aload_n 0, 1) := by decide +kernel
theorem dX7_setFits_50 : decode cX7_setFits 50 = .ok (.iload_n 1, 1) := by decide +kernel
theorem dX7_setFits_51 : decode cX7_setFits 51 = .ok (.iload_n 2, 1) := by decide +kernel
theorem dX7_setFits_52 : decode cX7_setFits 52 = .ok (.iload_n 3, 1) := by decide +kernel
theorem dX7_setFits_53 : decode cX7_setFits 53 = .ok (.iconst 0, 1) := by decide +kernel
theorem dX7_setFits_54 : decode cX7_setFits 54 = .ok (.iconst 0, 1) := by decide +kernel
theorem dX7_setFits_55 : decode cX7_setFits 55 = .ok (.invokevirtual 301, 3) := by decide +kernel
theorem dX7_setFits_58 : decode cX7_setFits 58 = .ok (.iconst 0, 1) := by decide +kernel
theorem dX7_setFits_59 : decode cX7_setFits 59 = .ok (.istore 4, 2) := by decide +kernel
theorem dX7_setFits_61 : decode cX7_setFits 61 = .ok (.iload 4, 2) := by decide +kernel
theorem dX7_setFits_63 : decode cX7_setFits 63 = .ok (.bipush 6, 2) := by decide +kernel
theorem dX7_setFits_65 : decode cX7_setFits 65 = .ok (.if_icmp .ge 23, 3) := by decide +kernel
theorem dX7_setFits_68 : decode cX7_setFits 68 = .ok (.aload_n 0, 1) := by decide +kernel
theorem dX7_setFits_69 : decode cX7_setFits 69 = .ok (.getfield 34, 3) := by decide +kernel
theorem dX7_setFits_72 : decode cX7_setFits 72 = .ok (.iload 4, 2) := by decide +kernel
theorem dX7_setFits_74 : decode cX7_setFits 74 = .ok (.aload_n 0, 1) := by decide +kernel
theorem dX7_setFits_75 : decode cX7_setFits 75 = .ok (.getfield 70, 3) := by decide +kernel
theorem dX7_setFits_78 : decode cX7_setFits 78 = .ok (.iload 4, 2) := by decide +kernel
theorem dX7_setFits_80 : decode cX7_setFits 80 = .ok (.iaload, 1) := by decide +kernel
theorem dX7_setFits_81 : decode cX7_setFits 81 = .ok (.iastore, 1) := by decide +kernel
theorem dX7_setFits_82 : decode cX7_setFits 82 = .ok (.iinc 4 1, 3) := by decide +kernel
theorem dX7_setFits_85 : decode cX7_setFits 85 = .ok (.goto (-24), 3) := by decide +kernel
theorem dX7_setFits_88 : decode cX7_setFits 88 = .ok (.return_, 1) := by decide +kernel
theorem dX7_fitOn_0 : decode cX7_fitOn 0 = .ok (.iload 4, 2) := by decide +kernel
theorem dX7_fitOn_2 : decode cX7_fitOn 2 = .ok (.aload_n 0, 1) := by decide +kernel
theorem dX7_fitOn_3 : decode cX7_fitOn 3 = .ok (.getfield 151, 3) := by decide +kernel
theorem dX7_fitOn_6 : decode cX7_fitOn 6 = .ok (.if_icmp .ne 80, 3) := by decide +kernel
theorem dX7_fitOn_9 : decode cX7_fitOn 9 = .ok (.aload_n 0, 1) := by decide +kernel
theorem dX7_fitOn_10 : decode cX7_fitOn 10 = .ok (.iload_n 2, 1) := by decide +kernel
theorem dX7_fitOn_11 : decode cX7_fitOn 11 = .ok (.iload_n 3, 1) := by decide +kernel
theorem dX7_fitOn_12 : decode cX7_fitOn 12 = .ok (.invokevirtual 305, 3) := by decide +kernel
theorem dX7_fitOn_15 : decode cX7_fitOn 15 = .ok (.ifCond .eq 70, 3) := by decide +kernel
theorem dX7_fitOn_18 : decode cX7_fitOn 18 = .ok (.aload_n 0, 1) := by decide +kernel
theorem dX7_fitOn_19 : decode cX7_fitOn 19 = .ok (.aload_n 0, 1) := by decide +kernel
theorem dX7_fitOn_20 : decode cX7_fitOn 20 = .ok (.getfield 295, 3) := by decide +kernel
theorem dX7_fitOn_23 : decode cX7_fitOn 23 = .ok (.ifCond .ne 8, 3) := by decide +kernel
theorem dX7_fitOn_26 : decode cX7_fitOn 26 = .ok (.iload 5, 2) := by decide +kernel
theorem dX7_fitOn_28 : decode cX7_fitOn 28 = .ok (.goto 7, 3) := by decide +kernel
theorem dX7_fitOn_31 : decode cX7_fitOn 31 = .ok (.aload_n 0, 1) := by decide +kernel
theorem dX7_fitOn_32 : decode cX7_fitOn 32 = .ok (.getfield 298, 3) := by decide +kernel
theorem dX7_fitOn_35 : decode cX7_fitOn 35 = .ok (.putfield 298, 3) := by decide +kernel
theorem dX7_fitOn_38 : decode cX7_fitOn 38 = .ok (.aload_n 0, 1) := by decide +kernel
theorem dX7_fitOn_39 : decode cX7_fitOn 39 = .ok (.dup, 1) := by decide +kernel
theorem dX7_fitOn_40 : decode cX7_fitOn 40 = .ok (.getfield 295, 3) := by decide +kernel
theorem dX7_fitOn_43 : decode cX7_fitOn 43 = .ok (.iconst 1, 1) := by decide +kernel
theorem dX7_fitOn_44 : decode cX7_fitOn 44 = .ok (.iadd, 1) := by decide +kernel
theorem dX7_fitOn_45 : decode cX7_fitOn 45 = .ok (.putfield 295, 3) := by decide +kernel
theorem dX7_fitOn_48 : decode cX7_fitOn 48 = .ok (.iconst 0, 1) := by decide +kernel
theorem dX7_fitOn_49 : decode cX7_fitOn 49 = .ok (.istore 6, 2) := by decide +kernel
theorem dX7_fitOn_51 : decode cX7_fitOn 51 = .ok (.iload 6, 2) := by decide +kernel
theorem dX7_fitOn_53 : decode cX7_fitOn 53 = .ok (.aload_n 0, 1) := by decide +kernel
theorem dX7_fitOn_54 : decode cX7_fitOn 54 = .ok (.getfield 151, 3) := by decide +kernel
theorem dX7_fitOn_57 : decode cX7_fitOn 57 = .ok (.if_icmp .ge 28, 3) := by decide +kernel
theorem dX7_fitOn_60 : decode cX7_fitOn 60 = .ok (.aload_n 0, 1) := by decide +kernel
theorem dX7_fitOn_61 : decode cX7_fitOn 61 = .ok (.getfield 73, 3) := by decide +kernel
theorem dX7_fitOn_64 : decode cX7_fitOn 64 = .ok (.iload 6, 2) := by decide +kernel
theorem dX7_fitOn_66 : decode cX7_fitOn 66 = .ok (.dup2, 1) := by decide +kernel
theorem dX7_fitOn_67 : decode cX7_fitOn 67 = .ok (.iaload, 1) := by decide +kernel
theorem dX7_fitOn_68 : decode cX7_fitOn 68 = .ok (.iconst 1, 1) := by decide +kernel
theorem dX7_fitOn_69 : decode cX7_fitOn 69 = .ok (.aload_n 0, 1) := by decide +kernel
theorem dX7_fitOn_70 : decode cX7_fitOn 70 = .ok (.getfield 34, 3) := by decide +kernel
theorem dX7_fitOn_73 : decode cX7_fitOn 73 = .ok (.iload 6, 2) := by decide +kernel
theorem dX7_fitOn_75 : decode cX7_fitOn 75 = .ok (.iaload, 1) := by decide +kernel
theorem dX7_fitOn_76 : decode cX7_fitOn 76 = .ok (.ishl, 1) := by decide +kernel
theorem dX7_fitOn_77 : decode cX7_fitOn 77 = .ok (.ior, 1) := by decide +kernel
theorem dX7_fitOn_78 : decode cX7_fitOn 78 = .ok (.iastore, 1) := by decide +kernel
theorem dX7_fitOn_79 : decode cX7_fitOn 79 = .ok (.iinc 6 1, 3) := by decide +kernel
theorem dX7_fitOn_82 : decode cX7_fitOn 82 = .ok (.goto (-31), 3) := by decide +kernel
theorem dX7_fitOn_85 : decode cX7_fitOn 85 = .ok (.return_, 1) := by decide +kernel
theorem dX7_fitOn_86 : decode cX7_fitOn 86 = .ok (.iload_n 1, 1) := by decide +kernel
theorem dX7_fitOn_87 : decode cX7_fitOn 87 = .ok (.iload 4, 2) := by decide +kernel
theorem dX7_fitOn_89 : decode cX7_fitOn 89 = .ok (.invokestatic 207, 3) := by decide +kernel
theorem dX7_fitOn_92 : decode cX7_fitOn 92 = .ok (.ifCond .ne 17, 3) := by decide +kernel
theorem dX7_fitOn_95 : decode cX7_fitOn 95 = .ok (.aload_n 0, 1) := by decide +kernel
theorem dX7_fitOn_96 : decode cX7_fitOn 96 = .ok (.iload_n 1, 1) := by decide +kernel
theorem dX7_fitOn_97 : decode cX7_fitOn 97 = .ok (.iload_n 2, 1) := by decide +kernel
theorem dX7_fitOn_98 : decode cX7_fitOn 98 = .ok (.iload_n 3, 1) := by decide +kernel
theorem dX7_fitOn_99 : decode cX7_fitOn 99 = .ok (.iload 4, 2) := by decide +kernel
theorem dX7_fitOn_101 : decode cX7_fitOn 101 = .ok (.iconst 1, 1) := by decide +kernel
theorem dX7_fitOn_102 : decode cX7_fitOn 102 = .ok (.iadd, 1) := by decide +kernel
theorem dX7_fitOn_103 : decode cX7_fitOn 103 = .ok (.iload 5, 2) := by decide +kernel
theorem dX7_fitOn_105 : decode cX7_fitOn 105 = .ok (.invokevirtual 301, 3) := by decide +kernel
theorem dX7_fitOn_108 : decode cX7_fitOn 108 = .ok (.return_, 1) := by decide +kernel
theorem dX7_fitOn_109 : decode cX7_fitOn 109 = .ok (.iconst 0, 1) := by decide +kernel
theorem dX7_fitOn_110 : decode cX7_fitOn 110 = .ok (.istore 6, 2) := by decide +kernel
theorem dX7_fitOn_112 : decode cX7_fitOn 112 = .ok (.iload 6, 2) := by decide +kernel
theorem dX7_fitOn_114 : decode cX7_fitOn 114 = .ok (.iconst 4, 1) := by decide +kernel
theorem dX7_fitOn_115 : decode cX7_fitOn 115 = .ok (.if_icmp .gt 36, 3) := by decide +kernel
theorem dX7_fitOn_118 : decode cX7_fitOn 118 = .ok (.aload_n 0, 1) := by decide +kernel
theorem dX7_fitOn_119 : decode cX7_fitOn 119 = .ok (.getfield 34, 3) := by decide +kernel
theorem dX7_fitOn_122 : decode cX7_fitOn 122 = .ok (.iload 4, 2) := by decide +kernel
theorem dX7_fitOn_124 : decode cX7_fitOn 124 = .ok (.iload 6, 2) := by decide +kernel
theorem dX7_fitOn_126 : decode cX7_fitOn 126 = .ok (.iastore, 1) := by decide +kernel
theorem dX7_fitOn_127 : decode cX7_fitOn 127 = .ok (.aload_n 0, 1) := by decide +kernel
theorem dX7_fitOn_128 : decode cX7_fitOn 128 = .ok (.iload_n 1, 1) := by decide +kernel
theorem dX7_fitOn_129 : decode cX7_fitOn 129 = .ok (.iload_n 2, 1) := by decide +kernel
theorem dX7_fitOn_130 : decode cX7_fitOn 130 = .ok (.iload_n 3, 1) := by decide +kernel
theorem dX7_fitOn_131 : decode cX7_fitOn 131 = .ok (.iload 4, 2) := by decide +kernel
theorem dX7_fitOn_133 : decode cX7_fitOn 133 = .ok (.iconst 1, 1) := by decide +kernel
theorem dX7_fitOn_134 : decode cX7_fitOn 134 = .ok (.iadd, 1) := by decide +kernel
theorem dX7_fitOn_135 : decode cX7_fitOn 135 = .ok (.iconst 5, 1) := by decide +kernel
theorem dX7_fitOn_136 : decode cX7_fitOn 136 = .ok (.iload 5, 2) := by decide +kernel
theorem dX7_fitOn_138 : decode cX7_fitOn 138 = .ok (.imul, 1) := by decide +kernel
theorem dX7_fitOn_139 : decode cX7_fitOn 139 = .ok (.iload 6, 2) := by decide +kernel
theorem dX7_fitOn_141 : decode cX7_fitOn 141 = .ok (.iadd, 1) := by decide +kernel
theorem dX7_fitOn_142 : decode cX7_fitOn 142 = .ok (.invokevirtual 301, 3) := by decide +kernel
theorem dX7_fitOn_145 : decode cX7_fitOn 145 = .ok (.iinc 6 1, 3) := by decide +kernel
theorem dX7_fitOn_148 : decode cX7_fitOn 148 = .ok (.goto (-36), 3) := by decide +kernel
theorem dX7_fitOn_151 : decode cX7_fitOn 151 = .ok (.return_, 1) := by decide +kernel
theorem dX7_isTrack_0 : decode cX7_isTrack 0 = .ok (.aload_n 0, 1) := by decide +kernel
theorem dX7_isTrack_1 : decode cX7_isTrack 1 = .ok (.invokevirtual 253, 3) := by decide +kernel
theorem dX7_isTrack_4 : decode cX7_isTrack 4 = .ok (.iconst 0, 1) := by decide +kernel
theorem dX7_isTrack_5 : decode cX7_isTrack 5 = .ok (.istore_n 3, 1) := by decide +kernel
theorem dX7_isTrack_6 : decode cX7_isTrack 6 = .ok (.iload_n 3, 1) := by decide +kernel
theorem dX7_isTrack_7 : decode cX7_isTrack 7 = .ok (.iload_n 1, 1) := by decide +kernel
theorem dX7_isTrack_8 : decode cX7_isTrack 8 = .ok (.if_icmp .ge 16, 3) := by decide +kernel
theorem dX7_isTrack_11 : decode cX7_isTrack 11 = .ok (.aload_n 0, 1) := by decide +kernel
theorem dX7_isTrack_12 : decode cX7_isTrack 12 = .ok (.iconst 0, 1) := by decide +kernel
theorem dX7_isTrack_13 : decode cX7_isTrack 13 = .ok (.bipush (-9), 2) := by decide +kernel
theorem dX7_isTrack_15 : decode cX7_isTrack 15 = .ok (.invokevirtual 241, 3) := by decide +kernel
theorem dX7_isTrack_18 : decode cX7_isTrack 18 = .ok (.iinc 3 1, 3) := by decide +kernel
theorem dX7_isTrack_21 : decode cX7_isTrack 21 = .ok (.goto (-15), 3) := by decide +kernel
theorem dX7_isTrack_24 : decode cX7_isTrack 24 = .ok (.iconst 1, 1) := by decide +kernel
theorem dX7_isTrack_25 : decode cX7_isTrack 25 = .ok (.istore_n 3, 1) := by decide +kernel
theorem dX7_isTrack_26 : decode cX7_isTrack 26 = .ok (.iconst 0, 1) := by decide +kernel
theorem dX7_isTrack_27 : decode cX7_isTrack 27 = .ok (.istore 4, 2) := by decide +kernel
theorem dX7_isTrack_29 : decode cX7_isTrack 29 = .ok (.iload 4, 2) := by decide +kernel
theorem dX7_isTrack_31 : decode cX7_isTrack 31 = .ok (.aload_n 0, 1) := by decide +kernel
theorem dX7_isTrack_32 : decode cX7_isTrack 32 = .ok (.getfield 151, 3) := by decide +kernel
theorem dX7_isTrack_35 : decode cX7_isTrack 35 = .ok (.if_icmp .ge 48, 3) := by decide +kernel
theorem dX7_isTrack_38 : decode cX7_isTrack 38 = .ok (.iload_n 3, 1) := by decide +kernel
theorem dX7_isTrack_39 : decode cX7_isTrack 39 = .ok (.ifCond .eq 36, 3) := by decide +kernel
theorem dX7_isTrack_42 : decode cX7_isTrack 42 = .ok (.aload_n 0, 1) := by decide +kernel
theorem dX7_isTrack_43 : decode cX7_isTrack 43 = .ok (.iload_n 2, 1) := by decide +kernel
theorem dX7_isTrack_44 : decode cX7_isTrack 44 = .ok (.iload 4, 2) := by decide +kernel
theorem dX7_isTrack_46 : decode cX7_isTrack 46 = .ok (.invokevirtual 105, 3) := by decide +kernel
theorem dX7_isTrack_49 : decode cX7_isTrack 49 = .ok (.bipush (-9), 2) := by decide +kernel
theorem dX7_isTrack_51 : decode cX7_isTrack 51 = .ok (.if_icmp .eq 20, 3) := by decide +kernel
theorem dX7_isTrack_54 : decode cX7_isTrack 54 = .ok (.aload_n 0, 1) := by decide +kernel
theorem dX7_isTrack_55 : decode cX7_isTrack 55 = .ok (.iload_n 2, 1) := by decide +kernel
theorem dX7_isTrack_56 : decode cX7_isTrack 56 = .ok (.iload 4, 2) := by decide +kernel
theorem dX7_isTrack_58 : decode cX7_isTrack 58 = .ok (.invokevirtual 105, 3) := by decide +kernel
theorem dX7_isTrack_61 : decode cX7_isTrack 61 = .ok (.aload_n 0, 1) := by decide +kernel
theorem dX7_isTrack_62 : decode cX7_isTrack 62 = .ok (.getfield 31, 3) := by decide +kernel
theorem dX7_isTrack_65 : decode cX7_isTrack 65 = .ok (.iload 4, 2) := by decide +kernel
theorem dX7_isTrack_67 : decode cX7_isTrack 67 = .ok (.iaload, 1) := by decide +kernel
theorem dX7_isTrack_68 : decode cX7_isTrack 68 = .ok (.if_icmp .ne 7, 3) := by decide +kernel
theorem dX7_isTrack_71 : decode cX7_isTrack 71 = .ok (.iconst 1, 1) := by decide +kernel
theorem dX7_isTrack_72 : decode cX7_isTrack 72 = .ok (.goto 4, 3) := by decide +kernel
theorem dX7_isTrack_75 : decode cX7_isTrack 75 = .ok (.iconst 0, 1) := by decide +kernel
theorem dX7_isTrack_76 : decode cX7_isTrack 76 = .ok (.istore_n 3, 1) := by decide +kernel
theorem dX7_isTrack_77 : decode cX7_isTrack 77 = .ok (.iinc 4 1, 3) := by decide +kernel
theorem dX7_isTrack_80 : decode cX7_isTrack 80 = .ok (.goto (-51), 3) := by decide +kernel
theorem dX7_isTrack_83 : decode cX7_isTrack 83 = .ok (.aload_n 0, 1) := by decide +kernel
theorem dX7_isTrack_84 : decode cX7_isTrack 84 = .ok (.invokevirtual 256, 3) := by decide +kernel
theorem dX7_isTrack_87 : decode cX7_isTrack 87 = .ok (.iload_n 3, 1) := by decide +kernel
theorem dX7_isTrack_88 : decode cX7_isTrack 88 = .ok (.ireturn, 1) := by decide +kernel
theorem dX7_fits_0 : decode cX7_fits 0 = .ok (.aload_n 0, 1) := by decide +kernel
theorem dX7_fits_1 : decode cX7_fits 1 = .ok (.iload_n 1, 1) := by decide +kernel
theorem dX7_fits_2 : decode cX7_fits 2 = .ok (.iload_n 2, 1) := by decide +kernel
theorem dX7_fits_3 : decode cX7_fits 3 = .ok (.iload_n 3, 1) := by decide +kernel
theorem dX7_fits_4 : decode cX7_fits 4 = .ok (.invokevirtual 308, 3) := by decide +kernel
theorem dX7_fits_7 : decode cX7_fits 7 = .ok (.istore 4, 2) := by decide +kernel
theorem dX7_fits_9 : decode cX7_fits 9 = .ok (.iload 4, 2) := by decide +kernel
theorem dX7_fits_11 : decode cX7_fits 11 = .ok (.ifCond .ge 6, 3) := by decide +kernel
theorem dX7_fits_14 : decode cX7_fits 14 = .ok (.iload 4, 2) := by decide +kernel
theorem dX7_fits_16 : decode cX7_fits 16 = .ok (.ireturn, 1) := by decide +kernel
theorem dX7_fits_17 : decode cX7_fits 17 = .ok (.aload_n 0, 1) := by decide +kernel
theorem dX7_fits_18 : decode cX7_fits 18 = .ok (.iload_n 1, 1) := by decide +kernel
theorem dX7_fits_19 : decode cX7_fits 19 = .ok (.iload_n 2, 1) := by decide +kernel
theorem dX7_fits_20 : decode cX7_fits 20 = .ok (.iload_n 3, 1) := by decide +kernel
theorem dX7_fits_21 : decode cX7_fits 21 = .ok (.invokevirtual 311, 3) := by decide +kernel
theorem dX7_fits_24 : decode cX7_fits 24 = .ok (.aload_n 0, 1) := by decide +kernel
theorem dX7_fits_25 : decode cX7_fits 25 = .ok (.aload_n 0, 1) := by decide +kernel
theorem dX7_fits_26 : decode cX7_fits 26 = .ok (.getfield 298, 3) := by decide +kernel
theorem dX7_fits_29 : decode cX7_fits 29 = .ok (.aload_n 0, 1) := by decide +kernel
theorem dX7_fits_30 : decode cX7_fits 30 = .ok (.getfield 295, 3) := by decide +kernel
theorem dX7_fits_33 : decode cX7_fits 33 = .ok (.invokevirtual 109, 3) := by decide +kernel
theorem dX7_fits_36 : decode cX7_fits 36 = .ok (.ireturn, 1) := by decide +kernel
theorem dX7_could_0 : decode cX7_could 0 = .ok (.aload_n 0, 1) := by decide +kernel
theorem dX7_could_1 : decode cX7_could 1 = .ok (.iload 4, 2) := by decide +kernel
theorem dX7_could_3 : decode cX7_could 3 = .ok (.invokevirtual 166, 3) := by decide +kernel
theorem dX7_could_6 : decode cX7_could 6 = .ok (.ifCond .eq 12, 3) := by decide +kernel
theorem dX7_could_9 : decode cX7_could 9 = .ok (.iload_n 1, 1) := by decide +kernel
theorem dX7_could_10 : decode cX7_could 10 = .ok (.iload 4, 2) := by decide +kernel
theorem dX7_could_12 : decode cX7_could 12 = .ok (.invokestatic 207, 3) := by decide +kernel
theorem dX7_could_15 : decode cX7_could 15 = .ok (.ifCond .ne 5, 3) := by decide +kernel
theorem dX7_could_18 : decode cX7_could 18 = .ok (.iconst (-1), 1) := by decide +kernel
theorem dX7_could_19 : decode cX7_could 19 = .ok (.ireturn, 1) := by decide +kernel
theorem dX7_could_20 : decode cX7_could 20 = .ok (.aload_n 0, 1) := by decide +kernel
theorem dX7_could_21 : decode cX7_could 21 = .ok (.iload_n 1, 1) := by decide +kernel
theorem dX7_could_22 : decode cX7_could 22 = .ok (.iload_n 2, 1) := by decide +kernel
theorem dX7_could_23 : decode cX7_could 23 = .ok (.iload_n 3, 1) := by decide +kernel
theorem dX7_could_24 : decode cX7_could 24 = .ok (.invokevirtual 308, 3) := by decide +kernel
theorem dX7_could_27 : decode cX7_could 27 = .ok (.istore 5, 2) := by decide +kernel
theorem dX7_could_29 : decode cX7_could 29 = .ok (.iload 5, 2) := by decide +kernel
theorem dX7_could_31 : decode cX7_could 31 = .ok (.ifCond .ge 6, 3) := by decide +kernel
theorem dX7_could_34 : decode cX7_could 34 = .ok (.iload 5, 2) := by decide +kernel
theorem dX7_could_36 : decode cX7_could 36 = .ok (.ireturn, 1) := by decide +kernel
theorem dX7_could_37 : decode cX7_could 37 = .ok (.aload_n 0, 1) := by decide +kernel
theorem dX7_could_38 : decode cX7_could 38 = .ok (.iload_n 1, 1) := by decide +kernel
theorem dX7_could_39 : decode cX7_could 39 = .ok (.iload_n 2, 1) := by decide +kernel
theorem dX7_could_40 : decode cX7_could 40 = .ok (.iload_n 3, 1) := by decide +kernel
theorem dX7_could_41 : decode cX7_could 41 = .ok (.invokevirtual 311, 3) := by decide +kernel
theorem dX7_could_44 : decode cX7_could 44 = .ok (.aload_n 0, 1) := by decide +kernel
theorem dX7_could_45 : decode cX7_could 45 = .ok (.getfield 73, 3) := by decide +kernel
theorem dX7_could_48 : decode cX7_could 48 = .ok (.iload 4, 2) := by decide +kernel
theorem dX7_could_50 : decode cX7_could 50 = .ok (.iaload, 1) := by decide +kernel
theorem dX7_could_51 : decode cX7_could 51 = .ok (.ireturn, 1) := by decide +kernel
theorem dX7_winds_0 : decode cX7_winds 0 = .ok (.iload_n 1, 1) := by decide +kernel
theorem dX7_winds_1 : decode cX7_winds 1 = .ok (.iconst 1, 1) := by decide +kernel
theorem dX7_winds_2 : decode cX7_winds 2 = .ok (.bipush 60, 2) := by decide +kernel
theorem dX7_winds_4 : decode cX7_winds 4 = .ok (.invokestatic 83, 3) := by decide +kernel
theorem dX7_winds_7 : decode cX7_winds 7 = .ok (.ifCond .eq 14, 3) := by decide +kernel
theorem dX7_winds_10 : decode cX7_winds 10 = .ok (.iload_n 2, 1) := by decide +kernel
theorem dX7_winds_11 : decode cX7_winds 11 = .ok (.iconst 1, 1) := by decide +kernel
theorem dX7_winds_12 : decode cX7_winds 12 = .ok (.ldc_w 314, 3) := by decide +kernel
theorem dX7_winds_15 : decode cX7_winds 15 = .ok (.invokestatic 83, 3) := by decide +kernel
theorem dX7_winds_18 : decode cX7_winds 18 = .ok (.ifCond .ne 5, 3) := by decide +kernel
theorem dX7_winds_21 : decode cX7_winds 21 = .ok (.iconst (-1), 1) := by decide +kernel
theorem dX7_winds_22 : decode cX7_winds 22 = .ok (.ireturn, 1) := by decide +kernel
theorem dX7_winds_23 : decode cX7_winds 23 = .ok (.aload_n 0, 1) := by decide +kernel
theorem dX7_winds_24 : decode cX7_winds 24 = .ok (.getfield 151, 3) := by decide +kernel
theorem dX7_winds_27 : decode cX7_winds 27 = .ok (.ifCond .ne 6, 3) := by decide +kernel
theorem dX7_winds_30 : decode cX7_winds 30 = .ok (.bipush (-4), 2) := by decide +kernel
theorem dX7_winds_32 : decode cX7_winds 32 = .ok (.ireturn, 1) := by decide +kernel
theorem dX7_winds_33 : decode cX7_winds 33 = .ok (.aload_n 0, 1) := by decide +kernel
theorem dX7_winds_34 : decode cX7_winds 34 = .ok (.invokevirtual 253, 3) := by decide +kernel
theorem dX7_winds_37 : decode cX7_winds 37 = .ok (.iload_n 2, 1) := by decide +kernel
theorem dX7_winds_38 : decode cX7_winds 38 = .ok (.i2l, 1) := by decide +kernel
theorem dX7_winds_39 : decode cX7_winds 39 = .ok (.lstore_n 3, 1) := by decide +kernel
theorem dX7_winds_40 : decode cX7_winds 40 = .ok (.iconst 0, 1) := by decide +kernel
theorem dX7_winds_41 : decode cX7_winds 41 = .ok (.istore 5, 2) := by decide +kernel
theorem dX7_winds_43 : decode cX7_winds 43 = .ok (.iconst 0, 1) := by decide +kernel
theorem dX7_winds_44 : decode cX7_winds 44 = .ok (.istore 6, 2) := by decide +kernel
theorem dX7_winds_46 : decode cX7_winds 46 = .ok (.iconst 0, 1) := by decide +kernel
theorem dX7_winds_47 : decode cX7_winds 47 = .ok (.istore 7, 2) := by decide +kernel
theorem dX7_winds_49 : decode cX7_winds 49 = .ok (.iload 7, 2) := by decide +kernel
theorem dX7_winds_51 : decode cX7_winds 51 = .ok (.iload_n 1, 1) := by decide +kernel
theorem dX7_winds_52 : decode cX7_winds 52 = .ok (.if_icmp .ge 54, 3) := by decide +kernel
theorem dX7_winds_55 : decode cX7_winds 55 = .ok (.ldc2_w 315, 3) := by decide +kernel
theorem dX7_winds_58 : decode cX7_winds 58 = .ok (.lload_n 3, 1) := by decide +kernel
theorem dX7_winds_59 : decode cX7_winds 59 = .ok (.lmul, 1) := by decide +kernel
theorem dX7_winds_60 : decode cX7_winds 60 = .ok (.ldc2_w 317, 3) := by decide +kernel
theorem dX7_winds_63 : decode cX7_winds 63 = .ok (.lrem, 1) := by decide +kernel
theorem dX7_winds_64 : decode cX7_winds 64 = .ok (.lstore_n 3, 1) := by decide +kernel
theorem dX7_winds_65 : decode cX7_winds 65 = .ok (.aload_n 0, 1) := by decide +kernel
theorem dX7_winds_66 : decode cX7_winds 66 = .ok (.lload_n 3, 1) := by decide +kernel
theorem dX7_winds_67 : decode cX7_winds 67 = .ok (.ldc2_w 319, 3) := by decide +kernel
theorem dX7_winds_70 : decode cX7_winds 70 = .ok (.lrem, 1) := by decide +kernel
theorem dX7_winds_71 : decode cX7_winds 71 = .ok (.l2i, 1) := by decide +kernel
theorem dX7_winds_72 : decode cX7_winds 72 = .ok (.iconst 1, 1) := by decide +kernel
theorem dX7_winds_73 : decode cX7_winds 73 = .ok (.isub, 1) := by decide +kernel
theorem dX7_winds_74 : decode cX7_winds 74 = .ok (.bipush (-9), 2) := by decide +kernel
theorem dX7_winds_76 : decode cX7_winds 76 = .ok (.invokevirtual 241, 3) := by decide +kernel
theorem dX7_winds_79 : decode cX7_winds 79 = .ok (.iload 5, 2) := by decide +kernel
theorem dX7_winds_81 : decode cX7_winds 81 = .ok (.aload_n 0, 1) := by decide +kernel
theorem dX7_winds_82 : decode cX7_winds 82 = .ok (.getfield 218, 3) := by decide +kernel
theorem dX7_winds_85 : decode cX7_winds 85 = .ok (.invokestatic 192, 3) := by decide +kernel
theorem dX7_winds_88 : decode cX7_winds 88 = .ok (.iadd, 1) := by decide +kernel
theorem dX7_winds_89 : decode cX7_winds 89 = .ok (.istore 5, 2) := by decide +kernel
theorem dX7_winds_91 : decode cX7_winds 91 = .ok (.iload 6, 2) := by decide +kernel
theorem dX7_winds_93 : decode cX7_winds 93 = .ok (.aload_n 0, 1) := by decide +kernel
theorem dX7_winds_94 : decode cX7_winds 94 = .ok (.getfield 221, 3) := by decide +kernel
theorem dX7_winds_97 : decode cX7_winds 97 = .ok (.iadd, 1) := by decide +kernel
theorem dX7_winds_98 : decode cX7_winds 98 = .ok (.istore 6, 2) := by decide +kernel
theorem dX7_winds_100 : decode cX7_winds 100 = .ok (.iinc 7 1, 3) := by decide +kernel
theorem dX7_winds_103 : decode cX7_winds 103 = .ok (.goto (-54), 3) := by decide +kernel
theorem dX7_winds_106 : decode cX7_winds 106 = .ok (.aload_n 0, 1) := by decide +kernel
theorem dX7_winds_107 : decode cX7_winds 107 = .ok (.invokevirtual 256, 3) := by decide +kernel
theorem dX7_winds_110 : decode cX7_winds 110 = .ok (.aload_n 0, 1) := by decide +kernel
theorem dX7_winds_111 : decode cX7_winds 111 = .ok (.iload 6, 2) := by decide +kernel
theorem dX7_winds_113 : decode cX7_winds 113 = .ok (.iload 5, 2) := by decide +kernel
theorem dX7_winds_115 : decode cX7_winds 115 = .ok (.invokevirtual 109, 3) := by decide +kernel
theorem dX7_winds_118 : decode cX7_winds 118 = .ok (.ireturn, 1) := by decide +kernel
theorem dX7_asked_0 : decode cX7_asked 0 = .ok (.aload_n 0, 1) := by decide +kernel
theorem dX7_asked_1 : decode cX7_asked 1 = .ok (.getfield 80, 3) := by decide +kernel
theorem dX7_asked_4 : decode cX7_asked 4 = .ok (.ireturn, 1) := by decide +kernel
theorem dX7_allPaid_0 : decode cX7_allPaid 0 = .ok (.iconst 0, 1) := by decide +kernel
theorem dX7_allPaid_1 : decode cX7_allPaid 1 = .ok (.istore_n 1, 1) := by decide +kernel
theorem dX7_allPaid_2 : decode cX7_allPaid 2 = .ok (.iconst 0, 1) := by decide +kernel
theorem dX7_allPaid_3 : decode cX7_allPaid 3 = .ok (.istore_n 2, 1) := by decide +kernel
theorem dX7_allPaid_4 : decode cX7_allPaid 4 = .ok (.iload_n 2, 1) := by decide +kernel
theorem dX7_allPaid_5 : decode cX7_allPaid 5 = .ok (.aload_n 0, 1) := by decide +kernel
theorem dX7_allPaid_6 : decode cX7_allPaid 6 = .ok (.getfield 151, 3) := by decide +kernel
theorem dX7_allPaid_9 : decode cX7_allPaid 9 = .ok (.if_icmp .ge 18, 3) := by decide +kernel
theorem dX7_allPaid_12 : decode cX7_allPaid 12 = .ok (.iload_n 1, 1) := by decide +kernel
theorem dX7_allPaid_13 : decode cX7_allPaid 13 = .ok (.aload_n 0, 1) := by decide +kernel
theorem dX7_allPaid_14 : decode cX7_allPaid 14 = .ok (.getfield 37, 3) := by decide +kernel
theorem dX7_allPaid_17 : decode cX7_allPaid 17 = .ok (.iload_n 2, 1) := by decide +kernel
theorem dX7_allPaid_18 : decode cX7_allPaid 18 = .ok (.iaload, 1) := by decide +kernel
theorem dX7_allPaid_19 : decode cX7_allPaid 19 = .ok (.iadd, 1) := by decide +kernel
theorem dX7_allPaid_20 : decode cX7_allPaid 20 = .ok (.istore_n 1, 1) := by decide +kernel
theorem dX7_allPaid_21 : decode cX7_allPaid 21 = .ok (.iinc 2 1, 3) := by decide +kernel
theorem dX7_allPaid_24 : decode cX7_allPaid 24 = .ok (.goto (-20), 3) := by decide +kernel
theorem dX7_allPaid_27 : decode cX7_allPaid 27 = .ok (.iload_n 1, 1) := by decide +kernel
theorem dX7_allPaid_28 : decode cX7_allPaid 28 = .ok (.ireturn, 1) := by decide +kernel
theorem dX7_allPrices_0 : decode cX7_allPrices 0 = .ok (.iconst 0, 1) := by decide +kernel
theorem dX7_allPrices_1 : decode cX7_allPrices 1 = .ok (.istore_n 1, 1) := by decide +kernel
theorem dX7_allPrices_2 : decode cX7_allPrices 2 = .ok (.iconst 0, 1) := by decide +kernel
theorem dX7_allPrices_3 : decode cX7_allPrices 3 = .ok (.istore_n 2, 1) := by decide +kernel
theorem dX7_allPrices_4 : decode cX7_allPrices 4 = .ok (.iload_n 2, 1) := by decide +kernel
theorem dX7_allPrices_5 : decode cX7_allPrices 5 = .ok (.aload_n 0, 1) := by decide +kernel
theorem dX7_allPrices_6 : decode cX7_allPrices 6 = .ok (.getfield 154, 3) := by decide +kernel
theorem dX7_allPrices_9 : decode cX7_allPrices 9 = .ok (.if_icmp .ge 18, 3) := by decide +kernel
theorem dX7_allPrices_12 : decode cX7_allPrices 12 = .ok (.iload_n 1, 1) := by decide +kernel
theorem dX7_allPrices_13 : decode cX7_allPrices 13 = .ok (.aload_n 0, 1) := by decide +kernel
theorem dX7_allPrices_14 : decode cX7_allPrices 14 = .ok (.getfield 46, 3) := by decide +kernel
theorem dX7_allPrices_17 : decode cX7_allPrices 17 = .ok (.iload_n 2, 1) := by decide +kernel
theorem dX7_allPrices_18 : decode cX7_allPrices 18 = .ok (.iaload, 1) := by decide +kernel
theorem dX7_allPrices_19 : decode cX7_allPrices 19 = .ok (.iadd, 1) := by decide +kernel
theorem dX7_allPrices_20 : decode cX7_allPrices 20 = .ok (.istore_n 1, 1) := by decide +kernel
theorem dX7_allPrices_21 : decode cX7_allPrices 21 = .ok (.iinc 2 1, 3) := by decide +kernel
theorem dX7_allPrices_24 : decode cX7_allPrices 24 = .ok (.goto (-20), 3) := by decide +kernel
theorem dX7_allPrices_27 : decode cX7_allPrices 27 = .ok (.iload_n 1, 1) := by decide +kernel
theorem dX7_allPrices_28 : decode cX7_allPrices 28 = .ok (.ireturn, 1) := by decide +kernel
theorem dX7_divisor_0 : decode cX7_divisor 0 = .ok (.iload_n 0, 1) := by decide +kernel
theorem dX7_divisor_1 : decode cX7_divisor 1 = .ok (.istore_n 2, 1) := by decide +kernel
theorem dX7_divisor_2 : decode cX7_divisor 2 = .ok (.iload_n 1, 1) := by decide +kernel
theorem dX7_divisor_3 : decode cX7_divisor 3 = .ok (.istore_n 3, 1) := by decide +kernel
theorem dX7_divisor_4 : decode cX7_divisor 4 = .ok (.iload_n 3, 1) := by decide +kernel
theorem dX7_divisor_5 : decode cX7_divisor 5 = .ok (.ifCond .eq 16, 3) := by decide +kernel
theorem dX7_divisor_8 : decode cX7_divisor 8 = .ok (.iload_n 2, 1) := by decide +kernel
theorem dX7_divisor_9 : decode cX7_divisor 9 = .ok (.iload_n 3, 1) := by decide +kernel
theorem dX7_divisor_10 : decode cX7_divisor 10 = .ok (.irem, 1) := by decide +kernel
theorem dX7_divisor_11 : decode cX7_divisor 11 = .ok (.istore 4, 2) := by decide +kernel
theorem dX7_divisor_13 : decode cX7_divisor 13 = .ok (.iload_n 3, 1) := by decide +kernel
theorem dX7_divisor_14 : decode cX7_divisor 14 = .ok (.istore_n 2, 1) := by decide +kernel
theorem dX7_divisor_15 : decode cX7_divisor 15 = .ok (.iload 4, 2) := by decide +kernel
theorem dX7_divisor_17 : decode cX7_divisor 17 = .ok (.istore_n 3, 1) := by decide +kernel
theorem dX7_divisor_18 : decode cX7_divisor 18 = .ok (.goto (-14), 3) := by decide +kernel
theorem dX7_divisor_21 : decode cX7_divisor 21 = .ok (.iload_n 2, 1) := by decide +kernel
theorem dX7_divisor_22 : decode cX7_divisor 22 = .ok (.ireturn, 1) := by decide +kernel
theorem dX7_upper_0 : decode cX7_upper 0 = .ok (.aload_n 0, 1) := by decide +kernel
theorem dX7_upper_1 : decode cX7_upper 1 = .ok (.invokevirtual 321, 3) := by decide +kernel
theorem dX7_upper_4 : decode cX7_upper 4 = .ok (.istore_n 1, 1) := by decide +kernel
theorem dX7_upper_5 : decode cX7_upper 5 = .ok (.iload_n 1, 1) := by decide +kernel
theorem dX7_upper_6 : decode cX7_upper 6 = .ok (.ifCond .ne 7, 3) := by decide +kernel
theorem dX7_upper_9 : decode cX7_upper 9 = .ok (.lconst 0, 1) := by decide +kernel
theorem dX7_upper_10 : decode cX7_upper 10 = .ok (.goto 17, 3) := by decide +kernel
theorem dX7_upper_13 : decode cX7_upper 13 = .ok (.aload_n 0, 1) := by decide +kernel
theorem dX7_upper_14 : decode cX7_upper 14 = .ok (.invokevirtual 324, 3) := by decide +kernel
theorem dX7_upper_17 : decode cX7_upper 17 = .ok (.aload_n 0, 1) := by decide +kernel
theorem dX7_upper_18 : decode cX7_upper 18 = .ok (.invokevirtual 324, 3) := by decide +kernel
theorem dX7_upper_21 : decode cX7_upper 21 = .ok (.iload_n 1, 1) := by decide +kernel
theorem dX7_upper_22 : decode cX7_upper 22 = .ok (.invokestatic 327, 3) := by decide +kernel
theorem dX7_upper_25 : decode cX7_upper 25 = .ok (.idiv, 1) := by decide +kernel
theorem dX7_upper_26 : decode cX7_upper 26 = .ok (.i2l, 1) := by decide +kernel
theorem dX7_upper_27 : decode cX7_upper 27 = .ok (.lreturn, 1) := by decide +kernel
theorem dX7_lower_0 : decode cX7_lower 0 = .ok (.aload_n 0, 1) := by decide +kernel
theorem dX7_lower_1 : decode cX7_lower 1 = .ok (.invokevirtual 321, 3) := by decide +kernel
theorem dX7_lower_4 : decode cX7_lower 4 = .ok (.istore_n 1, 1) := by decide +kernel
theorem dX7_lower_5 : decode cX7_lower 5 = .ok (.iload_n 1, 1) := by decide +kernel
theorem dX7_lower_6 : decode cX7_lower 6 = .ok (.ifCond .ne 7, 3) := by decide +kernel
theorem dX7_lower_9 : decode cX7_lower 9 = .ok (.lconst 1, 1) := by decide +kernel
theorem dX7_lower_10 : decode cX7_lower 10 = .ok (.goto 14, 3) := by decide +kernel
theorem dX7_lower_13 : decode cX7_lower 13 = .ok (.iload_n 1, 1) := by decide +kernel
theorem dX7_lower_14 : decode cX7_lower 14 = .ok (.aload_n 0, 1) := by decide +kernel
theorem dX7_lower_15 : decode cX7_lower 15 = .ok (.invokevirtual 324, 3) := by decide +kernel
theorem dX7_lower_18 : decode cX7_lower 18 = .ok (.iload_n 1, 1) := by decide +kernel
theorem dX7_lower_19 : decode cX7_lower 19 = .ok (.invokestatic 327, 3) := by decide +kernel
theorem dX7_lower_22 : decode cX7_lower 22 = .ok (.idiv, 1) := by decide +kernel
theorem dX7_lower_23 : decode cX7_lower 23 = .ok (.i2l, 1) := by decide +kernel
theorem dX7_lower_24 : decode cX7_lower 24 = .ok (.lreturn, 1) := by decide +kernel
theorem dX7_tells_0 : decode cX7_tells 0 = .ok (.iconst 0, 1) := by decide +kernel
theorem dX7_tells_1 : decode cX7_tells 1 = .ok (.istore_n 2, 1) := by decide +kernel
theorem dX7_tells_2 : decode cX7_tells 2 = .ok (.iconst 0, 1) := by decide +kernel
theorem dX7_tells_3 : decode cX7_tells 3 = .ok (.istore_n 3, 1) := by decide +kernel
theorem dX7_tells_4 : decode cX7_tells 4 = .ok (.iload_n 3, 1) := by decide +kernel
theorem dX7_tells_5 : decode cX7_tells 5 = .ok (.bipush 6, 2) := by decide +kernel
theorem dX7_tells_7 : decode cX7_tells 7 = .ok (.if_icmp .ge 120, 3) := by decide +kernel
theorem dX7_tells_10 : decode cX7_tells 10 = .ok (.iload_n 2, 1) := by decide +kernel
theorem dX7_tells_11 : decode cX7_tells 11 = .ok (.iload_n 1, 1) := by decide +kernel
theorem dX7_tells_12 : decode cX7_tells 12 = .ok (.iconst 3, 1) := by decide +kernel
theorem dX7_tells_13 : decode cX7_tells 13 = .ok (.if_icmp .ne 20, 3) := by decide +kernel
theorem dX7_tells_16 : decode cX7_tells 16 = .ok (.iload_n 3, 1) := by decide +kernel
theorem dX7_tells_17 : decode cX7_tells 17 = .ok (.aload_n 0, 1) := by decide +kernel
theorem dX7_tells_18 : decode cX7_tells 18 = .ok (.getfield 151, 3) := by decide +kernel
theorem dX7_tells_21 : decode cX7_tells 21 = .ok (.if_icmp .ge 12, 3) := by decide +kernel
theorem dX7_tells_24 : decode cX7_tells 24 = .ok (.aload_n 0, 1) := by decide +kernel
theorem dX7_tells_25 : decode cX7_tells 25 = .ok (.iload_n 3, 1) := by decide +kernel
theorem dX7_tells_26 : decode cX7_tells 26 = .ok (.iconst 1, 1) := by decide +kernel
theorem dX7_tells_27 : decode cX7_tells 27 = .ok (.invokevirtual 185, 3) := by decide +kernel
theorem dX7_tells_30 : decode cX7_tells 30 = .ok (.ifCond .ne 84, 3) := by decide +kernel
theorem dX7_tells_33 : decode cX7_tells 33 = .ok (.iload_n 1, 1) := by decide +kernel
theorem dX7_tells_34 : decode cX7_tells 34 = .ok (.iconst 4, 1) := by decide +kernel
theorem dX7_tells_35 : decode cX7_tells 35 = .ok (.if_icmp .ne 20, 3) := by decide +kernel
theorem dX7_tells_38 : decode cX7_tells 38 = .ok (.iload_n 3, 1) := by decide +kernel
theorem dX7_tells_39 : decode cX7_tells 39 = .ok (.aload_n 0, 1) := by decide +kernel
theorem dX7_tells_40 : decode cX7_tells 40 = .ok (.getfield 151, 3) := by decide +kernel
theorem dX7_tells_43 : decode cX7_tells 43 = .ok (.if_icmp .ge 12, 3) := by decide +kernel
theorem dX7_tells_46 : decode cX7_tells 46 = .ok (.aload_n 0, 1) := by decide +kernel
theorem dX7_tells_47 : decode cX7_tells 47 = .ok (.iload_n 3, 1) := by decide +kernel
theorem dX7_tells_48 : decode cX7_tells 48 = .ok (.iconst 2, 1) := by decide +kernel
theorem dX7_tells_49 : decode cX7_tells 49 = .ok (.invokevirtual 185, 3) := by decide +kernel
theorem dX7_tells_52 : decode cX7_tells 52 = .ok (.ifCond .ne 62, 3) := by decide +kernel
theorem dX7_tells_55 : decode cX7_tells 55 = .ok (.iload_n 1, 1) := by decide +kernel
theorem dX7_tells_56 : decode cX7_tells 56 = .ok (.iconst 5, 1) := by decide +kernel
theorem dX7_tells_57 : decode cX7_tells 57 = .ok (.if_icmp .ne 22, 3) := by decide +kernel
theorem dX7_tells_60 : decode cX7_tells 60 = .ok (.iload_n 3, 1) := by decide +kernel
theorem dX7_tells_61 : decode cX7_tells 61 = .ok (.iconst 3, 1) := by decide +kernel
theorem dX7_tells_62 : decode cX7_tells 62 = .ok (.if_icmp .ge 17, 3) := by decide +kernel
theorem dX7_tells_65 : decode cX7_tells 65 = .ok (.aload_n 0, 1) := by decide +kernel
theorem dX7_tells_66 : decode cX7_tells 66 = .ok (.getfield 55, 3) := by decide +kernel
theorem dX7_tells_69 : decode cX7_tells 69 = .ok (.bipush 32, 2) := by decide +kernel
theorem dX7_tells_71 : decode cX7_tells 71 = .ok (.iload_n 3, 1) := by decide +kernel
theorem dX7_tells_72 : decode cX7_tells 72 = .ok (.imul, 1) := by decide +kernel
theorem dX7_tells_73 : decode cX7_tells 73 = .ok (.iaload, 1) := by decide +kernel
theorem dX7_tells_74 : decode cX7_tells 74 = .ok (.bipush (-9), 2) := by decide +kernel
theorem dX7_tells_76 : decode cX7_tells 76 = .ok (.if_icmp .ne 38, 3) := by decide +kernel
theorem dX7_tells_79 : decode cX7_tells 79 = .ok (.iload_n 1, 1) := by decide +kernel
theorem dX7_tells_80 : decode cX7_tells 80 = .ok (.bipush 6, 2) := by decide +kernel
theorem dX7_tells_82 : decode cX7_tells 82 = .ok (.if_icmp .ne 12, 3) := by decide +kernel
theorem dX7_tells_85 : decode cX7_tells 85 = .ok (.aload_n 0, 1) := by decide +kernel
theorem dX7_tells_86 : decode cX7_tells 86 = .ok (.getfield 13, 3) := by decide +kernel
theorem dX7_tells_89 : decode cX7_tells 89 = .ok (.iload_n 3, 1) := by decide +kernel
theorem dX7_tells_90 : decode cX7_tells 90 = .ok (.iaload, 1) := by decide +kernel
theorem dX7_tells_91 : decode cX7_tells 91 = .ok (.ifCond .ge 23, 3) := by decide +kernel
theorem dX7_tells_94 : decode cX7_tells 94 = .ok (.iload_n 1, 1) := by decide +kernel
theorem dX7_tells_95 : decode cX7_tells 95 = .ok (.bipush 7, 2) := by decide +kernel
theorem dX7_tells_97 : decode cX7_tells 97 = .ok (.if_icmp .ne 21, 3) := by decide +kernel
theorem dX7_tells_100 : decode cX7_tells 100 = .ok (.iload_n 3, 1) := by decide +kernel
theorem dX7_tells_101 : decode cX7_tells 101 = .ok (.iconst 4, 1) := by decide +kernel
theorem dX7_tells_102 : decode cX7_tells 102 = .ok (.if_icmp .ge 16, 3) := by decide +kernel
theorem dX7_tells_105 : decode cX7_tells 105 = .ok (.aload_n 0, 1) := by decide +kernel
theorem dX7_tells_106 : decode cX7_tells 106 = .ok (.getfield 22, 3) := by decide +kernel
theorem dX7_tells_109 : decode cX7_tells 109 = .ok (.iload_n 3, 1) := by decide +kernel
theorem dX7_tells_110 : decode cX7_tells 110 = .ok (.iaload, 1) := by decide +kernel
theorem dX7_tells_111 : decode cX7_tells 111 = .ok (.ifCond .lt 7, 3) := by decide +kernel
theorem dX7_tells_114 : decode cX7_tells 114 = .ok (.iconst 1, 1) := by decide +kernel
theorem dX7_tells_115 : decode cX7_tells 115 = .ok (.goto 4, 3) := by decide +kernel
theorem dX7_tells_118 : decode cX7_tells 118 = .ok (.iconst 0, 1) := by decide +kernel
theorem dX7_tells_119 : decode cX7_tells 119 = .ok (.iadd, 1) := by decide +kernel
theorem dX7_tells_120 : decode cX7_tells 120 = .ok (.istore_n 2, 1) := by decide +kernel
theorem dX7_tells_121 : decode cX7_tells 121 = .ok (.iinc 3 1, 3) := by decide +kernel
theorem dX7_tells_124 : decode cX7_tells 124 = .ok (.goto (-120), 3) := by decide +kernel
theorem dX7_tells_127 : decode cX7_tells 127 = .ok (.iload_n 1, 1) := by decide +kernel
theorem dX7_tells_128 : decode cX7_tells 128 = .ok (.tableswitch 72 0 8 #[52, 57, 62, 72, 72, 72, 72, 72, 67], 52) := by decide +kernel
theorem dX7_tells_180 : decode cX7_tells 180 = .ok (.aload_n 0, 1) := by decide +kernel
theorem dX7_tells_181 : decode cX7_tells 181 = .ok (.getfield 151, 3) := by decide +kernel
theorem dX7_tells_184 : decode cX7_tells 184 = .ok (.ireturn, 1) := by decide +kernel
theorem dX7_tells_185 : decode cX7_tells 185 = .ok (.aload_n 0, 1) := by decide +kernel
theorem dX7_tells_186 : decode cX7_tells 186 = .ok (.getfield 154, 3) := by decide +kernel
theorem dX7_tells_189 : decode cX7_tells 189 = .ok (.ireturn, 1) := by decide +kernel
theorem dX7_tells_190 : decode cX7_tells 190 = .ok (.aload_n 0, 1) := by decide +kernel
theorem dX7_tells_191 : decode cX7_tells 191 = .ok (.getfield 160, 3) := by decide +kernel
theorem dX7_tells_194 : decode cX7_tells 194 = .ok (.ireturn, 1) := by decide +kernel
theorem dX7_tells_195 : decode cX7_tells 195 = .ok (.aload_n 0, 1) := by decide +kernel
theorem dX7_tells_196 : decode cX7_tells 196 = .ok (.invokevirtual 274, 3) := by decide +kernel
theorem dX7_tells_199 : decode cX7_tells 199 = .ok (.ireturn, 1) := by decide +kernel
theorem dX7_tells_200 : decode cX7_tells 200 = .ok (.iload_n 2, 1) := by decide +kernel
theorem dX7_tells_201 : decode cX7_tells 201 = .ok (.ireturn, 1) := by decide +kernel
theorem dX7_count_0 : decode cX7_count 0 = .ok (.iload_n 1, 1) := by decide +kernel
theorem dX7_count_1 : decode cX7_count 1 = .ok (.iconst 0, 1) := by decide +kernel
theorem dX7_count_2 : decode cX7_count 2 = .ok (.bipush 8, 2) := by decide +kernel
theorem dX7_count_4 : decode cX7_count 4 = .ok (.invokestatic 83, 3) := by decide +kernel
theorem dX7_count_7 : decode cX7_count 7 = .ok (.ifCond .eq 11, 3) := by decide +kernel
theorem dX7_count_10 : decode cX7_count 10 = .ok (.aload_n 0, 1) := by decide +kernel
theorem dX7_count_11 : decode cX7_count 11 = .ok (.iload_n 1, 1) := by decide +kernel
theorem dX7_count_12 : decode cX7_count 12 = .ok (.invokevirtual 330, 3) := by decide +kernel
theorem dX7_count_15 : decode cX7_count 15 = .ok (.goto 4, 3) := by decide +kernel
theorem dX7_count_18 : decode cX7_count 18 = .ok (.iconst (-1), 1) := by decide +kernel
theorem dX7_count_19 : decode cX7_count 19 = .ok (.ireturn, 1) := by decide +kernel
theorem dX7_finding_0 : decode cX7_finding 0 = .ok (.aload_n 0, 1) := by decide +kernel
theorem dX7_finding_1 : decode cX7_finding 1 = .ok (.getfield 76, 3) := by decide +kernel
theorem dX7_finding_4 : decode cX7_finding 4 = .ok (.ireturn, 1) := by decide +kernel
theorem dX7_findings_0 : decode cX7_findings 0 = .ok (.iload_n 1, 1) := by decide +kernel
theorem dX7_findings_1 : decode cX7_findings 1 = .ok (.iconst 1, 1) := by decide +kernel
theorem dX7_findings_2 : decode cX7_findings 2 = .ok (.iconst 5, 1) := by decide +kernel
theorem dX7_findings_3 : decode cX7_findings 3 = .ok (.invokestatic 83, 3) := by decide +kernel
theorem dX7_findings_6 : decode cX7_findings 6 = .ok (.ifCond .eq 12, 3) := by decide +kernel
theorem dX7_findings_9 : decode cX7_findings 9 = .ok (.aload_n 0, 1) := by decide +kernel
theorem dX7_findings_10 : decode cX7_findings 10 = .ok (.getfield 7, 3) := by decide +kernel
theorem dX7_findings_13 : decode cX7_findings 13 = .ok (.iload_n 1, 1) := by decide +kernel
theorem dX7_findings_14 : decode cX7_findings 14 = .ok (.iaload, 1) := by decide +kernel
theorem dX7_findings_15 : decode cX7_findings 15 = .ok (.goto 4, 3) := by decide +kernel
theorem dX7_findings_18 : decode cX7_findings 18 = .ok (.iconst (-1), 1) := by decide +kernel
theorem dX7_findings_19 : decode cX7_findings 19 = .ok (.ireturn, 1) := by decide +kernel
theorem dX7_mix_0 : decode cX7_mix 0 = .ok (.aload_n 0, 1) := by decide +kernel
theorem dX7_mix_1 : decode cX7_mix 1 = .ok (.ldc2_w 333, 3) := by decide +kernel
theorem dX7_mix_4 : decode cX7_mix 4 = .ok (.aload_n 0, 1) := by decide +kernel
theorem dX7_mix_5 : decode cX7_mix 5 = .ok (.getfield 335, 3) := by decide +kernel
theorem dX7_mix_8 : decode cX7_mix 8 = .ok (.lmul, 1) := by decide +kernel
theorem dX7_mix_9 : decode cX7_mix 9 = .ok (.iload_n 1, 1) := by decide +kernel
theorem dX7_mix_10 : decode cX7_mix 10 = .ok (.i2l, 1) := by decide +kernel
theorem dX7_mix_11 : decode cX7_mix 11 = .ok (.ladd, 1) := by decide +kernel
theorem dX7_mix_12 : decode cX7_mix 12 = .ok (.putfield 335, 3) := by decide +kernel
theorem dX7_mix_15 : decode cX7_mix 15 = .ok (.return_, 1) := by decide +kernel
theorem dX7_mixMarket_0 : decode cX7_mixMarket 0 = .ok (.aload_n 0, 1) := by decide +kernel
theorem dX7_mixMarket_1 : decode cX7_mixMarket 1 = .ok (.aload_n 0, 1) := by decide +kernel
theorem dX7_mixMarket_2 : decode cX7_mixMarket 2 = .ok (.getfield 151, 3) := by decide +kernel
theorem dX7_mixMarket_5 : decode cX7_mixMarket 5 = .ok (.ifCond .ne 7, 3) := by decide +kernel
theorem dX7_mixMarket_8 : decode cX7_mixMarket 8 = .ok (.iconst 0, 1) := by decide +kernel
theorem dX7_mixMarket_9 : decode cX7_mixMarket 9 = .ok (.goto 7, 3) := by decide +kernel
theorem dX7_mixMarket_12 : decode cX7_mixMarket 12 = .ok (.aload_n 0, 1) := by decide +kernel
theorem dX7_mixMarket_13 : decode cX7_mixMarket 13 = .ok (.getfield 157, 3) := by decide +kernel
theorem dX7_mixMarket_16 : decode cX7_mixMarket 16 = .ok (.invokevirtual 339, 3) := by decide +kernel
theorem dX7_mixMarket_19 : decode cX7_mixMarket 19 = .ok (.iconst 0, 1) := by decide +kernel
theorem dX7_mixMarket_20 : decode cX7_mixMarket 20 = .ok (.istore_n 1, 1) := by decide +kernel
theorem dX7_mixMarket_21 : decode cX7_mixMarket 21 = .ok (.iload_n 1, 1) := by decide +kernel
theorem dX7_mixMarket_22 : decode cX7_mixMarket 22 = .ok (.aload_n 0, 1) := by decide +kernel
theorem dX7_mixMarket_23 : decode cX7_mixMarket 23 = .ok (.getfield 151, 3) := by decide +kernel
theorem dX7_mixMarket_26 : decode cX7_mixMarket 26 = .ok (.if_icmp .ge 32, 3) := by decide +kernel
theorem dX7_mixMarket_29 : decode cX7_mixMarket 29 = .ok (.iconst 0, 1) := by decide +kernel
theorem dX7_mixMarket_30 : decode cX7_mixMarket 30 = .ok (.istore_n 2, 1) := by decide +kernel
theorem dX7_mixMarket_31 : decode cX7_mixMarket 31 = .ok (.iload_n 2, 1) := by decide +kernel
theorem dX7_mixMarket_32 : decode cX7_mixMarket 32 = .ok (.iconst 3, 1) := by decide +kernel
theorem dX7_mixMarket_33 : decode cX7_mixMarket 33 = .ok (.if_icmp .gt 19, 3) := by decide +kernel
theorem dX7_mixMarket_36 : decode cX7_mixMarket 36 = .ok (.aload_n 0, 1) := by decide +kernel
theorem dX7_mixMarket_37 : decode cX7_mixMarket 37 = .ok (.aload_n 0, 1) := by decide +kernel
theorem dX7_mixMarket_38 : decode cX7_mixMarket 38 = .ok (.iload_n 1, 1) := by decide +kernel
theorem dX7_mixMarket_39 : decode cX7_mixMarket 39 = .ok (.iload_n 2, 1) := by decide +kernel
theorem dX7_mixMarket_40 : decode cX7_mixMarket 40 = .ok (.invokevirtual 169, 3) := by decide +kernel
theorem dX7_mixMarket_43 : decode cX7_mixMarket 43 = .ok (.invokevirtual 339, 3) := by decide +kernel
theorem dX7_mixMarket_46 : decode cX7_mixMarket 46 = .ok (.iinc 2 1, 3) := by decide +kernel
theorem dX7_mixMarket_49 : decode cX7_mixMarket 49 = .ok (.goto (-18), 3) := by decide +kernel
theorem dX7_mixMarket_52 : decode cX7_mixMarket 52 = .ok (.iinc 1 1, 3) := by decide +kernel
theorem dX7_mixMarket_55 : decode cX7_mixMarket 55 = .ok (.goto (-34), 3) := by decide +kernel
theorem dX7_mixMarket_58 : decode cX7_mixMarket 58 = .ok (.iconst 0, 1) := by decide +kernel
theorem dX7_mixMarket_59 : decode cX7_mixMarket 59 = .ok (.istore_n 1, 1) := by decide +kernel
theorem dX7_mixMarket_60 : decode cX7_mixMarket 60 = .ok (.iload_n 1, 1) := by decide +kernel
theorem dX7_mixMarket_61 : decode cX7_mixMarket 61 = .ok (.aload_n 0, 1) := by decide +kernel
theorem dX7_mixMarket_62 : decode cX7_mixMarket 62 = .ok (.getfield 154, 3) := by decide +kernel
theorem dX7_mixMarket_65 : decode cX7_mixMarket 65 = .ok (.if_icmp .ge 32, 3) := by decide +kernel
theorem dX7_mixMarket_68 : decode cX7_mixMarket 68 = .ok (.iconst 0, 1) := by decide +kernel
theorem dX7_mixMarket_69 : decode cX7_mixMarket 69 = .ok (.istore_n 2, 1) := by decide +kernel
theorem dX7_mixMarket_70 : decode cX7_mixMarket 70 = .ok (.iload_n 2, 1) := by decide +kernel
theorem dX7_mixMarket_71 : decode cX7_mixMarket 71 = .ok (.iconst 3, 1) := by decide +kernel
theorem dX7_mixMarket_72 : decode cX7_mixMarket 72 = .ok (.if_icmp .gt 19, 3) := by decide +kernel
theorem dX7_mixMarket_75 : decode cX7_mixMarket 75 = .ok (.aload_n 0, 1) := by decide +kernel
theorem dX7_mixMarket_76 : decode cX7_mixMarket 76 = .ok (.aload_n 0, 1) := by decide +kernel
theorem dX7_mixMarket_77 : decode cX7_mixMarket 77 = .ok (.iload_n 1, 1) := by decide +kernel
theorem dX7_mixMarket_78 : decode cX7_mixMarket 78 = .ok (.iload_n 2, 1) := by decide +kernel
theorem dX7_mixMarket_79 : decode cX7_mixMarket 79 = .ok (.invokevirtual 175, 3) := by decide +kernel
theorem dX7_mixMarket_82 : decode cX7_mixMarket 82 = .ok (.invokevirtual 339, 3) := by decide +kernel
theorem dX7_mixMarket_85 : decode cX7_mixMarket 85 = .ok (.iinc 2 1, 3) := by decide +kernel
theorem dX7_mixMarket_88 : decode cX7_mixMarket 88 = .ok (.goto (-18), 3) := by decide +kernel
theorem dX7_mixMarket_91 : decode cX7_mixMarket 91 = .ok (.iinc 1 1, 3) := by decide +kernel
theorem dX7_mixMarket_94 : decode cX7_mixMarket 94 = .ok (.goto (-34), 3) := by decide +kernel
theorem dX7_mixMarket_97 : decode cX7_mixMarket 97 = .ok (.aload_n 0, 1) := by decide +kernel
theorem dX7_mixMarket_98 : decode cX7_mixMarket 98 = .ok (.aload_n 0, 1) := by decide +kernel
theorem dX7_mixMarket_99 : decode cX7_mixMarket 99 = .ok (.getfield 160, 3) := by decide +kernel
theorem dX7_mixMarket_102 : decode cX7_mixMarket 102 = .ok (.aload_n 0, 1) := by decide +kernel
theorem dX7_mixMarket_103 : decode cX7_mixMarket 103 = .ok (.getfield 163, 3) := by decide +kernel
theorem dX7_mixMarket_106 : decode cX7_mixMarket 106 = .ok (.isub, 1) := by decide +kernel
theorem dX7_mixMarket_107 : decode cX7_mixMarket 107 = .ok (.invokevirtual 339, 3) := by decide +kernel
theorem dX7_mixMarket_110 : decode cX7_mixMarket 110 = .ok (.iconst 0, 1) := by decide +kernel
theorem dX7_mixMarket_111 : decode cX7_mixMarket 111 = .ok (.istore_n 1, 1) := by decide +kernel
theorem dX7_mixMarket_112 : decode cX7_mixMarket 112 = .ok (.iload_n 1, 1) := by decide +kernel
theorem dX7_mixMarket_113 : decode cX7_mixMarket 113 = .ok (.iconst 3, 1) := by decide +kernel
theorem dX7_mixMarket_114 : decode cX7_mixMarket 114 = .ok (.if_icmp .ge 40, 3) := by decide +kernel
theorem dX7_mixMarket_117 : decode cX7_mixMarket 117 = .ok (.aload_n 0, 1) := by decide +kernel
theorem dX7_mixMarket_118 : decode cX7_mixMarket 118 = .ok (.aload_n 0, 1) := by decide +kernel
theorem dX7_mixMarket_119 : decode cX7_mixMarket 119 = .ok (.getfield 55, 3) := by decide +kernel
theorem dX7_mixMarket_122 : decode cX7_mixMarket 122 = .ok (.bipush 32, 2) := by decide +kernel
theorem dX7_mixMarket_124 : decode cX7_mixMarket 124 = .ok (.iload_n 1, 1) := by decide +kernel
theorem dX7_mixMarket_125 : decode cX7_mixMarket 125 = .ok (.imul, 1) := by decide +kernel
theorem dX7_mixMarket_126 : decode cX7_mixMarket 126 = .ok (.iaload, 1) := by decide +kernel
theorem dX7_mixMarket_127 : decode cX7_mixMarket 127 = .ok (.bipush (-9), 2) := by decide +kernel
theorem dX7_mixMarket_129 : decode cX7_mixMarket 129 = .ok (.if_icmp .ne 7, 3) := by decide +kernel
theorem dX7_mixMarket_132 : decode cX7_mixMarket 132 = .ok (.iconst (-1), 1) := by decide +kernel
theorem dX7_mixMarket_133 : decode cX7_mixMarket 133 = .ok (.goto 12, 3) := by decide +kernel
theorem dX7_mixMarket_136 : decode cX7_mixMarket 136 = .ok (.aload_n 0, 1) := by decide +kernel
theorem dX7_mixMarket_137 : decode cX7_mixMarket 137 = .ok (.getfield 55, 3) := by decide +kernel
theorem dX7_mixMarket_140 : decode cX7_mixMarket 140 = .ok (.bipush 32, 2) := by decide +kernel
theorem dX7_mixMarket_142 : decode cX7_mixMarket 142 = .ok (.iload_n 1, 1) := by decide +kernel
theorem dX7_mixMarket_143 : decode cX7_mixMarket 143 = .ok (.imul, 1) := by decide +kernel
theorem dX7_mixMarket_144 : decode cX7_mixMarket 144 = .ok (.iaload, 1) := by decide +kernel
theorem dX7_mixMarket_145 : decode cX7_mixMarket 145 = .ok (.invokevirtual 339, 3) := by decide +kernel
theorem dX7_mixMarket_148 : decode cX7_mixMarket 148 = .ok (.iinc 1 1, 3) := by decide +kernel
theorem dX7_mixMarket_151 : decode cX7_mixMarket 151 = .ok (.goto (-39), 3) := by decide +kernel
theorem dX7_mixMarket_154 : decode cX7_mixMarket 154 = .ok (.return_, 1) := by decide +kernel
theorem dX7_digest_0 : decode cX7_digest 0 = .ok (.aload_n 0, 1) := by decide +kernel
theorem dX7_digest_1 : decode cX7_digest 1 = .ok (.ldc2_w 342, 3) := by decide +kernel
theorem dX7_digest_4 : decode cX7_digest 4 = .ok (.putfield 335, 3) := by decide +kernel
theorem dX7_digest_7 : decode cX7_digest 7 = .ok (.iconst 0, 1) := by decide +kernel
theorem dX7_digest_8 : decode cX7_digest 8 = .ok (.istore_n 1, 1) := by decide +kernel
theorem dX7_digest_9 : decode cX7_digest 9 = .ok (.iload_n 1, 1) := by decide +kernel
theorem dX7_digest_10 : decode cX7_digest 10 = .ok (.bipush 8, 2) := by decide +kernel
theorem dX7_digest_12 : decode cX7_digest 12 = .ok (.if_icmp .gt 18, 3) := by decide +kernel
theorem dX7_digest_15 : decode cX7_digest 15 = .ok (.aload_n 0, 1) := by decide +kernel
theorem dX7_digest_16 : decode cX7_digest 16 = .ok (.aload_n 0, 1) := by decide +kernel
theorem dX7_digest_17 : decode cX7_digest 17 = .ok (.iload_n 1, 1) := by decide +kernel
theorem dX7_digest_18 : decode cX7_digest 18 = .ok (.invokevirtual 330, 3) := by decide +kernel
theorem dX7_digest_21 : decode cX7_digest 21 = .ok (.invokevirtual 339, 3) := by decide +kernel
theorem dX7_digest_24 : decode cX7_digest 24 = .ok (.iinc 1 1, 3) := by decide +kernel
theorem dX7_digest_27 : decode cX7_digest 27 = .ok (.goto (-18), 3) := by decide +kernel
theorem dX7_digest_30 : decode cX7_digest 30 = .ok (.aload_n 0, 1) := by decide +kernel
theorem dX7_digest_31 : decode cX7_digest 31 = .ok (.invokevirtual 344, 3) := by decide +kernel
theorem dX7_digest_34 : decode cX7_digest 34 = .ok (.iconst 0, 1) := by decide +kernel
theorem dX7_digest_35 : decode cX7_digest 35 = .ok (.istore_n 1, 1) := by decide +kernel
theorem dX7_digest_36 : decode cX7_digest 36 = .ok (.iload_n 1, 1) := by decide +kernel
theorem dX7_digest_37 : decode cX7_digest 37 = .ok (.bipush 6, 2) := by decide +kernel
theorem dX7_digest_39 : decode cX7_digest 39 = .ok (.if_icmp .ge 60, 3) := by decide +kernel
theorem dX7_digest_42 : decode cX7_digest 42 = .ok (.aload_n 0, 1) := by decide +kernel
theorem dX7_digest_43 : decode cX7_digest 43 = .ok (.aload_n 0, 1) := by decide +kernel
theorem dX7_digest_44 : decode cX7_digest 44 = .ok (.getfield 13, 3) := by decide +kernel
theorem dX7_digest_47 : decode cX7_digest 47 = .ok (.iload_n 1, 1) := by decide +kernel
theorem dX7_digest_48 : decode cX7_digest 48 = .ok (.iaload, 1) := by decide +kernel
theorem dX7_digest_49 : decode cX7_digest 49 = .ok (.ifCond .ge 7, 3) := by decide +kernel
theorem dX7_digest_52 : decode cX7_digest 52 = .ok (.iconst (-1), 1) := by decide +kernel
theorem dX7_digest_53 : decode cX7_digest 53 = .ok (.goto 9, 3) := by decide +kernel
theorem dX7_digest_56 : decode cX7_digest 56 = .ok (.aload_n 0, 1) := by decide +kernel
theorem dX7_digest_57 : decode cX7_digest 57 = .ok (.getfield 13, 3) := by decide +kernel
theorem dX7_digest_60 : decode cX7_digest 60 = .ok (.iload_n 1, 1) := by decide +kernel
theorem dX7_digest_61 : decode cX7_digest 61 = .ok (.iaload, 1) := by decide +kernel
theorem dX7_digest_62 : decode cX7_digest 62 = .ok (.invokevirtual 339, 3) := by decide +kernel
theorem dX7_digest_65 : decode cX7_digest 65 = .ok (.iconst 0, 1) := by decide +kernel
theorem dX7_digest_66 : decode cX7_digest 66 = .ok (.istore_n 2, 1) := by decide +kernel
theorem dX7_digest_67 : decode cX7_digest 67 = .ok (.iload_n 2, 1) := by decide +kernel
theorem dX7_digest_68 : decode cX7_digest 68 = .ok (.aload_n 0, 1) := by decide +kernel
theorem dX7_digest_69 : decode cX7_digest 69 = .ok (.getfield 13, 3) := by decide +kernel
theorem dX7_digest_72 : decode cX7_digest 72 = .ok (.iload_n 1, 1) := by decide +kernel
theorem dX7_digest_73 : decode cX7_digest 73 = .ok (.iaload, 1) := by decide +kernel
theorem dX7_digest_74 : decode cX7_digest 74 = .ok (.if_icmp .ge 19, 3) := by decide +kernel
theorem dX7_digest_77 : decode cX7_digest 77 = .ok (.aload_n 0, 1) := by decide +kernel
theorem dX7_digest_78 : decode cX7_digest 78 = .ok (.aload_n 0, 1) := by decide +kernel
theorem dX7_digest_79 : decode cX7_digest 79 = .ok (.iload_n 1, 1) := by decide +kernel
theorem dX7_digest_80 : decode cX7_digest 80 = .ok (.iload_n 2, 1) := by decide +kernel
theorem dX7_digest_81 : decode cX7_digest 81 = .ok (.invokevirtual 105, 3) := by decide +kernel
theorem dX7_digest_84 : decode cX7_digest 84 = .ok (.invokevirtual 339, 3) := by decide +kernel
theorem dX7_digest_87 : decode cX7_digest 87 = .ok (.iinc 2 1, 3) := by decide +kernel
theorem dX7_digest_90 : decode cX7_digest 90 = .ok (.goto (-23), 3) := by decide +kernel
theorem dX7_digest_93 : decode cX7_digest 93 = .ok (.iinc 1 1, 3) := by decide +kernel
theorem dX7_digest_96 : decode cX7_digest 96 = .ok (.goto (-60), 3) := by decide +kernel
theorem dX7_digest_99 : decode cX7_digest 99 = .ok (.iconst 0, 1) := by decide +kernel
theorem dX7_digest_100 : decode cX7_digest 100 = .ok (.istore_n 1, 1) := by decide +kernel
theorem dX7_digest_101 : decode cX7_digest 101 = .ok (.iload_n 1, 1) := by decide +kernel
theorem dX7_digest_102 : decode cX7_digest 102 = .ok (.iconst 4, 1) := by decide +kernel
theorem dX7_digest_103 : decode cX7_digest 103 = .ok (.if_icmp .ge 65, 3) := by decide +kernel
theorem dX7_digest_106 : decode cX7_digest 106 = .ok (.aload_n 0, 1) := by decide +kernel
theorem dX7_digest_107 : decode cX7_digest 107 = .ok (.aload_n 0, 1) := by decide +kernel
theorem dX7_digest_108 : decode cX7_digest 108 = .ok (.getfield 22, 3) := by decide +kernel
theorem dX7_digest_111 : decode cX7_digest 111 = .ok (.iload_n 1, 1) := by decide +kernel
theorem dX7_digest_112 : decode cX7_digest 112 = .ok (.iaload, 1) := by decide +kernel
theorem dX7_digest_113 : decode cX7_digest 113 = .ok (.ifCond .ge 7, 3) := by decide +kernel
theorem dX7_digest_116 : decode cX7_digest 116 = .ok (.iconst (-1), 1) := by decide +kernel
theorem dX7_digest_117 : decode cX7_digest 117 = .ok (.goto 9, 3) := by decide +kernel
theorem dX7_digest_120 : decode cX7_digest 120 = .ok (.aload_n 0, 1) := by decide +kernel
theorem dX7_digest_121 : decode cX7_digest 121 = .ok (.getfield 22, 3) := by decide +kernel
theorem dX7_digest_124 : decode cX7_digest 124 = .ok (.iload_n 1, 1) := by decide +kernel
theorem dX7_digest_125 : decode cX7_digest 125 = .ok (.iaload, 1) := by decide +kernel
theorem dX7_digest_126 : decode cX7_digest 126 = .ok (.invokevirtual 339, 3) := by decide +kernel
theorem dX7_digest_129 : decode cX7_digest 129 = .ok (.iconst 0, 1) := by decide +kernel
theorem dX7_digest_130 : decode cX7_digest 130 = .ok (.istore_n 2, 1) := by decide +kernel
theorem dX7_digest_131 : decode cX7_digest 131 = .ok (.iload_n 2, 1) := by decide +kernel
theorem dX7_digest_132 : decode cX7_digest 132 = .ok (.aload_n 0, 1) := by decide +kernel
theorem dX7_digest_133 : decode cX7_digest 133 = .ok (.getfield 22, 3) := by decide +kernel
theorem dX7_digest_136 : decode cX7_digest 136 = .ok (.iload_n 1, 1) := by decide +kernel
theorem dX7_digest_137 : decode cX7_digest 137 = .ok (.iaload, 1) := by decide +kernel
theorem dX7_digest_138 : decode cX7_digest 138 = .ok (.if_icmp .ge 24, 3) := by decide +kernel
theorem dX7_digest_141 : decode cX7_digest 141 = .ok (.aload_n 0, 1) := by decide +kernel
theorem dX7_digest_142 : decode cX7_digest 142 = .ok (.aload_n 0, 1) := by decide +kernel
theorem dX7_digest_143 : decode cX7_digest 143 = .ok (.getfield 25, 3) := by decide +kernel
theorem dX7_digest_146 : decode cX7_digest 146 = .ok (.bipush 80, 2) := by decide +kernel
theorem dX7_digest_148 : decode cX7_digest 148 = .ok (.iload_n 1, 1) := by decide +kernel
theorem dX7_digest_149 : decode cX7_digest 149 = .ok (.imul, 1) := by decide +kernel
theorem dX7_digest_150 : decode cX7_digest 150 = .ok (.iload_n 2, 1) := by decide +kernel
theorem dX7_digest_151 : decode cX7_digest 151 = .ok (.iadd, 1) := by decide +kernel
theorem dX7_digest_152 : decode cX7_digest 152 = .ok (.iaload, 1) := by decide +kernel
theorem dX7_digest_153 : decode cX7_digest 153 = .ok (.invokevirtual 339, 3) := by decide +kernel
theorem dX7_digest_156 : decode cX7_digest 156 = .ok (.iinc 2 1, 3) := by decide +kernel
theorem dX7_digest_159 : decode cX7_digest 159 = .ok (.goto (-28), 3) := by decide +kernel
theorem dX7_digest_162 : decode cX7_digest 162 = .ok (.iinc 1 1, 3) := by decide +kernel
theorem dX7_digest_165 : decode cX7_digest 165 = .ok (.goto (-64), 3) := by decide +kernel
theorem dX7_digest_168 : decode cX7_digest 168 = .ok (.aload_n 0, 1) := by decide +kernel
theorem dX7_digest_169 : decode cX7_digest 169 = .ok (.getfield 335, 3) := by decide +kernel
theorem dX7_digest_172 : decode cX7_digest 172 = .ok (.lreturn, 1) := by decide +kernel
theorem dJ6_bitCount_0f7a4_0 : decode cJ6_bitCount_0f7a4 0 = .ok (.iload_n 0, 1) := by decide +kernel
theorem dJ6_bitCount_0f7a4_1 : decode cJ6_bitCount_0f7a4 1 = .ok (.iload_n 0, 1) := by decide +kernel
theorem dJ6_bitCount_0f7a4_2 : decode cJ6_bitCount_0f7a4 2 = .ok (.iconst 1, 1) := by decide +kernel
theorem dJ6_bitCount_0f7a4_3 : decode cJ6_bitCount_0f7a4 3 = .ok (.iushr, 1) := by decide +kernel
theorem dJ6_bitCount_0f7a4_4 : decode cJ6_bitCount_0f7a4 4 = .ok (.ldc_w 265, 3) := by decide +kernel
theorem dJ6_bitCount_0f7a4_7 : decode cJ6_bitCount_0f7a4 7 = .ok (.iand, 1) := by decide +kernel
theorem dJ6_bitCount_0f7a4_8 : decode cJ6_bitCount_0f7a4 8 = .ok (.isub, 1) := by decide +kernel
theorem dJ6_bitCount_0f7a4_9 : decode cJ6_bitCount_0f7a4 9 = .ok (.istore_n 0, 1) := by decide +kernel
theorem dJ6_bitCount_0f7a4_10 : decode cJ6_bitCount_0f7a4 10 = .ok (.iload_n 0, 1) := by decide +kernel
theorem dJ6_bitCount_0f7a4_11 : decode cJ6_bitCount_0f7a4 11 = .ok (.ldc_w 266, 3) := by decide +kernel
theorem dJ6_bitCount_0f7a4_14 : decode cJ6_bitCount_0f7a4 14 = .ok (.iand, 1) := by decide +kernel
theorem dJ6_bitCount_0f7a4_15 : decode cJ6_bitCount_0f7a4 15 = .ok (.iload_n 0, 1) := by decide +kernel
theorem dJ6_bitCount_0f7a4_16 : decode cJ6_bitCount_0f7a4 16 = .ok (.iconst 2, 1) := by decide +kernel
theorem dJ6_bitCount_0f7a4_17 : decode cJ6_bitCount_0f7a4 17 = .ok (.iushr, 1) := by decide +kernel
theorem dJ6_bitCount_0f7a4_18 : decode cJ6_bitCount_0f7a4 18 = .ok (.ldc_w 266, 3) := by decide +kernel
theorem dJ6_bitCount_0f7a4_21 : decode cJ6_bitCount_0f7a4 21 = .ok (.iand, 1) := by decide +kernel
theorem dJ6_bitCount_0f7a4_22 : decode cJ6_bitCount_0f7a4 22 = .ok (.iadd, 1) := by decide +kernel
theorem dJ6_bitCount_0f7a4_23 : decode cJ6_bitCount_0f7a4 23 = .ok (.istore_n 0, 1) := by decide +kernel
theorem dJ6_bitCount_0f7a4_24 : decode cJ6_bitCount_0f7a4 24 = .ok (.iload_n 0, 1) := by decide +kernel
theorem dJ6_bitCount_0f7a4_25 : decode cJ6_bitCount_0f7a4 25 = .ok (.iload_n 0, 1) := by decide +kernel
theorem dJ6_bitCount_0f7a4_26 : decode cJ6_bitCount_0f7a4 26 = .ok (.iconst 4, 1) := by decide +kernel
theorem dJ6_bitCount_0f7a4_27 : decode cJ6_bitCount_0f7a4 27 = .ok (.iushr, 1) := by decide +kernel
theorem dJ6_bitCount_0f7a4_28 : decode cJ6_bitCount_0f7a4 28 = .ok (.iadd, 1) := by decide +kernel
theorem dJ6_bitCount_0f7a4_29 : decode cJ6_bitCount_0f7a4 29 = .ok (.ldc_w 267, 3) := by decide +kernel
theorem dJ6_bitCount_0f7a4_32 : decode cJ6_bitCount_0f7a4 32 = .ok (.iand, 1) := by decide +kernel
theorem dJ6_bitCount_0f7a4_33 : decode cJ6_bitCount_0f7a4 33 = .ok (.istore_n 0, 1) := by decide +kernel
theorem dJ6_bitCount_0f7a4_34 : decode cJ6_bitCount_0f7a4 34 = .ok (.iload_n 0, 1) := by decide +kernel
theorem dJ6_bitCount_0f7a4_35 : decode cJ6_bitCount_0f7a4 35 = .ok (.iload_n 0, 1) := by decide +kernel
theorem dJ6_bitCount_0f7a4_36 : decode cJ6_bitCount_0f7a4 36 = .ok (.bipush 8, 2) := by decide +kernel
theorem dJ6_bitCount_0f7a4_38 : decode cJ6_bitCount_0f7a4 38 = .ok (.iushr, 1) := by decide +kernel
theorem dJ6_bitCount_0f7a4_39 : decode cJ6_bitCount_0f7a4 39 = .ok (.iadd, 1) := by decide +kernel
theorem dJ6_bitCount_0f7a4_40 : decode cJ6_bitCount_0f7a4 40 = .ok (.istore_n 0, 1) := by decide +kernel
theorem dJ6_bitCount_0f7a4_41 : decode cJ6_bitCount_0f7a4 41 = .ok (.iload_n 0, 1) := by decide +kernel
theorem dJ6_bitCount_0f7a4_42 : decode cJ6_bitCount_0f7a4 42 = .ok (.iload_n 0, 1) := by decide +kernel
theorem dJ6_bitCount_0f7a4_43 : decode cJ6_bitCount_0f7a4 43 = .ok (.bipush 16, 2) := by decide +kernel
theorem dJ6_bitCount_0f7a4_45 : decode cJ6_bitCount_0f7a4 45 = .ok (.iushr, 1) := by decide +kernel
theorem dJ6_bitCount_0f7a4_46 : decode cJ6_bitCount_0f7a4 46 = .ok (.iadd, 1) := by decide +kernel
theorem dJ6_bitCount_0f7a4_47 : decode cJ6_bitCount_0f7a4 47 = .ok (.istore_n 0, 1) := by decide +kernel
theorem dJ6_bitCount_0f7a4_48 : decode cJ6_bitCount_0f7a4 48 = .ok (.iload_n 0, 1) := by decide +kernel
theorem dJ6_bitCount_0f7a4_49 : decode cJ6_bitCount_0f7a4 49 = .ok (.bipush 63, 2) := by decide +kernel
theorem dJ6_bitCount_0f7a4_51 : decode cJ6_bitCount_0f7a4 51 = .ok (.iand, 1) := by decide +kernel
theorem dJ6_bitCount_0f7a4_52 : decode cJ6_bitCount_0f7a4 52 = .ok (.ireturn, 1) := by decide +kernel
theorem dJ9_abs_0f7a4_0 : decode cJ9_abs_0f7a4 0 = .ok (.iload_n 0, 1) := by decide +kernel
theorem dJ9_abs_0f7a4_1 : decode cJ9_abs_0f7a4 1 = .ok (.ifCond .ge 8, 3) := by decide +kernel
theorem dJ9_abs_0f7a4_4 : decode cJ9_abs_0f7a4 4 = .ok (.iload_n 0, 1) := by decide +kernel
theorem dJ9_abs_0f7a4_5 : decode cJ9_abs_0f7a4 5 = .ok (.ineg, 1) := by decide +kernel
theorem dJ9_abs_0f7a4_6 : decode cJ9_abs_0f7a4 6 = .ok (.goto 4, 3) := by decide +kernel
theorem dJ9_abs_0f7a4_9 : decode cJ9_abs_0f7a4 9 = .ok (.iload_n 0, 1) := by decide +kernel
theorem dJ9_abs_0f7a4_10 : decode cJ9_abs_0f7a4 10 = .ok (.ireturn, 1) := by decide +kernel
theorem dJ9_max_f86c9_0 : decode cJ9_max_f86c9 0 = .ok (.lload_n 0, 1) := by decide +kernel
theorem dJ9_max_f86c9_1 : decode cJ9_max_f86c9 1 = .ok (.lload_n 2, 1) := by decide +kernel
theorem dJ9_max_f86c9_2 : decode cJ9_max_f86c9 2 = .ok (.lcmp, 1) := by decide +kernel
theorem dJ9_max_f86c9_3 : decode cJ9_max_f86c9 3 = .ok (.ifCond .lt 7, 3) := by decide +kernel
theorem dJ9_max_f86c9_6 : decode cJ9_max_f86c9 6 = .ok (.lload_n 0, 1) := by decide +kernel
theorem dJ9_max_f86c9_7 : decode cJ9_max_f86c9 7 = .ok (.goto 4, 3) := by decide +kernel
theorem dJ9_max_f86c9_10 : decode cJ9_max_f86c9 10 = .ok (.lload_n 2, 1) := by decide +kernel
theorem dJ9_max_f86c9_11 : decode cJ9_max_f86c9 11 = .ok (.lreturn, 1) := by decide +kernel
theorem dL_law_0 : decode cL_law 0 = .ok (.new 7, 3) := by decide +kernel
theorem dL_law_3 : decode cL_law 3 = .ok (.dup, 1) := by decide +kernel
theorem dL_law_4 : decode cL_law 4 = .ok (.invokespecial 9, 3) := by decide +kernel
theorem dL_law_7 : decode cL_law 7 = .ok (.astore_n 1, 1) := by decide +kernel
theorem dL_law_8 : decode cL_law 8 = .ok (.new 10, 3) := by decide +kernel
theorem dL_law_11 : decode cL_law 11 = .ok (.dup, 1) := by decide +kernel
theorem dL_law_12 : decode cL_law 12 = .ok (.invokespecial 12, 3) := by decide +kernel
theorem dL_law_15 : decode cL_law 15 = .ok (.astore_n 2, 1) := by decide +kernel
theorem dL_law_16 : decode cL_law 16 = .ok (.iconst 0, 1) := by decide +kernel
theorem dL_law_17 : decode cL_law 17 = .ok (.istore_n 3, 1) := by decide +kernel
theorem dL_law_18 : decode cL_law 18 = .ok (.iload_n 3, 1) := by decide +kernel
theorem dL_law_19 : decode cL_law 19 = .ok (.aload_n 0, 1) := by decide +kernel
theorem dL_law_20 : decode cL_law 20 = .ok (.arraylength, 1) := by decide +kernel
theorem dL_law_21 : decode cL_law 21 = .ok (.bipush 6, 2) := by decide +kernel
theorem dL_law_23 : decode cL_law 23 = .ok (.isub, 1) := by decide +kernel
theorem dL_law_24 : decode cL_law 24 = .ok (.if_icmp .gt 1317, 3) := by decide +kernel
theorem dL_law_27 : decode cL_law 27 = .ok (.aload_n 0, 1) := by decide +kernel
theorem dL_law_28 : decode cL_law 28 = .ok (.iload_n 3, 1) := by decide +kernel
theorem dL_law_29 : decode cL_law 29 = .ok (.iaload, 1) := by decide +kernel
theorem dL_law_30 : decode cL_law 30 = .ok (.bipush 63, 2) := by decide +kernel
theorem dL_law_32 : decode cL_law 32 = .ok (.iand, 1) := by decide +kernel
theorem dL_law_33 : decode cL_law 33 = .ok (.tableswitch 1302 0 41 #[183, 216, 259, 292, 315, 378, 401, 434, 477, 500, 523, 556, 589, 622, 655, 688, 711, 734, 757, 780, 793, 806, 829, 852, 875, 898, 911, 944, 977, 1010, 1033, 1046, 1059, 1102, 1155, 1188, 1201, 1215, 1229, 1252, 1265, 1288], 183) := by decide +kernel
theorem dL_law_216 : decode cL_law 216 = .ok (.aload_n 1, 1) := by decide +kernel
theorem dL_law_217 : decode cL_law 217 = .ok (.aload_n 0, 1) := by decide +kernel
theorem dL_law_218 : decode cL_law 218 = .ok (.iload_n 3, 1) := by decide +kernel
theorem dL_law_219 : decode cL_law 219 = .ok (.iconst 1, 1) := by decide +kernel
theorem dL_law_220 : decode cL_law 220 = .ok (.iadd, 1) := by decide +kernel
theorem dL_law_221 : decode cL_law 221 = .ok (.iaload, 1) := by decide +kernel
theorem dL_law_222 : decode cL_law 222 = .ok (.aload_n 0, 1) := by decide +kernel
theorem dL_law_223 : decode cL_law 223 = .ok (.iload_n 3, 1) := by decide +kernel
theorem dL_law_224 : decode cL_law 224 = .ok (.iconst 2, 1) := by decide +kernel
theorem dL_law_225 : decode cL_law 225 = .ok (.iadd, 1) := by decide +kernel
theorem dL_law_226 : decode cL_law 226 = .ok (.iaload, 1) := by decide +kernel
theorem dL_law_227 : decode cL_law 227 = .ok (.invokevirtual 13, 3) := by decide +kernel
theorem dL_law_230 : decode cL_law 230 = .ok (.aload_n 2, 1) := by decide +kernel
theorem dL_law_231 : decode cL_law 231 = .ok (.aload_n 0, 1) := by decide +kernel
theorem dL_law_232 : decode cL_law 232 = .ok (.iload_n 3, 1) := by decide +kernel
theorem dL_law_233 : decode cL_law 233 = .ok (.iconst 1, 1) := by decide +kernel
theorem dL_law_234 : decode cL_law 234 = .ok (.iadd, 1) := by decide +kernel
theorem dL_law_235 : decode cL_law 235 = .ok (.iaload, 1) := by decide +kernel
theorem dL_law_236 : decode cL_law 236 = .ok (.aload_n 0, 1) := by decide +kernel
theorem dL_law_237 : decode cL_law 237 = .ok (.iload_n 3, 1) := by decide +kernel
theorem dL_law_238 : decode cL_law 238 = .ok (.iconst 2, 1) := by decide +kernel
theorem dL_law_239 : decode cL_law 239 = .ok (.iadd, 1) := by decide +kernel
theorem dL_law_240 : decode cL_law 240 = .ok (.iaload, 1) := by decide +kernel
theorem dL_law_241 : decode cL_law 241 = .ok (.invokevirtual 17, 3) := by decide +kernel
theorem dL_law_244 : decode cL_law 244 = .ok (.if_icmp .eq 1091, 3) := by decide +kernel
theorem dL_law_247 : decode cL_law 247 = .ok (.iconst 0, 1) := by decide +kernel
theorem dL_law_248 : decode cL_law 248 = .ok (.ireturn, 1) := by decide +kernel
theorem dL_law_249 : decode cL_law 249 = .ok (.aload_n 1, 1) := by decide +kernel
theorem dL_law_250 : decode cL_law 250 = .ok (.aload_n 0, 1) := by decide +kernel
theorem dL_law_251 : decode cL_law 251 = .ok (.iload_n 3, 1) := by decide +kernel
theorem dL_law_252 : decode cL_law 252 = .ok (.iconst 1, 1) := by decide +kernel
theorem dL_law_253 : decode cL_law 253 = .ok (.iadd, 1) := by decide +kernel
theorem dL_law_254 : decode cL_law 254 = .ok (.iaload, 1) := by decide +kernel
theorem dL_law_255 : decode cL_law 255 = .ok (.aload_n 0, 1) := by decide +kernel
theorem dL_law_256 : decode cL_law 256 = .ok (.iload_n 3, 1) := by decide +kernel
theorem dL_law_257 : decode cL_law 257 = .ok (.iconst 2, 1) := by decide +kernel
theorem dL_law_258 : decode cL_law 258 = .ok (.iadd, 1) := by decide +kernel
theorem dL_law_259 : decode cL_law 259 = .ok (.iaload, 1) := by decide +kernel
theorem dL_law_260 : decode cL_law 260 = .ok (.aload_n 0, 1) := by decide +kernel
theorem dL_law_261 : decode cL_law 261 = .ok (.iload_n 3, 1) := by decide +kernel
theorem dL_law_262 : decode cL_law 262 = .ok (.iconst 3, 1) := by decide +kernel
theorem dL_law_263 : decode cL_law 263 = .ok (.iadd, 1) := by decide +kernel
theorem dL_law_264 : decode cL_law 264 = .ok (.iaload, 1) := by decide +kernel
theorem dL_law_265 : decode cL_law 265 = .ok (.invokevirtual 18, 3) := by decide +kernel
theorem dL_law_268 : decode cL_law 268 = .ok (.aload_n 2, 1) := by decide +kernel
theorem dL_law_269 : decode cL_law 269 = .ok (.aload_n 0, 1) := by decide +kernel
theorem dL_law_270 : decode cL_law 270 = .ok (.iload_n 3, 1) := by decide +kernel
theorem dL_law_271 : decode cL_law 271 = .ok (.iconst 1, 1) := by decide +kernel
theorem dL_law_272 : decode cL_law 272 = .ok (.iadd, 1) := by decide +kernel
theorem dL_law_273 : decode cL_law 273 = .ok (.iaload, 1) := by decide +kernel
theorem dL_law_274 : decode cL_law 274 = .ok (.aload_n 0, 1) := by decide +kernel
theorem dL_law_275 : decode cL_law 275 = .ok (.iload_n 3, 1) := by decide +kernel
theorem dL_law_276 : decode cL_law 276 = .ok (.iconst 2, 1) := by decide +kernel
theorem dL_law_277 : decode cL_law 277 = .ok (.iadd, 1) := by decide +kernel
theorem dL_law_278 : decode cL_law 278 = .ok (.iaload, 1) := by decide +kernel
theorem dL_law_279 : decode cL_law 279 = .ok (.aload_n 0, 1) := by decide +kernel
theorem dL_law_280 : decode cL_law 280 = .ok (.iload_n 3, 1) := by decide +kernel
theorem dL_law_281 : decode cL_law 281 = .ok (.iconst 3, 1) := by decide +kernel
theorem dL_law_282 : decode cL_law 282 = .ok (.iadd, 1) := by decide +kernel
theorem dL_law_283 : decode cL_law 283 = .ok (.iaload, 1) := by decide +kernel
theorem dL_law_284 : decode cL_law 284 = .ok (.invokevirtual 22, 3) := by decide +kernel
theorem dL_law_287 : decode cL_law 287 = .ok (.if_icmp .eq 1048, 3) := by decide +kernel
theorem dL_law_290 : decode cL_law 290 = .ok (.iconst 0, 1) := by decide +kernel
theorem dL_law_291 : decode cL_law 291 = .ok (.ireturn, 1) := by decide +kernel
theorem dL_law_292 : decode cL_law 292 = .ok (.aload_n 1, 1) := by decide +kernel
theorem dL_law_293 : decode cL_law 293 = .ok (.aload_n 0, 1) := by decide +kernel
theorem dL_law_294 : decode cL_law 294 = .ok (.iload_n 3, 1) := by decide +kernel
theorem dL_law_295 : decode cL_law 295 = .ok (.iconst 1, 1) := by decide +kernel
theorem dL_law_296 : decode cL_law 296 = .ok (.iadd, 1) := by decide +kernel
theorem dL_law_297 : decode cL_law 297 = .ok (.iaload, 1) := by decide +kernel
theorem dL_law_298 : decode cL_law 298 = .ok (.aload_n 0, 1) := by decide +kernel
theorem dL_law_299 : decode cL_law 299 = .ok (.iload_n 3, 1) := by decide +kernel
theorem dL_law_300 : decode cL_law 300 = .ok (.iconst 2, 1) := by decide +kernel
theorem dL_law_301 : decode cL_law 301 = .ok (.iadd, 1) := by decide +kernel
theorem dL_law_302 : decode cL_law 302 = .ok (.iaload, 1) := by decide +kernel
theorem dL_law_303 : decode cL_law 303 = .ok (.invokevirtual 23, 3) := by decide +kernel
theorem dL_law_306 : decode cL_law 306 = .ok (.aload_n 2, 1) := by decide +kernel
theorem dL_law_307 : decode cL_law 307 = .ok (.aload_n 0, 1) := by decide +kernel
theorem dL_law_308 : decode cL_law 308 = .ok (.iload_n 3, 1) := by decide +kernel
theorem dL_law_309 : decode cL_law 309 = .ok (.iconst 1, 1) := by decide +kernel
theorem dL_law_310 : decode cL_law 310 = .ok (.iadd, 1) := by decide +kernel
theorem dL_law_311 : decode cL_law 311 = .ok (.iaload, 1) := by decide +kernel
theorem dL_law_312 : decode cL_law 312 = .ok (.aload_n 0, 1) := by decide +kernel
theorem dL_law_313 : decode cL_law 313 = .ok (.iload_n 3, 1) := by decide +kernel
theorem dL_law_314 : decode cL_law 314 = .ok (.iconst 2, 1) := by decide +kernel
theorem dL_law_315 : decode cL_law 315 = .ok (.iadd, 1) := by decide +kernel
theorem dL_law_316 : decode cL_law 316 = .ok (.iaload, 1) := by decide +kernel
theorem dL_law_317 : decode cL_law 317 = .ok (.invokevirtual 26, 3) := by decide +kernel
theorem dL_law_320 : decode cL_law 320 = .ok (.if_icmp .eq 1015, 3) := by decide +kernel
theorem dL_law_323 : decode cL_law 323 = .ok (.iconst 0, 1) := by decide +kernel
theorem dL_law_324 : decode cL_law 324 = .ok (.ireturn, 1) := by decide +kernel
theorem dL_law_325 : decode cL_law 325 = .ok (.aload_n 1, 1) := by decide +kernel
theorem dL_law_326 : decode cL_law 326 = .ok (.aload_n 0, 1) := by decide +kernel
theorem dL_law_327 : decode cL_law 327 = .ok (.iload_n 3, 1) := by decide +kernel
theorem dL_law_328 : decode cL_law 328 = .ok (.iconst 1, 1) := by decide +kernel
theorem dL_law_329 : decode cL_law 329 = .ok (.iadd, 1) := by decide +kernel
theorem dL_law_330 : decode cL_law 330 = .ok (.iaload, 1) := by decide +kernel
theorem dL_law_331 : decode cL_law 331 = .ok (.invokevirtual 27, 3) := by decide +kernel
theorem dL_law_334 : decode cL_law 334 = .ok (.aload_n 2, 1) := by decide +kernel
theorem dL_law_335 : decode cL_law 335 = .ok (.aload_n 0, 1) := by decide +kernel
theorem dL_law_336 : decode cL_law 336 = .ok (.iload_n 3, 1) := by decide +kernel
theorem dL_law_337 : decode cL_law 337 = .ok (.iconst 1, 1) := by decide +kernel
theorem dL_law_338 : decode cL_law 338 = .ok (.iadd, 1) := by decide +kernel
theorem dL_law_339 : decode cL_law 339 = .ok (.iaload, 1) := by decide +kernel
theorem dL_law_340 : decode cL_law 340 = .ok (.invokevirtual 31, 3) := by decide +kernel
theorem dL_law_343 : decode cL_law 343 = .ok (.if_icmp .eq 992, 3) := by decide +kernel
theorem dL_law_346 : decode cL_law 346 = .ok (.iconst 0, 1) := by decide +kernel
theorem dL_law_347 : decode cL_law 347 = .ok (.ireturn, 1) := by decide +kernel
theorem dL_law_348 : decode cL_law 348 = .ok (.aload_n 1, 1) := by decide +kernel
theorem dL_law_349 : decode cL_law 349 = .ok (.aload_n 0, 1) := by decide +kernel
theorem dL_law_350 : decode cL_law 350 = .ok (.iload_n 3, 1) := by decide +kernel
theorem dL_law_351 : decode cL_law 351 = .ok (.iconst 1, 1) := by decide +kernel
theorem dL_law_352 : decode cL_law 352 = .ok (.iadd, 1) := by decide +kernel
theorem dL_law_353 : decode cL_law 353 = .ok (.iaload, 1) := by decide +kernel
theorem dL_law_354 : decode cL_law 354 = .ok (.aload_n 0, 1) := by decide +kernel
theorem dL_law_355 : decode cL_law 355 = .ok (.iload_n 3, 1) := by decide +kernel
theorem dL_law_356 : decode cL_law 356 = .ok (.iconst 2, 1) := by decide +kernel
theorem dL_law_357 : decode cL_law 357 = .ok (.iadd, 1) := by decide +kernel
theorem dL_law_358 : decode cL_law 358 = .ok (.iaload, 1) := by decide +kernel
theorem dL_law_359 : decode cL_law 359 = .ok (.aload_n 0, 1) := by decide +kernel
theorem dL_law_360 : decode cL_law 360 = .ok (.iload_n 3, 1) := by decide +kernel
theorem dL_law_361 : decode cL_law 361 = .ok (.iconst 3, 1) := by decide +kernel
theorem dL_law_362 : decode cL_law 362 = .ok (.iadd, 1) := by decide +kernel
theorem dL_law_363 : decode cL_law 363 = .ok (.iaload, 1) := by decide +kernel
theorem dL_law_364 : decode cL_law 364 = .ok (.aload_n 0, 1) := by decide +kernel
theorem dL_law_365 : decode cL_law 365 = .ok (.iload_n 3, 1) := by decide +kernel
theorem dL_law_366 : decode cL_law 366 = .ok (.iconst 4, 1) := by decide +kernel
theorem dL_law_367 : decode cL_law 367 = .ok (.iadd, 1) := by decide +kernel
theorem dL_law_368 : decode cL_law 368 = .ok (.iaload, 1) := by decide +kernel
theorem dL_law_369 : decode cL_law 369 = .ok (.aload_n 0, 1) := by decide +kernel
theorem dL_law_370 : decode cL_law 370 = .ok (.iload_n 3, 1) := by decide +kernel
theorem dL_law_371 : decode cL_law 371 = .ok (.iconst 5, 1) := by decide +kernel
theorem dL_law_372 : decode cL_law 372 = .ok (.iadd, 1) := by decide +kernel
theorem dL_law_373 : decode cL_law 373 = .ok (.iaload, 1) := by decide +kernel
theorem dL_law_374 : decode cL_law 374 = .ok (.invokevirtual 32, 3) := by decide +kernel
theorem dL_law_377 : decode cL_law 377 = .ok (.aload_n 2, 1) := by decide +kernel
theorem dL_law_378 : decode cL_law 378 = .ok (.aload_n 0, 1) := by decide +kernel
theorem dL_law_379 : decode cL_law 379 = .ok (.iload_n 3, 1) := by decide +kernel
theorem dL_law_380 : decode cL_law 380 = .ok (.iconst 1, 1) := by decide +kernel
theorem dL_law_381 : decode cL_law 381 = .ok (.iadd, 1) := by decide +kernel
theorem dL_law_382 : decode cL_law 382 = .ok (.iaload, 1) := by decide +kernel
theorem dL_law_383 : decode cL_law 383 = .ok (.aload_n 0, 1) := by decide +kernel
theorem dL_law_384 : decode cL_law 384 = .ok (.iload_n 3, 1) := by decide +kernel
theorem dL_law_385 : decode cL_law 385 = .ok (.iconst 2, 1) := by decide +kernel
theorem dL_law_386 : decode cL_law 386 = .ok (.iadd, 1) := by decide +kernel
theorem dL_law_387 : decode cL_law 387 = .ok (.iaload, 1) := by decide +kernel
theorem dL_law_388 : decode cL_law 388 = .ok (.aload_n 0, 1) := by decide +kernel
theorem dL_law_389 : decode cL_law 389 = .ok (.iload_n 3, 1) := by decide +kernel
theorem dL_law_390 : decode cL_law 390 = .ok (.iconst 3, 1) := by decide +kernel
theorem dL_law_391 : decode cL_law 391 = .ok (.iadd, 1) := by decide +kernel
theorem dL_law_392 : decode cL_law 392 = .ok (.iaload, 1) := by decide +kernel
theorem dL_law_393 : decode cL_law 393 = .ok (.aload_n 0, 1) := by decide +kernel
theorem dL_law_394 : decode cL_law 394 = .ok (.iload_n 3, 1) := by decide +kernel
theorem dL_law_395 : decode cL_law 395 = .ok (.iconst 4, 1) := by decide +kernel
theorem dL_law_396 : decode cL_law 396 = .ok (.iadd, 1) := by decide +kernel
theorem dL_law_397 : decode cL_law 397 = .ok (.iaload, 1) := by decide +kernel
theorem dL_law_398 : decode cL_law 398 = .ok (.aload_n 0, 1) := by decide +kernel
theorem dL_law_399 : decode cL_law 399 = .ok (.iload_n 3, 1) := by decide +kernel
theorem dL_law_400 : decode cL_law 400 = .ok (.iconst 5, 1) := by decide +kernel
theorem dL_law_401 : decode cL_law 401 = .ok (.iadd, 1) := by decide +kernel
theorem dL_law_402 : decode cL_law 402 = .ok (.iaload, 1) := by decide +kernel
theorem dL_law_403 : decode cL_law 403 = .ok (.invokevirtual 36, 3) := by decide +kernel
theorem dL_law_406 : decode cL_law 406 = .ok (.if_icmp .eq 929, 3) := by decide +kernel
theorem dL_law_409 : decode cL_law 409 = .ok (.iconst 0, 1) := by decide +kernel
theorem dL_law_410 : decode cL_law 410 = .ok (.ireturn, 1) := by decide +kernel
theorem dL_law_411 : decode cL_law 411 = .ok (.aload_n 1, 1) := by decide +kernel
theorem dL_law_412 : decode cL_law 412 = .ok (.aload_n 0, 1) := by decide +kernel
theorem dL_law_413 : decode cL_law 413 = .ok (.iload_n 3, 1) := by decide +kernel
theorem dL_law_414 : decode cL_law 414 = .ok (.iconst 1, 1) := by decide +kernel
theorem dL_law_415 : decode cL_law 415 = .ok (.iadd, 1) := by decide +kernel
theorem dL_law_416 : decode cL_law 416 = .ok (.iaload, 1) := by decide +kernel
theorem dL_law_417 : decode cL_law 417 = .ok (.invokevirtual 37, 3) := by decide +kernel
theorem dL_law_420 : decode cL_law 420 = .ok (.aload_n 2, 1) := by decide +kernel
theorem dL_law_421 : decode cL_law 421 = .ok (.aload_n 0, 1) := by decide +kernel
theorem dL_law_422 : decode cL_law 422 = .ok (.iload_n 3, 1) := by decide +kernel
theorem dL_law_423 : decode cL_law 423 = .ok (.iconst 1, 1) := by decide +kernel
theorem dL_law_424 : decode cL_law 424 = .ok (.iadd, 1) := by decide +kernel
theorem dL_law_425 : decode cL_law 425 = .ok (.iaload, 1) := by decide +kernel
theorem dL_law_426 : decode cL_law 426 = .ok (.invokevirtual 40, 3) := by decide +kernel
theorem dL_law_429 : decode cL_law 429 = .ok (.if_icmp .eq 906, 3) := by decide +kernel
theorem dL_law_432 : decode cL_law 432 = .ok (.iconst 0, 1) := by decide +kernel
theorem dL_law_433 : decode cL_law 433 = .ok (.ireturn, 1) := by decide +kernel
theorem dL_law_434 : decode cL_law 434 = .ok (.aload_n 1, 1) := by decide +kernel
theorem dL_law_435 : decode cL_law 435 = .ok (.aload_n 0, 1) := by decide +kernel
theorem dL_law_436 : decode cL_law 436 = .ok (.iload_n 3, 1) := by decide +kernel
theorem dL_law_437 : decode cL_law 437 = .ok (.iconst 1, 1) := by decide +kernel
theorem dL_law_438 : decode cL_law 438 = .ok (.iadd, 1) := by decide +kernel
theorem dL_law_439 : decode cL_law 439 = .ok (.iaload, 1) := by decide +kernel
theorem dL_law_440 : decode cL_law 440 = .ok (.aload_n 0, 1) := by decide +kernel
theorem dL_law_441 : decode cL_law 441 = .ok (.iload_n 3, 1) := by decide +kernel
theorem dL_law_442 : decode cL_law 442 = .ok (.iconst 2, 1) := by decide +kernel
theorem dL_law_443 : decode cL_law 443 = .ok (.iadd, 1) := by decide +kernel
theorem dL_law_444 : decode cL_law 444 = .ok (.iaload, 1) := by decide +kernel
theorem dL_law_445 : decode cL_law 445 = .ok (.invokevirtual 41, 3) := by decide +kernel
theorem dL_law_448 : decode cL_law 448 = .ok (.aload_n 2, 1) := by decide +kernel
theorem dL_law_449 : decode cL_law 449 = .ok (.aload_n 0, 1) := by decide +kernel
theorem dL_law_450 : decode cL_law 450 = .ok (.iload_n 3, 1) := by decide +kernel
theorem dL_law_451 : decode cL_law 451 = .ok (.iconst 1, 1) := by decide +kernel
theorem dL_law_452 : decode cL_law 452 = .ok (.iadd, 1) := by decide +kernel
theorem dL_law_453 : decode cL_law 453 = .ok (.iaload, 1) := by decide +kernel
theorem dL_law_454 : decode cL_law 454 = .ok (.aload_n 0, 1) := by decide +kernel
theorem dL_law_455 : decode cL_law 455 = .ok (.iload_n 3, 1) := by decide +kernel
theorem dL_law_456 : decode cL_law 456 = .ok (.iconst 2, 1) := by decide +kernel
theorem dL_law_457 : decode cL_law 457 = .ok (.iadd, 1) := by decide +kernel
theorem dL_law_458 : decode cL_law 458 = .ok (.iaload, 1) := by decide +kernel
theorem dL_law_459 : decode cL_law 459 = .ok (.invokevirtual 44, 3) := by decide +kernel
theorem dL_law_462 : decode cL_law 462 = .ok (.if_icmp .eq 873, 3) := by decide +kernel
theorem dL_law_465 : decode cL_law 465 = .ok (.iconst 0, 1) := by decide +kernel
theorem dL_law_466 : decode cL_law 466 = .ok (.ireturn, 1) := by decide +kernel
theorem dL_law_467 : decode cL_law 467 = .ok (.aload_n 1, 1) := by decide +kernel
theorem dL_law_468 : decode cL_law 468 = .ok (.aload_n 0, 1) := by decide +kernel
theorem dL_law_469 : decode cL_law 469 = .ok (.iload_n 3, 1) := by decide +kernel
theorem dL_law_470 : decode cL_law 470 = .ok (.iconst 1, 1) := by decide +kernel
theorem dL_law_471 : decode cL_law 471 = .ok (.iadd, 1) := by decide +kernel
theorem dL_law_472 : decode cL_law 472 = .ok (.iaload, 1) := by decide +kernel
theorem dL_law_473 : decode cL_law 473 = .ok (.aload_n 0, 1) := by decide +kernel
theorem dL_law_474 : decode cL_law 474 = .ok (.iload_n 3, 1) := by decide +kernel
theorem dL_law_475 : decode cL_law 475 = .ok (.iconst 2, 1) := by decide +kernel
theorem dL_law_476 : decode cL_law 476 = .ok (.iadd, 1) := by decide +kernel
theorem dL_law_477 : decode cL_law 477 = .ok (.iaload, 1) := by decide +kernel
theorem dL_law_478 : decode cL_law 478 = .ok (.aload_n 0, 1) := by decide +kernel
theorem dL_law_479 : decode cL_law 479 = .ok (.iload_n 3, 1) := by decide +kernel
theorem dL_law_480 : decode cL_law 480 = .ok (.iconst 3, 1) := by decide +kernel
theorem dL_law_481 : decode cL_law 481 = .ok (.iadd, 1) := by decide +kernel
theorem dL_law_482 : decode cL_law 482 = .ok (.iaload, 1) := by decide +kernel
theorem dL_law_483 : decode cL_law 483 = .ok (.invokevirtual 45, 3) := by decide +kernel
theorem dL_law_486 : decode cL_law 486 = .ok (.aload_n 2, 1) := by decide +kernel
theorem dL_law_487 : decode cL_law 487 = .ok (.aload_n 0, 1) := by decide +kernel
theorem dL_law_488 : decode cL_law 488 = .ok (.iload_n 3, 1) := by decide +kernel
theorem dL_law_489 : decode cL_law 489 = .ok (.iconst 1, 1) := by decide +kernel
theorem dL_law_490 : decode cL_law 490 = .ok (.iadd, 1) := by decide +kernel
theorem dL_law_491 : decode cL_law 491 = .ok (.iaload, 1) := by decide +kernel
theorem dL_law_492 : decode cL_law 492 = .ok (.aload_n 0, 1) := by decide +kernel
theorem dL_law_493 : decode cL_law 493 = .ok (.iload_n 3, 1) := by decide +kernel
theorem dL_law_494 : decode cL_law 494 = .ok (.iconst 2, 1) := by decide +kernel
theorem dL_law_495 : decode cL_law 495 = .ok (.iadd, 1) := by decide +kernel
theorem dL_law_496 : decode cL_law 496 = .ok (.iaload, 1) := by decide +kernel
theorem dL_law_497 : decode cL_law 497 = .ok (.aload_n 0, 1) := by decide +kernel
theorem dL_law_498 : decode cL_law 498 = .ok (.iload_n 3, 1) := by decide +kernel
theorem dL_law_499 : decode cL_law 499 = .ok (.iconst 3, 1) := by decide +kernel
theorem dL_law_500 : decode cL_law 500 = .ok (.iadd, 1) := by decide +kernel
theorem dL_law_501 : decode cL_law 501 = .ok (.iaload, 1) := by decide +kernel
theorem dL_law_502 : decode cL_law 502 = .ok (.invokevirtual 48, 3) := by decide +kernel
theorem dL_law_505 : decode cL_law 505 = .ok (.if_icmp .eq 830, 3) := by decide +kernel
theorem dL_law_508 : decode cL_law 508 = .ok (.iconst 0, 1) := by decide +kernel
theorem dL_law_509 : decode cL_law 509 = .ok (.ireturn, 1) := by decide +kernel
theorem dL_law_510 : decode cL_law 510 = .ok (.aload_n 1, 1) := by decide +kernel
theorem dL_law_511 : decode cL_law 511 = .ok (.aload_n 0, 1) := by decide +kernel
theorem dL_law_512 : decode cL_law 512 = .ok (.iload_n 3, 1) := by decide +kernel
theorem dL_law_513 : decode cL_law 513 = .ok (.iconst 1, 1) := by decide +kernel
theorem dL_law_514 : decode cL_law 514 = .ok (.iadd, 1) := by decide +kernel
theorem dL_law_515 : decode cL_law 515 = .ok (.iaload, 1) := by decide +kernel
theorem dL_law_516 : decode cL_law 516 = .ok (.invokevirtual 49, 3) := by decide +kernel
theorem dL_law_519 : decode cL_law 519 = .ok (.aload_n 2, 1) := by decide +kernel
theorem dL_law_520 : decode cL_law 520 = .ok (.aload_n 0, 1) := by decide +kernel
theorem dL_law_521 : decode cL_law 521 = .ok (.iload_n 3, 1) := by decide +kernel
theorem dL_law_522 : decode cL_law 522 = .ok (.iconst 1, 1) := by decide +kernel
theorem dL_law_523 : decode cL_law 523 = .ok (.iadd, 1) := by decide +kernel
theorem dL_law_524 : decode cL_law 524 = .ok (.iaload, 1) := by decide +kernel
theorem dL_law_525 : decode cL_law 525 = .ok (.invokevirtual 52, 3) := by decide +kernel
theorem dL_law_528 : decode cL_law 528 = .ok (.if_icmp .eq 807, 3) := by decide +kernel
theorem dL_law_531 : decode cL_law 531 = .ok (.iconst 0, 1) := by decide +kernel
theorem dL_law_532 : decode cL_law 532 = .ok (.ireturn, 1) := by decide +kernel
theorem dL_law_533 : decode cL_law 533 = .ok (.aload_n 1, 1) := by decide +kernel
theorem dL_law_534 : decode cL_law 534 = .ok (.aload_n 0, 1) := by decide +kernel
theorem dL_law_535 : decode cL_law 535 = .ok (.iload_n 3, 1) := by decide +kernel
theorem dL_law_536 : decode cL_law 536 = .ok (.iconst 1, 1) := by decide +kernel
theorem dL_law_537 : decode cL_law 537 = .ok (.iadd, 1) := by decide +kernel
theorem dL_law_538 : decode cL_law 538 = .ok (.iaload, 1) := by decide +kernel
theorem dL_law_539 : decode cL_law 539 = .ok (.invokevirtual 53, 3) := by decide +kernel
theorem dL_law_542 : decode cL_law 542 = .ok (.aload_n 2, 1) := by decide +kernel
theorem dL_law_543 : decode cL_law 543 = .ok (.aload_n 0, 1) := by decide +kernel
theorem dL_law_544 : decode cL_law 544 = .ok (.iload_n 3, 1) := by decide +kernel
theorem dL_law_545 : decode cL_law 545 = .ok (.iconst 1, 1) := by decide +kernel
theorem dL_law_546 : decode cL_law 546 = .ok (.iadd, 1) := by decide +kernel
theorem dL_law_547 : decode cL_law 547 = .ok (.iaload, 1) := by decide +kernel
theorem dL_law_548 : decode cL_law 548 = .ok (.invokevirtual 56, 3) := by decide +kernel
theorem dL_law_551 : decode cL_law 551 = .ok (.if_icmp .eq 784, 3) := by decide +kernel
theorem dL_law_554 : decode cL_law 554 = .ok (.iconst 0, 1) := by decide +kernel
theorem dL_law_555 : decode cL_law 555 = .ok (.ireturn, 1) := by decide +kernel
theorem dL_law_556 : decode cL_law 556 = .ok (.aload_n 1, 1) := by decide +kernel
theorem dL_law_557 : decode cL_law 557 = .ok (.aload_n 0, 1) := by decide +kernel
theorem dL_law_558 : decode cL_law 558 = .ok (.iload_n 3, 1) := by decide +kernel
theorem dL_law_559 : decode cL_law 559 = .ok (.iconst 1, 1) := by decide +kernel
theorem dL_law_560 : decode cL_law 560 = .ok (.iadd, 1) := by decide +kernel
theorem dL_law_561 : decode cL_law 561 = .ok (.iaload, 1) := by decide +kernel
theorem dL_law_562 : decode cL_law 562 = .ok (.aload_n 0, 1) := by decide +kernel
theorem dL_law_563 : decode cL_law 563 = .ok (.iload_n 3, 1) := by decide +kernel
theorem dL_law_564 : decode cL_law 564 = .ok (.iconst 2, 1) := by decide +kernel
theorem dL_law_565 : decode cL_law 565 = .ok (.iadd, 1) := by decide +kernel
theorem dL_law_566 : decode cL_law 566 = .ok (.iaload, 1) := by decide +kernel
theorem dL_law_567 : decode cL_law 567 = .ok (.invokevirtual 57, 3) := by decide +kernel
theorem dL_law_570 : decode cL_law 570 = .ok (.aload_n 2, 1) := by decide +kernel
theorem dL_law_571 : decode cL_law 571 = .ok (.aload_n 0, 1) := by decide +kernel
theorem dL_law_572 : decode cL_law 572 = .ok (.iload_n 3, 1) := by decide +kernel
theorem dL_law_573 : decode cL_law 573 = .ok (.iconst 1, 1) := by decide +kernel
theorem dL_law_574 : decode cL_law 574 = .ok (.iadd, 1) := by decide +kernel
theorem dL_law_575 : decode cL_law 575 = .ok (.iaload, 1) := by decide +kernel
theorem dL_law_576 : decode cL_law 576 = .ok (.aload_n 0, 1) := by decide +kernel
theorem dL_law_577 : decode cL_law 577 = .ok (.iload_n 3, 1) := by decide +kernel
theorem dL_law_578 : decode cL_law 578 = .ok (.iconst 2, 1) := by decide +kernel
theorem dL_law_579 : decode cL_law 579 = .ok (.iadd, 1) := by decide +kernel
theorem dL_law_580 : decode cL_law 580 = .ok (.iaload, 1) := by decide +kernel
theorem dL_law_581 : decode cL_law 581 = .ok (.invokevirtual 60, 3) := by decide +kernel
theorem dL_law_584 : decode cL_law 584 = .ok (.if_icmp .eq 751, 3) := by decide +kernel
theorem dL_law_587 : decode cL_law 587 = .ok (.iconst 0, 1) := by decide +kernel
theorem dL_law_588 : decode cL_law 588 = .ok (.ireturn, 1) := by decide +kernel
theorem dL_law_589 : decode cL_law 589 = .ok (.aload_n 1, 1) := by decide +kernel
theorem dL_law_590 : decode cL_law 590 = .ok (.aload_n 0, 1) := by decide +kernel
theorem dL_law_591 : decode cL_law 591 = .ok (.iload_n 3, 1) := by decide +kernel
theorem dL_law_592 : decode cL_law 592 = .ok (.iconst 1, 1) := by decide +kernel
theorem dL_law_593 : decode cL_law 593 = .ok (.iadd, 1) := by decide +kernel
theorem dL_law_594 : decode cL_law 594 = .ok (.iaload, 1) := by decide +kernel
theorem dL_law_595 : decode cL_law 595 = .ok (.aload_n 0, 1) := by decide +kernel
theorem dL_law_596 : decode cL_law 596 = .ok (.iload_n 3, 1) := by decide +kernel
theorem dL_law_597 : decode cL_law 597 = .ok (.iconst 2, 1) := by decide +kernel
theorem dL_law_598 : decode cL_law 598 = .ok (.iadd, 1) := by decide +kernel
theorem dL_law_599 : decode cL_law 599 = .ok (.iaload, 1) := by decide +kernel
theorem dL_law_600 : decode cL_law 600 = .ok (.invokevirtual 61, 3) := by decide +kernel
theorem dL_law_603 : decode cL_law 603 = .ok (.aload_n 2, 1) := by decide +kernel
theorem dL_law_604 : decode cL_law 604 = .ok (.aload_n 0, 1) := by decide +kernel
theorem dL_law_605 : decode cL_law 605 = .ok (.iload_n 3, 1) := by decide +kernel
theorem dL_law_606 : decode cL_law 606 = .ok (.iconst 1, 1) := by decide +kernel
theorem dL_law_607 : decode cL_law 607 = .ok (.iadd, 1) := by decide +kernel
theorem dL_law_608 : decode cL_law 608 = .ok (.iaload, 1) := by decide +kernel
theorem dL_law_609 : decode cL_law 609 = .ok (.aload_n 0, 1) := by decide +kernel
theorem dL_law_610 : decode cL_law 610 = .ok (.iload_n 3, 1) := by decide +kernel
theorem dL_law_611 : decode cL_law 611 = .ok (.iconst 2, 1) := by decide +kernel
theorem dL_law_612 : decode cL_law 612 = .ok (.iadd, 1) := by decide +kernel
theorem dL_law_613 : decode cL_law 613 = .ok (.iaload, 1) := by decide +kernel
theorem dL_law_614 : decode cL_law 614 = .ok (.invokevirtual 64, 3) := by decide +kernel
theorem dL_law_617 : decode cL_law 617 = .ok (.if_icmp .eq 718, 3) := by decide +kernel
theorem dL_law_620 : decode cL_law 620 = .ok (.iconst 0, 1) := by decide +kernel
theorem dL_law_621 : decode cL_law 621 = .ok (.ireturn, 1) := by decide +kernel
theorem dL_law_622 : decode cL_law 622 = .ok (.aload_n 1, 1) := by decide +kernel
theorem dL_law_623 : decode cL_law 623 = .ok (.aload_n 0, 1) := by decide +kernel
theorem dL_law_624 : decode cL_law 624 = .ok (.iload_n 3, 1) := by decide +kernel
theorem dL_law_625 : decode cL_law 625 = .ok (.iconst 1, 1) := by decide +kernel
theorem dL_law_626 : decode cL_law 626 = .ok (.iadd, 1) := by decide +kernel
theorem dL_law_627 : decode cL_law 627 = .ok (.iaload, 1) := by decide +kernel
theorem dL_law_628 : decode cL_law 628 = .ok (.aload_n 0, 1) := by decide +kernel
theorem dL_law_629 : decode cL_law 629 = .ok (.iload_n 3, 1) := by decide +kernel
theorem dL_law_630 : decode cL_law 630 = .ok (.iconst 2, 1) := by decide +kernel
theorem dL_law_631 : decode cL_law 631 = .ok (.iadd, 1) := by decide +kernel
theorem dL_law_632 : decode cL_law 632 = .ok (.iaload, 1) := by decide +kernel
theorem dL_law_633 : decode cL_law 633 = .ok (.invokevirtual 65, 3) := by decide +kernel
theorem dL_law_636 : decode cL_law 636 = .ok (.aload_n 2, 1) := by decide +kernel
theorem dL_law_637 : decode cL_law 637 = .ok (.aload_n 0, 1) := by decide +kernel
theorem dL_law_638 : decode cL_law 638 = .ok (.iload_n 3, 1) := by decide +kernel
theorem dL_law_639 : decode cL_law 639 = .ok (.iconst 1, 1) := by decide +kernel
theorem dL_law_640 : decode cL_law 640 = .ok (.iadd, 1) := by decide +kernel
theorem dL_law_641 : decode cL_law 641 = .ok (.iaload, 1) := by decide +kernel
theorem dL_law_642 : decode cL_law 642 = .ok (.aload_n 0, 1) := by decide +kernel
theorem dL_law_643 : decode cL_law 643 = .ok (.iload_n 3, 1) := by decide +kernel
theorem dL_law_644 : decode cL_law 644 = .ok (.iconst 2, 1) := by decide +kernel
theorem dL_law_645 : decode cL_law 645 = .ok (.iadd, 1) := by decide +kernel
theorem dL_law_646 : decode cL_law 646 = .ok (.iaload, 1) := by decide +kernel
theorem dL_law_647 : decode cL_law 647 = .ok (.invokevirtual 68, 3) := by decide +kernel
theorem dL_law_650 : decode cL_law 650 = .ok (.if_icmp .eq 685, 3) := by decide +kernel
theorem dL_law_653 : decode cL_law 653 = .ok (.iconst 0, 1) := by decide +kernel
theorem dL_law_654 : decode cL_law 654 = .ok (.ireturn, 1) := by decide +kernel
theorem dL_law_655 : decode cL_law 655 = .ok (.aload_n 1, 1) := by decide +kernel
theorem dL_law_656 : decode cL_law 656 = .ok (.aload_n 0, 1) := by decide +kernel
theorem dL_law_657 : decode cL_law 657 = .ok (.iload_n 3, 1) := by decide +kernel
theorem dL_law_658 : decode cL_law 658 = .ok (.iconst 1, 1) := by decide +kernel
theorem dL_law_659 : decode cL_law 659 = .ok (.iadd, 1) := by decide +kernel
theorem dL_law_660 : decode cL_law 660 = .ok (.iaload, 1) := by decide +kernel
theorem dL_law_661 : decode cL_law 661 = .ok (.aload_n 0, 1) := by decide +kernel
theorem dL_law_662 : decode cL_law 662 = .ok (.iload_n 3, 1) := by decide +kernel
theorem dL_law_663 : decode cL_law 663 = .ok (.iconst 2, 1) := by decide +kernel
theorem dL_law_664 : decode cL_law 664 = .ok (.iadd, 1) := by decide +kernel
theorem dL_law_665 : decode cL_law 665 = .ok (.iaload, 1) := by decide +kernel
theorem dL_law_666 : decode cL_law 666 = .ok (.invokevirtual 69, 3) := by decide +kernel
theorem dL_law_669 : decode cL_law 669 = .ok (.aload_n 2, 1) := by decide +kernel
theorem dL_law_670 : decode cL_law 670 = .ok (.aload_n 0, 1) := by decide +kernel
theorem dL_law_671 : decode cL_law 671 = .ok (.iload_n 3, 1) := by decide +kernel
theorem dL_law_672 : decode cL_law 672 = .ok (.iconst 1, 1) := by decide +kernel
theorem dL_law_673 : decode cL_law 673 = .ok (.iadd, 1) := by decide +kernel
theorem dL_law_674 : decode cL_law 674 = .ok (.iaload, 1) := by decide +kernel
theorem dL_law_675 : decode cL_law 675 = .ok (.aload_n 0, 1) := by decide +kernel
theorem dL_law_676 : decode cL_law 676 = .ok (.iload_n 3, 1) := by decide +kernel
theorem dL_law_677 : decode cL_law 677 = .ok (.iconst 2, 1) := by decide +kernel
theorem dL_law_678 : decode cL_law 678 = .ok (.iadd, 1) := by decide +kernel
theorem dL_law_679 : decode cL_law 679 = .ok (.iaload, 1) := by decide +kernel
theorem dL_law_680 : decode cL_law 680 = .ok (.invokevirtual 72, 3) := by decide +kernel
theorem dL_law_683 : decode cL_law 683 = .ok (.if_icmp .eq 652, 3) := by decide +kernel
theorem dL_law_686 : decode cL_law 686 = .ok (.iconst 0, 1) := by decide +kernel
theorem dL_law_687 : decode cL_law 687 = .ok (.ireturn, 1) := by decide +kernel
theorem dL_law_688 : decode cL_law 688 = .ok (.aload_n 1, 1) := by decide +kernel
theorem dL_law_689 : decode cL_law 689 = .ok (.aload_n 0, 1) := by decide +kernel
theorem dL_law_690 : decode cL_law 690 = .ok (.iload_n 3, 1) := by decide +kernel
theorem dL_law_691 : decode cL_law 691 = .ok (.iconst 1, 1) := by decide +kernel
theorem dL_law_692 : decode cL_law 692 = .ok (.iadd, 1) := by decide +kernel
theorem dL_law_693 : decode cL_law 693 = .ok (.iaload, 1) := by decide +kernel
theorem dL_law_694 : decode cL_law 694 = .ok (.aload_n 0, 1) := by decide +kernel
theorem dL_law_695 : decode cL_law 695 = .ok (.iload_n 3, 1) := by decide +kernel
theorem dL_law_696 : decode cL_law 696 = .ok (.iconst 2, 1) := by decide +kernel
theorem dL_law_697 : decode cL_law 697 = .ok (.iadd, 1) := by decide +kernel
theorem dL_law_698 : decode cL_law 698 = .ok (.iaload, 1) := by decide +kernel
theorem dL_law_699 : decode cL_law 699 = .ok (.invokevirtual 73, 3) := by decide +kernel
theorem dL_law_702 : decode cL_law 702 = .ok (.aload_n 2, 1) := by decide +kernel
theorem dL_law_703 : decode cL_law 703 = .ok (.aload_n 0, 1) := by decide +kernel
theorem dL_law_704 : decode cL_law 704 = .ok (.iload_n 3, 1) := by decide +kernel
theorem dL_law_705 : decode cL_law 705 = .ok (.iconst 1, 1) := by decide +kernel
theorem dL_law_706 : decode cL_law 706 = .ok (.iadd, 1) := by decide +kernel
theorem dL_law_707 : decode cL_law 707 = .ok (.iaload, 1) := by decide +kernel
theorem dL_law_708 : decode cL_law 708 = .ok (.aload_n 0, 1) := by decide +kernel
theorem dL_law_709 : decode cL_law 709 = .ok (.iload_n 3, 1) := by decide +kernel
theorem dL_law_710 : decode cL_law 710 = .ok (.iconst 2, 1) := by decide +kernel
theorem dL_law_711 : decode cL_law 711 = .ok (.iadd, 1) := by decide +kernel
theorem dL_law_712 : decode cL_law 712 = .ok (.iaload, 1) := by decide +kernel
theorem dL_law_713 : decode cL_law 713 = .ok (.invokevirtual 76, 3) := by decide +kernel
theorem dL_law_716 : decode cL_law 716 = .ok (.if_icmp .eq 619, 3) := by decide +kernel
theorem dL_law_719 : decode cL_law 719 = .ok (.iconst 0, 1) := by decide +kernel
theorem dL_law_720 : decode cL_law 720 = .ok (.ireturn, 1) := by decide +kernel
theorem dL_law_721 : decode cL_law 721 = .ok (.aload_n 1, 1) := by decide +kernel
theorem dL_law_722 : decode cL_law 722 = .ok (.aload_n 0, 1) := by decide +kernel
theorem dL_law_723 : decode cL_law 723 = .ok (.iload_n 3, 1) := by decide +kernel
theorem dL_law_724 : decode cL_law 724 = .ok (.iconst 1, 1) := by decide +kernel
theorem dL_law_725 : decode cL_law 725 = .ok (.iadd, 1) := by decide +kernel
theorem dL_law_726 : decode cL_law 726 = .ok (.iaload, 1) := by decide +kernel
theorem dL_law_727 : decode cL_law 727 = .ok (.invokevirtual 77, 3) := by decide +kernel
theorem dL_law_730 : decode cL_law 730 = .ok (.aload_n 2, 1) := by decide +kernel
theorem dL_law_731 : decode cL_law 731 = .ok (.aload_n 0, 1) := by decide +kernel
theorem dL_law_732 : decode cL_law 732 = .ok (.iload_n 3, 1) := by decide +kernel
theorem dL_law_733 : decode cL_law 733 = .ok (.iconst 1, 1) := by decide +kernel
theorem dL_law_734 : decode cL_law 734 = .ok (.iadd, 1) := by decide +kernel
theorem dL_law_735 : decode cL_law 735 = .ok (.iaload, 1) := by decide +kernel
theorem dL_law_736 : decode cL_law 736 = .ok (.invokevirtual 80, 3) := by decide +kernel
theorem dL_law_739 : decode cL_law 739 = .ok (.if_icmp .eq 596, 3) := by decide +kernel
theorem dL_law_742 : decode cL_law 742 = .ok (.iconst 0, 1) := by decide +kernel
theorem dL_law_743 : decode cL_law 743 = .ok (.ireturn, 1) := by decide +kernel
theorem dL_law_744 : decode cL_law 744 = .ok (.aload_n 1, 1) := by decide +kernel
theorem dL_law_745 : decode cL_law 745 = .ok (.aload_n 0, 1) := by decide +kernel
theorem dL_law_746 : decode cL_law 746 = .ok (.iload_n 3, 1) := by decide +kernel
theorem dL_law_747 : decode cL_law 747 = .ok (.iconst 1, 1) := by decide +kernel
theorem dL_law_748 : decode cL_law 748 = .ok (.iadd, 1) := by decide +kernel
theorem dL_law_749 : decode cL_law 749 = .ok (.iaload, 1) := by decide +kernel
theorem dL_law_750 : decode cL_law 750 = .ok (.invokevirtual 81, 3) := by decide +kernel
theorem dL_law_753 : decode cL_law 753 = .ok (.aload_n 2, 1) := by decide +kernel
theorem dL_law_754 : decode cL_law 754 = .ok (.aload_n 0, 1) := by decide +kernel
theorem dL_law_755 : decode cL_law 755 = .ok (.iload_n 3, 1) := by decide +kernel
theorem dL_law_756 : decode cL_law 756 = .ok (.iconst 1, 1) := by decide +kernel
theorem dL_law_757 : decode cL_law 757 = .ok (.iadd, 1) := by decide +kernel
theorem dL_law_758 : decode cL_law 758 = .ok (.iaload, 1) := by decide +kernel
theorem dL_law_759 : decode cL_law 759 = .ok (.invokevirtual 84, 3) := by decide +kernel
theorem dL_law_762 : decode cL_law 762 = .ok (.if_icmp .eq 573, 3) := by decide +kernel
theorem dL_law_765 : decode cL_law 765 = .ok (.iconst 0, 1) := by decide +kernel
theorem dL_law_766 : decode cL_law 766 = .ok (.ireturn, 1) := by decide +kernel
theorem dL_law_767 : decode cL_law 767 = .ok (.aload_n 1, 1) := by decide +kernel
theorem dL_law_768 : decode cL_law 768 = .ok (.aload_n 0, 1) := by decide +kernel
theorem dL_law_769 : decode cL_law 769 = .ok (.iload_n 3, 1) := by decide +kernel
theorem dL_law_770 : decode cL_law 770 = .ok (.iconst 1, 1) := by decide +kernel
theorem dL_law_771 : decode cL_law 771 = .ok (.iadd, 1) := by decide +kernel
theorem dL_law_772 : decode cL_law 772 = .ok (.iaload, 1) := by decide +kernel
theorem dL_law_773 : decode cL_law 773 = .ok (.invokevirtual 85, 3) := by decide +kernel
theorem dL_law_776 : decode cL_law 776 = .ok (.aload_n 2, 1) := by decide +kernel
theorem dL_law_777 : decode cL_law 777 = .ok (.aload_n 0, 1) := by decide +kernel
theorem dL_law_778 : decode cL_law 778 = .ok (.iload_n 3, 1) := by decide +kernel
theorem dL_law_779 : decode cL_law 779 = .ok (.iconst 1, 1) := by decide +kernel
theorem dL_law_780 : decode cL_law 780 = .ok (.iadd, 1) := by decide +kernel
theorem dL_law_781 : decode cL_law 781 = .ok (.iaload, 1) := by decide +kernel
theorem dL_law_782 : decode cL_law 782 = .ok (.invokevirtual 88, 3) := by decide +kernel
theorem dL_law_785 : decode cL_law 785 = .ok (.if_icmp .eq 550, 3) := by decide +kernel
theorem dL_law_788 : decode cL_law 788 = .ok (.iconst 0, 1) := by decide +kernel
theorem dL_law_789 : decode cL_law 789 = .ok (.ireturn, 1) := by decide +kernel
theorem dL_law_790 : decode cL_law 790 = .ok (.aload_n 1, 1) := by decide +kernel
theorem dL_law_791 : decode cL_law 791 = .ok (.aload_n 0, 1) := by decide +kernel
theorem dL_law_792 : decode cL_law 792 = .ok (.iload_n 3, 1) := by decide +kernel
theorem dL_law_793 : decode cL_law 793 = .ok (.iconst 1, 1) := by decide +kernel
theorem dL_law_794 : decode cL_law 794 = .ok (.iadd, 1) := by decide +kernel
theorem dL_law_795 : decode cL_law 795 = .ok (.iaload, 1) := by decide +kernel
theorem dL_law_796 : decode cL_law 796 = .ok (.invokevirtual 89, 3) := by decide +kernel
theorem dL_law_799 : decode cL_law 799 = .ok (.aload_n 2, 1) := by decide +kernel
theorem dL_law_800 : decode cL_law 800 = .ok (.aload_n 0, 1) := by decide +kernel
theorem dL_law_801 : decode cL_law 801 = .ok (.iload_n 3, 1) := by decide +kernel
theorem dL_law_802 : decode cL_law 802 = .ok (.iconst 1, 1) := by decide +kernel
theorem dL_law_803 : decode cL_law 803 = .ok (.iadd, 1) := by decide +kernel
theorem dL_law_804 : decode cL_law 804 = .ok (.iaload, 1) := by decide +kernel
theorem dL_law_805 : decode cL_law 805 = .ok (.invokevirtual 92, 3) := by decide +kernel
theorem dL_law_808 : decode cL_law 808 = .ok (.if_icmp .eq 527, 3) := by decide +kernel
theorem dL_law_811 : decode cL_law 811 = .ok (.iconst 0, 1) := by decide +kernel
theorem dL_law_812 : decode cL_law 812 = .ok (.ireturn, 1) := by decide +kernel
theorem dL_law_813 : decode cL_law 813 = .ok (.aload_n 1, 1) := by decide +kernel
theorem dL_law_814 : decode cL_law 814 = .ok (.invokevirtual 93, 3) := by decide +kernel
theorem dL_law_817 : decode cL_law 817 = .ok (.aload_n 2, 1) := by decide +kernel
theorem dL_law_818 : decode cL_law 818 = .ok (.invokevirtual 97, 3) := by decide +kernel
theorem dL_law_821 : decode cL_law 821 = .ok (.if_icmp .eq 514, 3) := by decide +kernel
theorem dL_law_824 : decode cL_law 824 = .ok (.iconst 0, 1) := by decide +kernel
theorem dL_law_825 : decode cL_law 825 = .ok (.ireturn, 1) := by decide +kernel
theorem dL_law_826 : decode cL_law 826 = .ok (.aload_n 1, 1) := by decide +kernel
theorem dL_law_827 : decode cL_law 827 = .ok (.invokevirtual 98, 3) := by decide +kernel
theorem dL_law_830 : decode cL_law 830 = .ok (.aload_n 2, 1) := by decide +kernel
theorem dL_law_831 : decode cL_law 831 = .ok (.invokevirtual 101, 3) := by decide +kernel
theorem dL_law_834 : decode cL_law 834 = .ok (.if_icmp .eq 501, 3) := by decide +kernel
theorem dL_law_837 : decode cL_law 837 = .ok (.iconst 0, 1) := by decide +kernel
theorem dL_law_838 : decode cL_law 838 = .ok (.ireturn, 1) := by decide +kernel
theorem dL_law_839 : decode cL_law 839 = .ok (.aload_n 1, 1) := by decide +kernel
theorem dL_law_840 : decode cL_law 840 = .ok (.aload_n 0, 1) := by decide +kernel
theorem dL_law_841 : decode cL_law 841 = .ok (.iload_n 3, 1) := by decide +kernel
theorem dL_law_842 : decode cL_law 842 = .ok (.iconst 1, 1) := by decide +kernel
theorem dL_law_843 : decode cL_law 843 = .ok (.iadd, 1) := by decide +kernel
theorem dL_law_844 : decode cL_law 844 = .ok (.iaload, 1) := by decide +kernel
theorem dL_law_845 : decode cL_law 845 = .ok (.invokevirtual 102, 3) := by decide +kernel
theorem dL_law_848 : decode cL_law 848 = .ok (.aload_n 2, 1) := by decide +kernel
theorem dL_law_849 : decode cL_law 849 = .ok (.aload_n 0, 1) := by decide +kernel
theorem dL_law_850 : decode cL_law 850 = .ok (.iload_n 3, 1) := by decide +kernel
theorem dL_law_851 : decode cL_law 851 = .ok (.iconst 1, 1) := by decide +kernel
theorem dL_law_852 : decode cL_law 852 = .ok (.iadd, 1) := by decide +kernel
theorem dL_law_853 : decode cL_law 853 = .ok (.iaload, 1) := by decide +kernel
theorem dL_law_854 : decode cL_law 854 = .ok (.invokevirtual 105, 3) := by decide +kernel
theorem dL_law_857 : decode cL_law 857 = .ok (.if_icmp .eq 478, 3) := by decide +kernel
theorem dL_law_860 : decode cL_law 860 = .ok (.iconst 0, 1) := by decide +kernel
theorem dL_law_861 : decode cL_law 861 = .ok (.ireturn, 1) := by decide +kernel
theorem dL_law_862 : decode cL_law 862 = .ok (.aload_n 1, 1) := by decide +kernel
theorem dL_law_863 : decode cL_law 863 = .ok (.aload_n 0, 1) := by decide +kernel
theorem dL_law_864 : decode cL_law 864 = .ok (.iload_n 3, 1) := by decide +kernel
theorem dL_law_865 : decode cL_law 865 = .ok (.iconst 1, 1) := by decide +kernel
theorem dL_law_866 : decode cL_law 866 = .ok (.iadd, 1) := by decide +kernel
theorem dL_law_867 : decode cL_law 867 = .ok (.iaload, 1) := by decide +kernel
theorem dL_law_868 : decode cL_law 868 = .ok (.invokevirtual 106, 3) := by decide +kernel
theorem dL_law_871 : decode cL_law 871 = .ok (.aload_n 2, 1) := by decide +kernel
theorem dL_law_872 : decode cL_law 872 = .ok (.aload_n 0, 1) := by decide +kernel
theorem dL_law_873 : decode cL_law 873 = .ok (.iload_n 3, 1) := by decide +kernel
theorem dL_law_874 : decode cL_law 874 = .ok (.iconst 1, 1) := by decide +kernel
theorem dL_law_875 : decode cL_law 875 = .ok (.iadd, 1) := by decide +kernel
theorem dL_law_876 : decode cL_law 876 = .ok (.iaload, 1) := by decide +kernel
theorem dL_law_877 : decode cL_law 877 = .ok (.invokevirtual 109, 3) := by decide +kernel
theorem dL_law_880 : decode cL_law 880 = .ok (.if_icmp .eq 455, 3) := by decide +kernel
theorem dL_law_883 : decode cL_law 883 = .ok (.iconst 0, 1) := by decide +kernel
theorem dL_law_884 : decode cL_law 884 = .ok (.ireturn, 1) := by decide +kernel
theorem dL_law_885 : decode cL_law 885 = .ok (.aload_n 1, 1) := by decide +kernel
theorem dL_law_886 : decode cL_law 886 = .ok (.aload_n 0, 1) := by decide +kernel
theorem dL_law_887 : decode cL_law 887 = .ok (.iload_n 3, 1) := by decide +kernel
theorem dL_law_888 : decode cL_law 888 = .ok (.iconst 1, 1) := by decide +kernel
theorem dL_law_889 : decode cL_law 889 = .ok (.iadd, 1) := by decide +kernel
theorem dL_law_890 : decode cL_law 890 = .ok (.iaload, 1) := by decide +kernel
theorem dL_law_891 : decode cL_law 891 = .ok (.invokevirtual 110, 3) := by decide +kernel
theorem dL_law_894 : decode cL_law 894 = .ok (.aload_n 2, 1) := by decide +kernel
theorem dL_law_895 : decode cL_law 895 = .ok (.aload_n 0, 1) := by decide +kernel
theorem dL_law_896 : decode cL_law 896 = .ok (.iload_n 3, 1) := by decide +kernel
theorem dL_law_897 : decode cL_law 897 = .ok (.iconst 1, 1) := by decide +kernel
theorem dL_law_898 : decode cL_law 898 = .ok (.iadd, 1) := by decide +kernel
theorem dL_law_899 : decode cL_law 899 = .ok (.iaload, 1) := by decide +kernel
theorem dL_law_900 : decode cL_law 900 = .ok (.invokevirtual 113, 3) := by decide +kernel
theorem dL_law_903 : decode cL_law 903 = .ok (.if_icmp .eq 432, 3) := by decide +kernel
theorem dL_law_906 : decode cL_law 906 = .ok (.iconst 0, 1) := by decide +kernel
theorem dL_law_907 : decode cL_law 907 = .ok (.ireturn, 1) := by decide +kernel
theorem dL_law_908 : decode cL_law 908 = .ok (.aload_n 1, 1) := by decide +kernel
theorem dL_law_909 : decode cL_law 909 = .ok (.aload_n 0, 1) := by decide +kernel
theorem dL_law_910 : decode cL_law 910 = .ok (.iload_n 3, 1) := by decide +kernel
theorem dL_law_911 : decode cL_law 911 = .ok (.iconst 1, 1) := by decide +kernel
theorem dL_law_912 : decode cL_law 912 = .ok (.iadd, 1) := by decide +kernel
theorem dL_law_913 : decode cL_law 913 = .ok (.iaload, 1) := by decide +kernel
theorem dL_law_914 : decode cL_law 914 = .ok (.invokevirtual 114, 3) := by decide +kernel
theorem dL_law_917 : decode cL_law 917 = .ok (.aload_n 2, 1) := by decide +kernel
theorem dL_law_918 : decode cL_law 918 = .ok (.aload_n 0, 1) := by decide +kernel
theorem dL_law_919 : decode cL_law 919 = .ok (.iload_n 3, 1) := by decide +kernel
theorem dL_law_920 : decode cL_law 920 = .ok (.iconst 1, 1) := by decide +kernel
theorem dL_law_921 : decode cL_law 921 = .ok (.iadd, 1) := by decide +kernel
theorem dL_law_922 : decode cL_law 922 = .ok (.iaload, 1) := by decide +kernel
theorem dL_law_923 : decode cL_law 923 = .ok (.invokevirtual 117, 3) := by decide +kernel
theorem dL_law_926 : decode cL_law 926 = .ok (.if_icmp .eq 409, 3) := by decide +kernel
theorem dL_law_929 : decode cL_law 929 = .ok (.iconst 0, 1) := by decide +kernel
theorem dL_law_930 : decode cL_law 930 = .ok (.ireturn, 1) := by decide +kernel
theorem dL_law_931 : decode cL_law 931 = .ok (.aload_n 1, 1) := by decide +kernel
theorem dL_law_932 : decode cL_law 932 = .ok (.invokevirtual 118, 3) := by decide +kernel
theorem dL_law_935 : decode cL_law 935 = .ok (.aload_n 2, 1) := by decide +kernel
theorem dL_law_936 : decode cL_law 936 = .ok (.invokevirtual 121, 3) := by decide +kernel
theorem dL_law_939 : decode cL_law 939 = .ok (.if_icmp .eq 396, 3) := by decide +kernel
theorem dL_law_942 : decode cL_law 942 = .ok (.iconst 0, 1) := by decide +kernel
theorem dL_law_943 : decode cL_law 943 = .ok (.ireturn, 1) := by decide +kernel
theorem dL_law_944 : decode cL_law 944 = .ok (.aload_n 1, 1) := by decide +kernel
theorem dL_law_945 : decode cL_law 945 = .ok (.aload_n 0, 1) := by decide +kernel
theorem dL_law_946 : decode cL_law 946 = .ok (.iload_n 3, 1) := by decide +kernel
theorem dL_law_947 : decode cL_law 947 = .ok (.iconst 1, 1) := by decide +kernel
theorem dL_law_948 : decode cL_law 948 = .ok (.iadd, 1) := by decide +kernel
theorem dL_law_949 : decode cL_law 949 = .ok (.iaload, 1) := by decide +kernel
theorem dL_law_950 : decode cL_law 950 = .ok (.aload_n 0, 1) := by decide +kernel
theorem dL_law_951 : decode cL_law 951 = .ok (.iload_n 3, 1) := by decide +kernel
theorem dL_law_952 : decode cL_law 952 = .ok (.iconst 2, 1) := by decide +kernel
theorem dL_law_953 : decode cL_law 953 = .ok (.iadd, 1) := by decide +kernel
theorem dL_law_954 : decode cL_law 954 = .ok (.iaload, 1) := by decide +kernel
theorem dL_law_955 : decode cL_law 955 = .ok (.invokevirtual 122, 3) := by decide +kernel
theorem dL_law_958 : decode cL_law 958 = .ok (.aload_n 2, 1) := by decide +kernel
theorem dL_law_959 : decode cL_law 959 = .ok (.aload_n 0, 1) := by decide +kernel
theorem dL_law_960 : decode cL_law 960 = .ok (.iload_n 3, 1) := by decide +kernel
theorem dL_law_961 : decode cL_law 961 = .ok (.iconst 1, 1) := by decide +kernel
theorem dL_law_962 : decode cL_law 962 = .ok (.iadd, 1) := by decide +kernel
theorem dL_law_963 : decode cL_law 963 = .ok (.iaload, 1) := by decide +kernel
theorem dL_law_964 : decode cL_law 964 = .ok (.aload_n 0, 1) := by decide +kernel
theorem dL_law_965 : decode cL_law 965 = .ok (.iload_n 3, 1) := by decide +kernel
theorem dL_law_966 : decode cL_law 966 = .ok (.iconst 2, 1) := by decide +kernel
theorem dL_law_967 : decode cL_law 967 = .ok (.iadd, 1) := by decide +kernel
theorem dL_law_968 : decode cL_law 968 = .ok (.iaload, 1) := by decide +kernel
theorem dL_law_969 : decode cL_law 969 = .ok (.invokevirtual 125, 3) := by decide +kernel
theorem dL_law_972 : decode cL_law 972 = .ok (.if_icmp .eq 363, 3) := by decide +kernel
theorem dL_law_975 : decode cL_law 975 = .ok (.iconst 0, 1) := by decide +kernel
theorem dL_law_976 : decode cL_law 976 = .ok (.ireturn, 1) := by decide +kernel
theorem dL_law_977 : decode cL_law 977 = .ok (.aload_n 1, 1) := by decide +kernel
theorem dL_law_978 : decode cL_law 978 = .ok (.aload_n 0, 1) := by decide +kernel
theorem dL_law_979 : decode cL_law 979 = .ok (.iload_n 3, 1) := by decide +kernel
theorem dL_law_980 : decode cL_law 980 = .ok (.iconst 1, 1) := by decide +kernel
theorem dL_law_981 : decode cL_law 981 = .ok (.iadd, 1) := by decide +kernel
theorem dL_law_982 : decode cL_law 982 = .ok (.iaload, 1) := by decide +kernel
theorem dL_law_983 : decode cL_law 983 = .ok (.aload_n 0, 1) := by decide +kernel
theorem dL_law_984 : decode cL_law 984 = .ok (.iload_n 3, 1) := by decide +kernel
theorem dL_law_985 : decode cL_law 985 = .ok (.iconst 2, 1) := by decide +kernel
theorem dL_law_986 : decode cL_law 986 = .ok (.iadd, 1) := by decide +kernel
theorem dL_law_987 : decode cL_law 987 = .ok (.iaload, 1) := by decide +kernel
theorem dL_law_988 : decode cL_law 988 = .ok (.invokevirtual 126, 3) := by decide +kernel
theorem dL_law_991 : decode cL_law 991 = .ok (.aload_n 2, 1) := by decide +kernel
theorem dL_law_992 : decode cL_law 992 = .ok (.aload_n 0, 1) := by decide +kernel
theorem dL_law_993 : decode cL_law 993 = .ok (.iload_n 3, 1) := by decide +kernel
theorem dL_law_994 : decode cL_law 994 = .ok (.iconst 1, 1) := by decide +kernel
theorem dL_law_995 : decode cL_law 995 = .ok (.iadd, 1) := by decide +kernel
theorem dL_law_996 : decode cL_law 996 = .ok (.iaload, 1) := by decide +kernel
theorem dL_law_997 : decode cL_law 997 = .ok (.aload_n 0, 1) := by decide +kernel
theorem dL_law_998 : decode cL_law 998 = .ok (.iload_n 3, 1) := by decide +kernel
theorem dL_law_999 : decode cL_law 999 = .ok (.iconst 2, 1) := by decide +kernel
theorem dL_law_1000 : decode cL_law 1000 = .ok (.iadd, 1) := by decide +kernel
theorem dL_law_1001 : decode cL_law 1001 = .ok (.iaload, 1) := by decide +kernel
theorem dL_law_1002 : decode cL_law 1002 = .ok (.invokevirtual 129, 3) := by decide +kernel
theorem dL_law_1005 : decode cL_law 1005 = .ok (.if_icmp .eq 330, 3) := by decide +kernel
theorem dL_law_1008 : decode cL_law 1008 = .ok (.iconst 0, 1) := by decide +kernel
theorem dL_law_1009 : decode cL_law 1009 = .ok (.ireturn, 1) := by decide +kernel
theorem dL_law_1010 : decode cL_law 1010 = .ok (.aload_n 1, 1) := by decide +kernel
theorem dL_law_1011 : decode cL_law 1011 = .ok (.aload_n 0, 1) := by decide +kernel
theorem dL_law_1012 : decode cL_law 1012 = .ok (.iload_n 3, 1) := by decide +kernel
theorem dL_law_1013 : decode cL_law 1013 = .ok (.iconst 1, 1) := by decide +kernel
theorem dL_law_1014 : decode cL_law 1014 = .ok (.iadd, 1) := by decide +kernel
theorem dL_law_1015 : decode cL_law 1015 = .ok (.iaload, 1) := by decide +kernel
theorem dL_law_1016 : decode cL_law 1016 = .ok (.aload_n 0, 1) := by decide +kernel
theorem dL_law_1017 : decode cL_law 1017 = .ok (.iload_n 3, 1) := by decide +kernel
theorem dL_law_1018 : decode cL_law 1018 = .ok (.iconst 2, 1) := by decide +kernel
theorem dL_law_1019 : decode cL_law 1019 = .ok (.iadd, 1) := by decide +kernel
theorem dL_law_1020 : decode cL_law 1020 = .ok (.iaload, 1) := by decide +kernel
theorem dL_law_1021 : decode cL_law 1021 = .ok (.invokevirtual 130, 3) := by decide +kernel
theorem dL_law_1024 : decode cL_law 1024 = .ok (.aload_n 2, 1) := by decide +kernel
theorem dL_law_1025 : decode cL_law 1025 = .ok (.aload_n 0, 1) := by decide +kernel
theorem dL_law_1026 : decode cL_law 1026 = .ok (.iload_n 3, 1) := by decide +kernel
theorem dL_law_1027 : decode cL_law 1027 = .ok (.iconst 1, 1) := by decide +kernel
theorem dL_law_1028 : decode cL_law 1028 = .ok (.iadd, 1) := by decide +kernel
theorem dL_law_1029 : decode cL_law 1029 = .ok (.iaload, 1) := by decide +kernel
theorem dL_law_1030 : decode cL_law 1030 = .ok (.aload_n 0, 1) := by decide +kernel
theorem dL_law_1031 : decode cL_law 1031 = .ok (.iload_n 3, 1) := by decide +kernel
theorem dL_law_1032 : decode cL_law 1032 = .ok (.iconst 2, 1) := by decide +kernel
theorem dL_law_1033 : decode cL_law 1033 = .ok (.iadd, 1) := by decide +kernel
theorem dL_law_1034 : decode cL_law 1034 = .ok (.iaload, 1) := by decide +kernel
theorem dL_law_1035 : decode cL_law 1035 = .ok (.invokevirtual 133, 3) := by decide +kernel
theorem dL_law_1038 : decode cL_law 1038 = .ok (.if_icmp .eq 297, 3) := by decide +kernel
theorem dL_law_1041 : decode cL_law 1041 = .ok (.iconst 0, 1) := by decide +kernel
theorem dL_law_1042 : decode cL_law 1042 = .ok (.ireturn, 1) := by decide +kernel
theorem dL_law_1043 : decode cL_law 1043 = .ok (.aload_n 1, 1) := by decide +kernel
theorem dL_law_1044 : decode cL_law 1044 = .ok (.aload_n 0, 1) := by decide +kernel
theorem dL_law_1045 : decode cL_law 1045 = .ok (.iload_n 3, 1) := by decide +kernel
theorem dL_law_1046 : decode cL_law 1046 = .ok (.iconst 1, 1) := by decide +kernel
theorem dL_law_1047 : decode cL_law 1047 = .ok (.iadd, 1) := by decide +kernel
theorem dL_law_1048 : decode cL_law 1048 = .ok (.iaload, 1) := by decide +kernel
theorem dL_law_1049 : decode cL_law 1049 = .ok (.invokevirtual 134, 3) := by decide +kernel
theorem dL_law_1052 : decode cL_law 1052 = .ok (.aload_n 2, 1) := by decide +kernel
theorem dL_law_1053 : decode cL_law 1053 = .ok (.aload_n 0, 1) := by decide +kernel
theorem dL_law_1054 : decode cL_law 1054 = .ok (.iload_n 3, 1) := by decide +kernel
theorem dL_law_1055 : decode cL_law 1055 = .ok (.iconst 1, 1) := by decide +kernel
theorem dL_law_1056 : decode cL_law 1056 = .ok (.iadd, 1) := by decide +kernel
theorem dL_law_1057 : decode cL_law 1057 = .ok (.iaload, 1) := by decide +kernel
theorem dL_law_1058 : decode cL_law 1058 = .ok (.invokevirtual 137, 3) := by decide +kernel
theorem dL_law_1061 : decode cL_law 1061 = .ok (.if_icmp .eq 274, 3) := by decide +kernel
theorem dL_law_1064 : decode cL_law 1064 = .ok (.iconst 0, 1) := by decide +kernel
theorem dL_law_1065 : decode cL_law 1065 = .ok (.ireturn, 1) := by decide +kernel
theorem dL_law_1066 : decode cL_law 1066 = .ok (.aload_n 1, 1) := by decide +kernel
theorem dL_law_1067 : decode cL_law 1067 = .ok (.invokevirtual 138, 3) := by decide +kernel
theorem dL_law_1070 : decode cL_law 1070 = .ok (.aload_n 2, 1) := by decide +kernel
theorem dL_law_1071 : decode cL_law 1071 = .ok (.invokevirtual 141, 3) := by decide +kernel
theorem dL_law_1074 : decode cL_law 1074 = .ok (.if_icmp .eq 261, 3) := by decide +kernel
theorem dL_law_1077 : decode cL_law 1077 = .ok (.iconst 0, 1) := by decide +kernel
theorem dL_law_1078 : decode cL_law 1078 = .ok (.ireturn, 1) := by decide +kernel
theorem dL_law_1079 : decode cL_law 1079 = .ok (.aload_n 1, 1) := by decide +kernel
theorem dL_law_1080 : decode cL_law 1080 = .ok (.invokevirtual 142, 3) := by decide +kernel
theorem dL_law_1083 : decode cL_law 1083 = .ok (.aload_n 2, 1) := by decide +kernel
theorem dL_law_1084 : decode cL_law 1084 = .ok (.invokevirtual 145, 3) := by decide +kernel
theorem dL_law_1087 : decode cL_law 1087 = .ok (.if_icmp .eq 248, 3) := by decide +kernel
theorem dL_law_1090 : decode cL_law 1090 = .ok (.iconst 0, 1) := by decide +kernel
theorem dL_law_1091 : decode cL_law 1091 = .ok (.ireturn, 1) := by decide +kernel
theorem dL_law_1092 : decode cL_law 1092 = .ok (.aload_n 1, 1) := by decide +kernel
theorem dL_law_1093 : decode cL_law 1093 = .ok (.aload_n 0, 1) := by decide +kernel
theorem dL_law_1094 : decode cL_law 1094 = .ok (.iload_n 3, 1) := by decide +kernel
theorem dL_law_1095 : decode cL_law 1095 = .ok (.iconst 1, 1) := by decide +kernel
theorem dL_law_1096 : decode cL_law 1096 = .ok (.iadd, 1) := by decide +kernel
theorem dL_law_1097 : decode cL_law 1097 = .ok (.iaload, 1) := by decide +kernel
theorem dL_law_1098 : decode cL_law 1098 = .ok (.aload_n 0, 1) := by decide +kernel
theorem dL_law_1099 : decode cL_law 1099 = .ok (.iload_n 3, 1) := by decide +kernel
theorem dL_law_1100 : decode cL_law 1100 = .ok (.iconst 2, 1) := by decide +kernel
theorem dL_law_1101 : decode cL_law 1101 = .ok (.iadd, 1) := by decide +kernel
theorem dL_law_1102 : decode cL_law 1102 = .ok (.iaload, 1) := by decide +kernel
theorem dL_law_1103 : decode cL_law 1103 = .ok (.aload_n 0, 1) := by decide +kernel
theorem dL_law_1104 : decode cL_law 1104 = .ok (.iload_n 3, 1) := by decide +kernel
theorem dL_law_1105 : decode cL_law 1105 = .ok (.iconst 3, 1) := by decide +kernel
theorem dL_law_1106 : decode cL_law 1106 = .ok (.iadd, 1) := by decide +kernel
theorem dL_law_1107 : decode cL_law 1107 = .ok (.iaload, 1) := by decide +kernel
theorem dL_law_1108 : decode cL_law 1108 = .ok (.invokevirtual 146, 3) := by decide +kernel
theorem dL_law_1111 : decode cL_law 1111 = .ok (.aload_n 2, 1) := by decide +kernel
theorem dL_law_1112 : decode cL_law 1112 = .ok (.aload_n 0, 1) := by decide +kernel
theorem dL_law_1113 : decode cL_law 1113 = .ok (.iload_n 3, 1) := by decide +kernel
theorem dL_law_1114 : decode cL_law 1114 = .ok (.iconst 1, 1) := by decide +kernel
theorem dL_law_1115 : decode cL_law 1115 = .ok (.iadd, 1) := by decide +kernel
theorem dL_law_1116 : decode cL_law 1116 = .ok (.iaload, 1) := by decide +kernel
theorem dL_law_1117 : decode cL_law 1117 = .ok (.aload_n 0, 1) := by decide +kernel
theorem dL_law_1118 : decode cL_law 1118 = .ok (.iload_n 3, 1) := by decide +kernel
theorem dL_law_1119 : decode cL_law 1119 = .ok (.iconst 2, 1) := by decide +kernel
theorem dL_law_1120 : decode cL_law 1120 = .ok (.iadd, 1) := by decide +kernel
theorem dL_law_1121 : decode cL_law 1121 = .ok (.iaload, 1) := by decide +kernel
theorem dL_law_1122 : decode cL_law 1122 = .ok (.aload_n 0, 1) := by decide +kernel
theorem dL_law_1123 : decode cL_law 1123 = .ok (.iload_n 3, 1) := by decide +kernel
theorem dL_law_1124 : decode cL_law 1124 = .ok (.iconst 3, 1) := by decide +kernel
theorem dL_law_1125 : decode cL_law 1125 = .ok (.iadd, 1) := by decide +kernel
theorem dL_law_1126 : decode cL_law 1126 = .ok (.iaload, 1) := by decide +kernel
theorem dL_law_1127 : decode cL_law 1127 = .ok (.invokevirtual 149, 3) := by decide +kernel
theorem dL_law_1130 : decode cL_law 1130 = .ok (.if_icmp .eq 205, 3) := by decide +kernel
theorem dL_law_1133 : decode cL_law 1133 = .ok (.iconst 0, 1) := by decide +kernel
theorem dL_law_1134 : decode cL_law 1134 = .ok (.ireturn, 1) := by decide +kernel
theorem dL_law_1135 : decode cL_law 1135 = .ok (.aload_n 1, 1) := by decide +kernel
theorem dL_law_1136 : decode cL_law 1136 = .ok (.aload_n 0, 1) := by decide +kernel
theorem dL_law_1137 : decode cL_law 1137 = .ok (.iload_n 3, 1) := by decide +kernel
theorem dL_law_1138 : decode cL_law 1138 = .ok (.iconst 1, 1) := by decide +kernel
theorem dL_law_1139 : decode cL_law 1139 = .ok (.iadd, 1) := by decide +kernel
theorem dL_law_1140 : decode cL_law 1140 = .ok (.iaload, 1) := by decide +kernel
theorem dL_law_1141 : decode cL_law 1141 = .ok (.aload_n 0, 1) := by decide +kernel
theorem dL_law_1142 : decode cL_law 1142 = .ok (.iload_n 3, 1) := by decide +kernel
theorem dL_law_1143 : decode cL_law 1143 = .ok (.iconst 2, 1) := by decide +kernel
theorem dL_law_1144 : decode cL_law 1144 = .ok (.iadd, 1) := by decide +kernel
theorem dL_law_1145 : decode cL_law 1145 = .ok (.iaload, 1) := by decide +kernel
theorem dL_law_1146 : decode cL_law 1146 = .ok (.aload_n 0, 1) := by decide +kernel
theorem dL_law_1147 : decode cL_law 1147 = .ok (.iload_n 3, 1) := by decide +kernel
theorem dL_law_1148 : decode cL_law 1148 = .ok (.iconst 3, 1) := by decide +kernel
theorem dL_law_1149 : decode cL_law 1149 = .ok (.iadd, 1) := by decide +kernel
theorem dL_law_1150 : decode cL_law 1150 = .ok (.iaload, 1) := by decide +kernel
theorem dL_law_1151 : decode cL_law 1151 = .ok (.aload_n 0, 1) := by decide +kernel
theorem dL_law_1152 : decode cL_law 1152 = .ok (.iload_n 3, 1) := by decide +kernel
theorem dL_law_1153 : decode cL_law 1153 = .ok (.iconst 4, 1) := by decide +kernel
theorem dL_law_1154 : decode cL_law 1154 = .ok (.iadd, 1) := by decide +kernel
theorem dL_law_1155 : decode cL_law 1155 = .ok (.iaload, 1) := by decide +kernel
theorem dL_law_1156 : decode cL_law 1156 = .ok (.invokevirtual 150, 3) := by decide +kernel
theorem dL_law_1159 : decode cL_law 1159 = .ok (.aload_n 2, 1) := by decide +kernel
theorem dL_law_1160 : decode cL_law 1160 = .ok (.aload_n 0, 1) := by decide +kernel
theorem dL_law_1161 : decode cL_law 1161 = .ok (.iload_n 3, 1) := by decide +kernel
theorem dL_law_1162 : decode cL_law 1162 = .ok (.iconst 1, 1) := by decide +kernel
theorem dL_law_1163 : decode cL_law 1163 = .ok (.iadd, 1) := by decide +kernel
theorem dL_law_1164 : decode cL_law 1164 = .ok (.iaload, 1) := by decide +kernel
theorem dL_law_1165 : decode cL_law 1165 = .ok (.aload_n 0, 1) := by decide +kernel
theorem dL_law_1166 : decode cL_law 1166 = .ok (.iload_n 3, 1) := by decide +kernel
theorem dL_law_1167 : decode cL_law 1167 = .ok (.iconst 2, 1) := by decide +kernel
theorem dL_law_1168 : decode cL_law 1168 = .ok (.iadd, 1) := by decide +kernel
theorem dL_law_1169 : decode cL_law 1169 = .ok (.iaload, 1) := by decide +kernel
theorem dL_law_1170 : decode cL_law 1170 = .ok (.aload_n 0, 1) := by decide +kernel
theorem dL_law_1171 : decode cL_law 1171 = .ok (.iload_n 3, 1) := by decide +kernel
theorem dL_law_1172 : decode cL_law 1172 = .ok (.iconst 3, 1) := by decide +kernel
theorem dL_law_1173 : decode cL_law 1173 = .ok (.iadd, 1) := by decide +kernel
theorem dL_law_1174 : decode cL_law 1174 = .ok (.iaload, 1) := by decide +kernel
theorem dL_law_1175 : decode cL_law 1175 = .ok (.aload_n 0, 1) := by decide +kernel
theorem dL_law_1176 : decode cL_law 1176 = .ok (.iload_n 3, 1) := by decide +kernel
theorem dL_law_1177 : decode cL_law 1177 = .ok (.iconst 4, 1) := by decide +kernel
theorem dL_law_1178 : decode cL_law 1178 = .ok (.iadd, 1) := by decide +kernel
theorem dL_law_1179 : decode cL_law 1179 = .ok (.iaload, 1) := by decide +kernel
theorem dL_law_1180 : decode cL_law 1180 = .ok (.invokevirtual 154, 3) := by decide +kernel
theorem dL_law_1183 : decode cL_law 1183 = .ok (.if_icmp .eq 152, 3) := by decide +kernel
theorem dL_law_1186 : decode cL_law 1186 = .ok (.iconst 0, 1) := by decide +kernel
theorem dL_law_1187 : decode cL_law 1187 = .ok (.ireturn, 1) := by decide +kernel
theorem dL_law_1188 : decode cL_law 1188 = .ok (.aload_n 1, 1) := by decide +kernel
theorem dL_law_1189 : decode cL_law 1189 = .ok (.aload_n 0, 1) := by decide +kernel
theorem dL_law_1190 : decode cL_law 1190 = .ok (.iload_n 3, 1) := by decide +kernel
theorem dL_law_1191 : decode cL_law 1191 = .ok (.iconst 1, 1) := by decide +kernel
theorem dL_law_1192 : decode cL_law 1192 = .ok (.iadd, 1) := by decide +kernel
theorem dL_law_1193 : decode cL_law 1193 = .ok (.iaload, 1) := by decide +kernel
theorem dL_law_1194 : decode cL_law 1194 = .ok (.aload_n 0, 1) := by decide +kernel
theorem dL_law_1195 : decode cL_law 1195 = .ok (.iload_n 3, 1) := by decide +kernel
theorem dL_law_1196 : decode cL_law 1196 = .ok (.iconst 2, 1) := by decide +kernel
theorem dL_law_1197 : decode cL_law 1197 = .ok (.iadd, 1) := by decide +kernel
theorem dL_law_1198 : decode cL_law 1198 = .ok (.iaload, 1) := by decide +kernel
theorem dL_law_1199 : decode cL_law 1199 = .ok (.invokevirtual 155, 3) := by decide +kernel
theorem dL_law_1202 : decode cL_law 1202 = .ok (.aload_n 2, 1) := by decide +kernel
theorem dL_law_1203 : decode cL_law 1203 = .ok (.aload_n 0, 1) := by decide +kernel
theorem dL_law_1204 : decode cL_law 1204 = .ok (.iload_n 3, 1) := by decide +kernel
theorem dL_law_1205 : decode cL_law 1205 = .ok (.iconst 1, 1) := by decide +kernel
theorem dL_law_1206 : decode cL_law 1206 = .ok (.iadd, 1) := by decide +kernel
theorem dL_law_1207 : decode cL_law 1207 = .ok (.iaload, 1) := by decide +kernel
theorem dL_law_1208 : decode cL_law 1208 = .ok (.aload_n 0, 1) := by decide +kernel
theorem dL_law_1209 : decode cL_law 1209 = .ok (.iload_n 3, 1) := by decide +kernel
theorem dL_law_1210 : decode cL_law 1210 = .ok (.iconst 2, 1) := by decide +kernel
theorem dL_law_1211 : decode cL_law 1211 = .ok (.iadd, 1) := by decide +kernel
theorem dL_law_1212 : decode cL_law 1212 = .ok (.iaload, 1) := by decide +kernel
theorem dL_law_1213 : decode cL_law 1213 = .ok (.invokevirtual 158, 3) := by decide +kernel
theorem dL_law_1216 : decode cL_law 1216 = .ok (.if_icmp .eq 119, 3) := by decide +kernel
theorem dL_law_1219 : decode cL_law 1219 = .ok (.iconst 0, 1) := by decide +kernel
theorem dL_law_1220 : decode cL_law 1220 = .ok (.ireturn, 1) := by decide +kernel
theorem dL_law_1221 : decode cL_law 1221 = .ok (.aload_n 1, 1) := by decide +kernel
theorem dL_law_1222 : decode cL_law 1222 = .ok (.invokevirtual 159, 3) := by decide +kernel
theorem dL_law_1225 : decode cL_law 1225 = .ok (.aload_n 2, 1) := by decide +kernel
theorem dL_law_1226 : decode cL_law 1226 = .ok (.invokevirtual 162, 3) := by decide +kernel
theorem dL_law_1229 : decode cL_law 1229 = .ok (.if_icmp .eq 106, 3) := by decide +kernel
theorem dL_law_1232 : decode cL_law 1232 = .ok (.iconst 0, 1) := by decide +kernel
theorem dL_law_1233 : decode cL_law 1233 = .ok (.ireturn, 1) := by decide +kernel
theorem dL_law_1234 : decode cL_law 1234 = .ok (.aload_n 1, 1) := by decide +kernel
theorem dL_law_1235 : decode cL_law 1235 = .ok (.invokevirtual 163, 3) := by decide +kernel
theorem dL_law_1238 : decode cL_law 1238 = .ok (.aload_n 2, 1) := by decide +kernel
theorem dL_law_1239 : decode cL_law 1239 = .ok (.invokevirtual 167, 3) := by decide +kernel
theorem dL_law_1242 : decode cL_law 1242 = .ok (.lcmp, 1) := by decide +kernel
theorem dL_law_1243 : decode cL_law 1243 = .ok (.ifCond .eq 92, 3) := by decide +kernel
theorem dL_law_1246 : decode cL_law 1246 = .ok (.iconst 0, 1) := by decide +kernel
theorem dL_law_1247 : decode cL_law 1247 = .ok (.ireturn, 1) := by decide +kernel
theorem dL_law_1248 : decode cL_law 1248 = .ok (.aload_n 1, 1) := by decide +kernel
theorem dL_law_1249 : decode cL_law 1249 = .ok (.invokevirtual 168, 3) := by decide +kernel
theorem dL_law_1252 : decode cL_law 1252 = .ok (.aload_n 2, 1) := by decide +kernel
theorem dL_law_1253 : decode cL_law 1253 = .ok (.invokevirtual 171, 3) := by decide +kernel
theorem dL_law_1256 : decode cL_law 1256 = .ok (.lcmp, 1) := by decide +kernel
theorem dL_law_1257 : decode cL_law 1257 = .ok (.ifCond .eq 78, 3) := by decide +kernel
theorem dL_law_1260 : decode cL_law 1260 = .ok (.iconst 0, 1) := by decide +kernel
theorem dL_law_1261 : decode cL_law 1261 = .ok (.ireturn, 1) := by decide +kernel
theorem dL_law_1262 : decode cL_law 1262 = .ok (.aload_n 1, 1) := by decide +kernel
theorem dL_law_1263 : decode cL_law 1263 = .ok (.aload_n 0, 1) := by decide +kernel
theorem dL_law_1264 : decode cL_law 1264 = .ok (.iload_n 3, 1) := by decide +kernel
theorem dL_law_1265 : decode cL_law 1265 = .ok (.iconst 1, 1) := by decide +kernel
theorem dL_law_1266 : decode cL_law 1266 = .ok (.iadd, 1) := by decide +kernel
theorem dL_law_1267 : decode cL_law 1267 = .ok (.iaload, 1) := by decide +kernel
theorem dL_law_1268 : decode cL_law 1268 = .ok (.invokevirtual 172, 3) := by decide +kernel
theorem dL_law_1271 : decode cL_law 1271 = .ok (.aload_n 2, 1) := by decide +kernel
theorem dL_law_1272 : decode cL_law 1272 = .ok (.aload_n 0, 1) := by decide +kernel
theorem dL_law_1273 : decode cL_law 1273 = .ok (.iload_n 3, 1) := by decide +kernel
theorem dL_law_1274 : decode cL_law 1274 = .ok (.iconst 1, 1) := by decide +kernel
theorem dL_law_1275 : decode cL_law 1275 = .ok (.iadd, 1) := by decide +kernel
theorem dL_law_1276 : decode cL_law 1276 = .ok (.iaload, 1) := by decide +kernel
theorem dL_law_1277 : decode cL_law 1277 = .ok (.invokevirtual 175, 3) := by decide +kernel
theorem dL_law_1280 : decode cL_law 1280 = .ok (.if_icmp .eq 55, 3) := by decide +kernel
theorem dL_law_1283 : decode cL_law 1283 = .ok (.iconst 0, 1) := by decide +kernel
theorem dL_law_1284 : decode cL_law 1284 = .ok (.ireturn, 1) := by decide +kernel
theorem dL_law_1285 : decode cL_law 1285 = .ok (.aload_n 1, 1) := by decide +kernel
theorem dL_law_1286 : decode cL_law 1286 = .ok (.invokevirtual 176, 3) := by decide +kernel
theorem dL_law_1289 : decode cL_law 1289 = .ok (.aload_n 2, 1) := by decide +kernel
theorem dL_law_1290 : decode cL_law 1290 = .ok (.invokevirtual 179, 3) := by decide +kernel
theorem dL_law_1293 : decode cL_law 1293 = .ok (.if_icmp .eq 42, 3) := by decide +kernel
theorem dL_law_1296 : decode cL_law 1296 = .ok (.iconst 0, 1) := by decide +kernel
theorem dL_law_1297 : decode cL_law 1297 = .ok (.ireturn, 1) := by decide +kernel
theorem dL_law_1298 : decode cL_law 1298 = .ok (.aload_n 1, 1) := by decide +kernel
theorem dL_law_1299 : decode cL_law 1299 = .ok (.aload_n 0, 1) := by decide +kernel
theorem dL_law_1300 : decode cL_law 1300 = .ok (.iload_n 3, 1) := by decide +kernel
theorem dL_law_1301 : decode cL_law 1301 = .ok (.iconst 1, 1) := by decide +kernel
theorem dL_law_1302 : decode cL_law 1302 = .ok (.iadd, 1) := by decide +kernel
theorem dL_law_1303 : decode cL_law 1303 = .ok (.iaload, 1) := by decide +kernel
theorem dL_law_1304 : decode cL_law 1304 = .ok (.invokevirtual 180, 3) := by decide +kernel
theorem dL_law_1307 : decode cL_law 1307 = .ok (.aload_n 2, 1) := by decide +kernel
theorem dL_law_1308 : decode cL_law 1308 = .ok (.aload_n 0, 1) := by decide +kernel
theorem dL_law_1309 : decode cL_law 1309 = .ok (.iload_n 3, 1) := by decide +kernel
theorem dL_law_1310 : decode cL_law 1310 = .ok (.iconst 1, 1) := by decide +kernel
theorem dL_law_1311 : decode cL_law 1311 = .ok (.iadd, 1) := by decide +kernel
theorem dL_law_1312 : decode cL_law 1312 = .ok (.iaload, 1) := by decide +kernel
theorem dL_law_1313 : decode cL_law 1313 = .ok (.invokevirtual 183, 3) := by decide +kernel
theorem dL_law_1316 : decode cL_law 1316 = .ok (.if_icmp .eq 19, 3) := by decide +kernel
theorem dL_law_1319 : decode cL_law 1319 = .ok (.iconst 0, 1) := by decide +kernel
theorem dL_law_1320 : decode cL_law 1320 = .ok (.ireturn, 1) := by decide +kernel
theorem dL_law_1321 : decode cL_law 1321 = .ok (.aload_n 1, 1) := by decide +kernel
theorem dL_law_1322 : decode cL_law 1322 = .ok (.invokevirtual 184, 3) := by decide +kernel
theorem dL_law_1325 : decode cL_law 1325 = .ok (.aload_n 2, 1) := by decide +kernel
theorem dL_law_1326 : decode cL_law 1326 = .ok (.invokevirtual 187, 3) := by decide +kernel
theorem dL_law_1329 : decode cL_law 1329 = .ok (.lcmp, 1) := by decide +kernel
theorem dL_law_1330 : decode cL_law 1330 = .ok (.ifCond .eq 5, 3) := by decide +kernel
theorem dL_law_1333 : decode cL_law 1333 = .ok (.iconst 0, 1) := by decide +kernel
theorem dL_law_1334 : decode cL_law 1334 = .ok (.ireturn, 1) := by decide +kernel
theorem dL_law_1335 : decode cL_law 1335 = .ok (.iinc 3 6, 3) := by decide +kernel
theorem dL_law_1338 : decode cL_law 1338 = .ok (.goto (-1320), 3) := by decide +kernel
theorem dL_law_1341 : decode cL_law 1341 = .ok (.iconst 1, 1) := by decide +kernel
theorem dL_law_1342 : decode cL_law 1342 = .ok (.ireturn, 1) := by decide +kernel
