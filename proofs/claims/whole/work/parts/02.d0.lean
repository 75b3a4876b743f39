theorem dX0_init_0 : decode cX0_init 0 = .ok (.aload_n 0, 1) := by decide +kernel
theorem dX0_init_1 : decode cX0_init 1 = .ok (.invokespecial 3, 3) := by decide +kernel
theorem dX0_init_4 : decode cX0_init 4 = .ok (.aload_n 0, 1) := by decide +kernel
theorem dX0_init_5 : decode cX0_init 5 = .ok (.new 9, 3) := by decide +kernel
theorem dX0_init_8 : decode cX0_init 8 = .ok (.dup, 1) := by decide +kernel
theorem dX0_init_9 : decode cX0_init 9 = .ok (.invokespecial 11, 3) := by decide +kernel
theorem dX0_init_12 : decode cX0_init 12 = .ok (.putfield 12, 3) := by decide +kernel
theorem dX0_init_15 : decode cX0_init 15 = .ok (.aload_n 0, 1) := by decide +kernel
theorem dX0_init_16 : decode cX0_init 16 = .ok (.bipush 6, 2) := by decide +kernel
theorem dX0_init_18 : decode cX0_init 18 = .ok (.newarray .int, 2) := by decide +kernel
theorem dX0_init_20 : decode cX0_init 20 = .ok (.putfield 18, 3) := by decide +kernel
theorem dX0_init_23 : decode cX0_init 23 = .ok (.aload_n 0, 1) := by decide +kernel
theorem dX0_init_24 : decode cX0_init 24 = .ok (.bipush 7, 2) := by decide +kernel
theorem dX0_init_26 : decode cX0_init 26 = .ok (.newarray .long, 2) := by decide +kernel
theorem dX0_init_28 : decode cX0_init 28 = .ok (.putfield 22, 3) := by decide +kernel
theorem dX0_init_31 : decode cX0_init 31 = .ok (.return_, 1) := by decide +kernel
theorem dX0_pass_0 : decode cX0_pass 0 = .ok (.iconst 0, 1) := by decide +kernel
theorem dX0_pass_1 : decode cX0_pass 1 = .ok (.istore_n 2, 1) := by decide +kernel
theorem dX0_pass_2 : decode cX0_pass 2 = .ok (.iconst 0, 1) := by decide +kernel
theorem dX0_pass_3 : decode cX0_pass 3 = .ok (.istore_n 3, 1) := by decide +kernel
theorem dX0_pass_4 : decode cX0_pass 4 = .ok (.iload_n 3, 1) := by decide +kernel
theorem dX0_pass_5 : decode cX0_pass 5 = .ok (.iload_n 1, 1) := by decide +kernel
theorem dX0_pass_6 : decode cX0_pass 6 = .ok (.if_icmp .ge 20, 3) := by decide +kernel
theorem dX0_pass_9 : decode cX0_pass 9 = .ok (.iload_n 2, 1) := by decide +kernel
theorem dX0_pass_10 : decode cX0_pass 10 = .ok (.aload_n 0, 1) := by decide +kernel
theorem dX0_pass_11 : decode cX0_pass 11 = .ok (.getfield 12, 3) := by decide +kernel
theorem dX0_pass_14 : decode cX0_pass 14 = .ok (.iconst 0, 1) := by decide +kernel
theorem dX0_pass_15 : decode cX0_pass 15 = .ok (.invokevirtual 26, 3) := by decide +kernel
theorem dX0_pass_18 : decode cX0_pass 18 = .ok (.iadd, 1) := by decide +kernel
theorem dX0_pass_19 : decode cX0_pass 19 = .ok (.istore_n 2, 1) := by decide +kernel
theorem dX0_pass_20 : decode cX0_pass 20 = .ok (.iinc 3 1, 3) := by decide +kernel
theorem dX0_pass_23 : decode cX0_pass 23 = .ok (.goto (-19), 3) := by decide +kernel
theorem dX0_pass_26 : decode cX0_pass 26 = .ok (.iload_n 2, 1) := by decide +kernel
theorem dX0_pass_27 : decode cX0_pass 27 = .ok (.ireturn, 1) := by decide +kernel
theorem dX0_firstSaleTo_0 : decode cX0_firstSaleTo 0 = .ok (.aload_n 1, 1) := by decide +kernel
theorem dX0_firstSaleTo_1 : decode cX0_firstSaleTo 1 = .ok (.getfield 30, 3) := by decide +kernel
theorem dX0_firstSaleTo_4 : decode cX0_firstSaleTo 4 = .ok (.iload_n 2, 1) := by decide +kernel
theorem dX0_firstSaleTo_5 : decode cX0_firstSaleTo 5 = .ok (.iaload, 1) := by decide +kernel
theorem dX0_firstSaleTo_6 : decode cX0_firstSaleTo 6 = .ok (.istore_n 3, 1) := by decide +kernel
theorem dX0_firstSaleTo_7 : decode cX0_firstSaleTo 7 = .ok (.aload_n 0, 1) := by decide +kernel
theorem dX0_firstSaleTo_8 : decode cX0_firstSaleTo 8 = .ok (.getfield 12, 3) := by decide +kernel
theorem dX0_firstSaleTo_11 : decode cX0_firstSaleTo 11 = .ok (.aload_n 1, 1) := by decide +kernel
theorem dX0_firstSaleTo_12 : decode cX0_firstSaleTo 12 = .ok (.invokevirtual 33, 3) := by decide +kernel
theorem dX0_firstSaleTo_15 : decode cX0_firstSaleTo 15 = .ok (.iconst 1, 1) := by decide +kernel
theorem dX0_firstSaleTo_16 : decode cX0_firstSaleTo 16 = .ok (.istore 4, 2) := by decide +kernel
theorem dX0_firstSaleTo_18 : decode cX0_firstSaleTo 18 = .ok (.iload 4, 2) := by decide +kernel
theorem dX0_firstSaleTo_20 : decode cX0_firstSaleTo 20 = .ok (.bipush 60, 2) := by decide +kernel
theorem dX0_firstSaleTo_22 : decode cX0_firstSaleTo 22 = .ok (.if_icmp .gt 60, 3) := by decide +kernel
theorem dX0_firstSaleTo_25 : decode cX0_firstSaleTo 25 = .ok (.iload_n 3, 1) := by decide +kernel
theorem dX0_firstSaleTo_26 : decode cX0_firstSaleTo 26 = .ok (.iconst 4, 1) := by decide +kernel
theorem dX0_firstSaleTo_27 : decode cX0_firstSaleTo 27 = .ok (.if_icmp .eq 55, 3) := by decide +kernel
theorem dX0_firstSaleTo_30 : decode cX0_firstSaleTo 30 = .ok (.aload_n 0, 1) := by decide +kernel
theorem dX0_firstSaleTo_31 : decode cX0_firstSaleTo 31 = .ok (.getfield 12, 3) := by decide +kernel
theorem dX0_firstSaleTo_34 : decode cX0_firstSaleTo 34 = .ok (.iconst 0, 1) := by decide +kernel
theorem dX0_firstSaleTo_35 : decode cX0_firstSaleTo 35 = .ok (.invokevirtual 26, 3) := by decide +kernel
theorem dX0_firstSaleTo_38 : decode cX0_firstSaleTo 38 = .ok (.pop, 1) := by decide +kernel
theorem dX0_firstSaleTo_39 : decode cX0_firstSaleTo 39 = .ok (.aload_n 0, 1) := by decide +kernel
theorem dX0_firstSaleTo_40 : decode cX0_firstSaleTo 40 = .ok (.getfield 12, 3) := by decide +kernel
theorem dX0_firstSaleTo_43 : decode cX0_firstSaleTo 43 = .ok (.getfield 30, 3) := by decide +kernel
theorem dX0_firstSaleTo_46 : decode cX0_firstSaleTo 46 = .ok (.iload_n 2, 1) := by decide +kernel
theorem dX0_firstSaleTo_47 : decode cX0_firstSaleTo 47 = .ok (.iaload, 1) := by decide +kernel
theorem dX0_firstSaleTo_48 : decode cX0_firstSaleTo 48 = .ok (.iconst 4, 1) := by decide +kernel
theorem dX0_firstSaleTo_49 : decode cX0_firstSaleTo 49 = .ok (.if_icmp .ne 27, 3) := by decide +kernel
theorem dX0_firstSaleTo_52 : decode cX0_firstSaleTo 52 = .ok (.aload_n 0, 1) := by decide +kernel
theorem dX0_firstSaleTo_53 : decode cX0_firstSaleTo 53 = .ok (.aload_n 0, 1) := by decide +kernel
theorem dX0_firstSaleTo_54 : decode cX0_firstSaleTo 54 = .ok (.getfield 12, 3) := by decide +kernel
theorem dX0_firstSaleTo_57 : decode cX0_firstSaleTo 57 = .ok (.aload_n 0, 1) := by decide +kernel
theorem dX0_firstSaleTo_58 : decode cX0_firstSaleTo 58 = .ok (.getfield 12, 3) := by decide +kernel
theorem dX0_firstSaleTo_61 : decode cX0_firstSaleTo 61 = .ok (.getfield 37, 3) := by decide +kernel
theorem dX0_firstSaleTo_64 : decode cX0_firstSaleTo 64 = .ok (.iload_n 2, 1) := by decide +kernel
theorem dX0_firstSaleTo_65 : decode cX0_firstSaleTo 65 = .ok (.iaload, 1) := by decide +kernel
theorem dX0_firstSaleTo_66 : decode cX0_firstSaleTo 66 = .ok (.iload_n 3, 1) := by decide +kernel
theorem dX0_firstSaleTo_67 : decode cX0_firstSaleTo 67 = .ok (.invokevirtual 40, 3) := by decide +kernel
theorem dX0_firstSaleTo_70 : decode cX0_firstSaleTo 70 = .ok (.putfield 44, 3) := by decide +kernel
theorem dX0_firstSaleTo_73 : decode cX0_firstSaleTo 73 = .ok (.iload 4, 2) := by decide +kernel
theorem dX0_firstSaleTo_75 : decode cX0_firstSaleTo 75 = .ok (.ireturn, 1) := by decide +kernel
theorem dX0_firstSaleTo_76 : decode cX0_firstSaleTo 76 = .ok (.iinc 4 1, 3) := by decide +kernel
theorem dX0_firstSaleTo_79 : decode cX0_firstSaleTo 79 = .ok (.goto (-61), 3) := by decide +kernel
theorem dX0_firstSaleTo_82 : decode cX0_firstSaleTo 82 = .ok (.bipush (-9), 2) := by decide +kernel
theorem dX0_firstSaleTo_84 : decode cX0_firstSaleTo 84 = .ok (.ireturn, 1) := by decide +kernel
theorem dX0_sales_0 : decode cX0_sales 0 = .ok (.aload_n 0, 1) := by decide +kernel
theorem dX0_sales_1 : decode cX0_sales 1 = .ok (.getfield 12, 3) := by decide +kernel
theorem dX0_sales_4 : decode cX0_sales 4 = .ok (.aload_n 1, 1) := by decide +kernel
theorem dX0_sales_5 : decode cX0_sales 5 = .ok (.invokevirtual 33, 3) := by decide +kernel
theorem dX0_sales_8 : decode cX0_sales 8 = .ok (.aload_n 0, 1) := by decide +kernel
theorem dX0_sales_9 : decode cX0_sales 9 = .ok (.iload_n 2, 1) := by decide +kernel
theorem dX0_sales_10 : decode cX0_sales 10 = .ok (.invokevirtual 48, 3) := by decide +kernel
theorem dX0_sales_13 : decode cX0_sales 13 = .ok (.istore_n 3, 1) := by decide +kernel
theorem dX0_sales_14 : decode cX0_sales 14 = .ok (.aload_n 0, 1) := by decide +kernel
theorem dX0_sales_15 : decode cX0_sales 15 = .ok (.aload_n 0, 1) := by decide +kernel
theorem dX0_sales_16 : decode cX0_sales 16 = .ok (.getfield 12, 3) := by decide +kernel
theorem dX0_sales_19 : decode cX0_sales 19 = .ok (.invokevirtual 51, 3) := by decide +kernel
theorem dX0_sales_22 : decode cX0_sales 22 = .ok (.aload_n 1, 1) := by decide +kernel
theorem dX0_sales_23 : decode cX0_sales 23 = .ok (.invokevirtual 51, 3) := by decide +kernel
theorem dX0_sales_26 : decode cX0_sales 26 = .ok (.isub, 1) := by decide +kernel
theorem dX0_sales_27 : decode cX0_sales 27 = .ok (.putfield 44, 3) := by decide +kernel
theorem dX0_sales_30 : decode cX0_sales 30 = .ok (.iload_n 3, 1) := by decide +kernel
theorem dX0_sales_31 : decode cX0_sales 31 = .ok (.ireturn, 1) := by decide +kernel
theorem dX0_salesInWinds_0 : decode cX0_salesInWinds 0 = .ok (.aload_n 0, 1) := by decide +kernel
theorem dX0_salesInWinds_1 : decode cX0_salesInWinds 1 = .ok (.getfield 12, 3) := by decide +kernel
theorem dX0_salesInWinds_4 : decode cX0_salesInWinds 4 = .ok (.aload_n 1, 1) := by decide +kernel
theorem dX0_salesInWinds_5 : decode cX0_salesInWinds 5 = .ok (.invokevirtual 33, 3) := by decide +kernel
theorem dX0_salesInWinds_8 : decode cX0_salesInWinds 8 = .ok (.iload_n 3, 1) := by decide +kernel
theorem dX0_salesInWinds_9 : decode cX0_salesInWinds 9 = .ok (.i2l, 1) := by decide +kernel
theorem dX0_salesInWinds_10 : decode cX0_salesInWinds 10 = .ok (.lstore 4, 2) := by decide +kernel
theorem dX0_salesInWinds_12 : decode cX0_salesInWinds 12 = .ok (.iconst 0, 1) := by decide +kernel
theorem dX0_salesInWinds_13 : decode cX0_salesInWinds 13 = .ok (.istore 6, 2) := by decide +kernel
theorem dX0_salesInWinds_15 : decode cX0_salesInWinds 15 = .ok (.iconst 0, 1) := by decide +kernel
theorem dX0_salesInWinds_16 : decode cX0_salesInWinds 16 = .ok (.istore 7, 2) := by decide +kernel
theorem dX0_salesInWinds_18 : decode cX0_salesInWinds 18 = .ok (.iload 7, 2) := by decide +kernel
theorem dX0_salesInWinds_20 : decode cX0_salesInWinds 20 = .ok (.iload_n 2, 1) := by decide +kernel
theorem dX0_salesInWinds_21 : decode cX0_salesInWinds 21 = .ok (.if_icmp .ge 42, 3) := by decide +kernel
theorem dX0_salesInWinds_24 : decode cX0_salesInWinds 24 = .ok (.lload 4, 2) := by decide +kernel
theorem dX0_salesInWinds_26 : decode cX0_salesInWinds 26 = .ok (.ldc2_w 55, 3) := by decide +kernel
theorem dX0_salesInWinds_29 : decode cX0_salesInWinds 29 = .ok (.lmul, 1) := by decide +kernel
theorem dX0_salesInWinds_30 : decode cX0_salesInWinds 30 = .ok (.ldc2_w 57, 3) := by decide +kernel
theorem dX0_salesInWinds_33 : decode cX0_salesInWinds 33 = .ok (.lrem, 1) := by decide +kernel
theorem dX0_salesInWinds_34 : decode cX0_salesInWinds 34 = .ok (.lstore 4, 2) := by decide +kernel
theorem dX0_salesInWinds_36 : decode cX0_salesInWinds 36 = .ok (.iload 6, 2) := by decide +kernel
theorem dX0_salesInWinds_38 : decode cX0_salesInWinds 38 = .ok (.aload_n 0, 1) := by decide +kernel
theorem dX0_salesInWinds_39 : decode cX0_salesInWinds 39 = .ok (.getfield 12, 3) := by decide +kernel
theorem dX0_salesInWinds_42 : decode cX0_salesInWinds 42 = .ok (.lload 4, 2) := by decide +kernel
theorem dX0_salesInWinds_44 : decode cX0_salesInWinds 44 = .ok (.ldc2_w 59, 3) := by decide +kernel
theorem dX0_salesInWinds_47 : decode cX0_salesInWinds 47 = .ok (.lrem, 1) := by decide +kernel
theorem dX0_salesInWinds_48 : decode cX0_salesInWinds 48 = .ok (.l2i, 1) := by decide +kernel
theorem dX0_salesInWinds_49 : decode cX0_salesInWinds 49 = .ok (.iconst 1, 1) := by decide +kernel
theorem dX0_salesInWinds_50 : decode cX0_salesInWinds 50 = .ok (.isub, 1) := by decide +kernel
theorem dX0_salesInWinds_51 : decode cX0_salesInWinds 51 = .ok (.invokevirtual 26, 3) := by decide +kernel
theorem dX0_salesInWinds_54 : decode cX0_salesInWinds 54 = .ok (.iadd, 1) := by decide +kernel
theorem dX0_salesInWinds_55 : decode cX0_salesInWinds 55 = .ok (.istore 6, 2) := by decide +kernel
theorem dX0_salesInWinds_57 : decode cX0_salesInWinds 57 = .ok (.iinc 7 1, 3) := by decide +kernel
theorem dX0_salesInWinds_60 : decode cX0_salesInWinds 60 = .ok (.goto (-42), 3) := by decide +kernel
theorem dX0_salesInWinds_63 : decode cX0_salesInWinds 63 = .ok (.aload_n 0, 1) := by decide +kernel
theorem dX0_salesInWinds_64 : decode cX0_salesInWinds 64 = .ok (.aload_n 0, 1) := by decide +kernel
theorem dX0_salesInWinds_65 : decode cX0_salesInWinds 65 = .ok (.getfield 12, 3) := by decide +kernel
theorem dX0_salesInWinds_68 : decode cX0_salesInWinds 68 = .ok (.invokevirtual 51, 3) := by decide +kernel
theorem dX0_salesInWinds_71 : decode cX0_salesInWinds 71 = .ok (.aload_n 1, 1) := by decide +kernel
theorem dX0_salesInWinds_72 : decode cX0_salesInWinds 72 = .ok (.invokevirtual 51, 3) := by decide +kernel
theorem dX0_salesInWinds_75 : decode cX0_salesInWinds 75 = .ok (.isub, 1) := by decide +kernel
theorem dX0_salesInWinds_76 : decode cX0_salesInWinds 76 = .ok (.putfield 44, 3) := by decide +kernel
theorem dX0_salesInWinds_79 : decode cX0_salesInWinds 79 = .ok (.iload 6, 2) := by decide +kernel
theorem dX0_salesInWinds_81 : decode cX0_salesInWinds 81 = .ok (.ireturn, 1) := by decide +kernel
theorem dX0_firstRest_0 : decode cX0_firstRest 0 = .ok (.aload_n 0, 1) := by decide +kernel
theorem dX0_firstRest_1 : decode cX0_firstRest 1 = .ok (.getfield 12, 3) := by decide +kernel
theorem dX0_firstRest_4 : decode cX0_firstRest 4 = .ok (.aload_n 1, 1) := by decide +kernel
theorem dX0_firstRest_5 : decode cX0_firstRest 5 = .ok (.invokevirtual 33, 3) := by decide +kernel
theorem dX0_firstRest_8 : decode cX0_firstRest 8 = .ok (.aload_n 0, 1) := by decide +kernel
theorem dX0_firstRest_9 : decode cX0_firstRest 9 = .ok (.getfield 22, 3) := by decide +kernel
theorem dX0_firstRest_12 : decode cX0_firstRest 12 = .ok (.iconst 0, 1) := by decide +kernel
theorem dX0_firstRest_13 : decode cX0_firstRest 13 = .ok (.aload_n 0, 1) := by decide +kernel
theorem dX0_firstRest_14 : decode cX0_firstRest 14 = .ok (.getfield 12, 3) := by decide +kernel
theorem dX0_firstRest_17 : decode cX0_firstRest 17 = .ok (.invokevirtual 61, 3) := by decide +kernel
theorem dX0_firstRest_20 : decode cX0_firstRest 20 = .ok (.lastore, 1) := by decide +kernel
theorem dX0_firstRest_21 : decode cX0_firstRest 21 = .ok (.iconst 1, 1) := by decide +kernel
theorem dX0_firstRest_22 : decode cX0_firstRest 22 = .ok (.istore_n 2, 1) := by decide +kernel
theorem dX0_firstRest_23 : decode cX0_firstRest 23 = .ok (.iload_n 2, 1) := by decide +kernel
theorem dX0_firstRest_24 : decode cX0_firstRest 24 = .ok (.sipush 200, 3) := by decide +kernel
theorem dX0_firstRest_27 : decode cX0_firstRest 27 = .ok (.if_icmp .gt 69, 3) := by decide +kernel
theorem dX0_firstRest_30 : decode cX0_firstRest 30 = .ok (.aload_n 0, 1) := by decide +kernel
theorem dX0_firstRest_31 : decode cX0_firstRest 31 = .ok (.getfield 12, 3) := by decide +kernel
theorem dX0_firstRest_34 : decode cX0_firstRest 34 = .ok (.iconst 0, 1) := by decide +kernel
theorem dX0_firstRest_35 : decode cX0_firstRest 35 = .ok (.invokevirtual 26, 3) := by decide +kernel
theorem dX0_firstRest_38 : decode cX0_firstRest 38 = .ok (.pop, 1) := by decide +kernel
theorem dX0_firstRest_39 : decode cX0_firstRest 39 = .ok (.aload_n 0, 1) := by decide +kernel
theorem dX0_firstRest_40 : decode cX0_firstRest 40 = .ok (.getfield 12, 3) := by decide +kernel
theorem dX0_firstRest_43 : decode cX0_firstRest 43 = .ok (.invokevirtual 61, 3) := by decide +kernel
theorem dX0_firstRest_46 : decode cX0_firstRest 46 = .ok (.lstore_n 3, 1) := by decide +kernel
theorem dX0_firstRest_47 : decode cX0_firstRest 47 = .ok (.iload_n 2, 1) := by decide +kernel
theorem dX0_firstRest_48 : decode cX0_firstRest 48 = .ok (.bipush 7, 2) := by decide +kernel
theorem dX0_firstRest_50 : decode cX0_firstRest 50 = .ok (.if_icmp .lt 30, 3) := by decide +kernel
theorem dX0_firstRest_53 : decode cX0_firstRest 53 = .ok (.aload_n 0, 1) := by decide +kernel
theorem dX0_firstRest_54 : decode cX0_firstRest 54 = .ok (.getfield 22, 3) := by decide +kernel
theorem dX0_firstRest_57 : decode cX0_firstRest 57 = .ok (.iload_n 2, 1) := by decide +kernel
theorem dX0_firstRest_58 : decode cX0_firstRest 58 = .ok (.bipush 7, 2) := by decide +kernel
theorem dX0_firstRest_60 : decode cX0_firstRest 60 = .ok (.irem, 1) := by decide +kernel
theorem dX0_firstRest_61 : decode cX0_firstRest 61 = .ok (.laload, 1) := by decide +kernel
theorem dX0_firstRest_62 : decode cX0_firstRest 62 = .ok (.lload_n 3, 1) := by decide +kernel
theorem dX0_firstRest_63 : decode cX0_firstRest 63 = .ok (.lcmp, 1) := by decide +kernel
theorem dX0_firstRest_64 : decode cX0_firstRest 64 = .ok (.ifCond .ne 16, 3) := by decide +kernel
theorem dX0_firstRest_67 : decode cX0_firstRest 67 = .ok (.aload_n 0, 1) := by decide +kernel
theorem dX0_firstRest_68 : decode cX0_firstRest 68 = .ok (.aload_n 0, 1) := by decide +kernel
theorem dX0_firstRest_69 : decode cX0_firstRest 69 = .ok (.getfield 12, 3) := by decide +kernel
theorem dX0_firstRest_72 : decode cX0_firstRest 72 = .ok (.invokevirtual 65, 3) := by decide +kernel
theorem dX0_firstRest_75 : decode cX0_firstRest 75 = .ok (.putfield 44, 3) := by decide +kernel
theorem dX0_firstRest_78 : decode cX0_firstRest 78 = .ok (.iload_n 2, 1) := by decide +kernel
theorem dX0_firstRest_79 : decode cX0_firstRest 79 = .ok (.ireturn, 1) := by decide +kernel
theorem dX0_firstRest_80 : decode cX0_firstRest 80 = .ok (.aload_n 0, 1) := by decide +kernel
theorem dX0_firstRest_81 : decode cX0_firstRest 81 = .ok (.getfield 22, 3) := by decide +kernel
theorem dX0_firstRest_84 : decode cX0_firstRest 84 = .ok (.iload_n 2, 1) := by decide +kernel
theorem dX0_firstRest_85 : decode cX0_firstRest 85 = .ok (.bipush 7, 2) := by decide +kernel
theorem dX0_firstRest_87 : decode cX0_firstRest 87 = .ok (.irem, 1) := by decide +kernel
theorem dX0_firstRest_88 : decode cX0_firstRest 88 = .ok (.lload_n 3, 1) := by decide +kernel
theorem dX0_firstRest_89 : decode cX0_firstRest 89 = .ok (.lastore, 1) := by decide +kernel
theorem dX0_firstRest_90 : decode cX0_firstRest 90 = .ok (.iinc 2 1, 3) := by decide +kernel
theorem dX0_firstRest_93 : decode cX0_firstRest 93 = .ok (.goto (-70), 3) := by decide +kernel
theorem dX0_firstRest_96 : decode cX0_firstRest 96 = .ok (.bipush (-9), 2) := by decide +kernel
theorem dX0_firstRest_98 : decode cX0_firstRest 98 = .ok (.ireturn, 1) := by decide +kernel
theorem dX0_spotsAfter_0 : decode cX0_spotsAfter 0 = .ok (.aload_n 0, 1) := by decide +kernel
theorem dX0_spotsAfter_1 : decode cX0_spotsAfter 1 = .ok (.getfield 12, 3) := by decide +kernel
theorem dX0_spotsAfter_4 : decode cX0_spotsAfter 4 = .ok (.aload_n 1, 1) := by decide +kernel
theorem dX0_spotsAfter_5 : decode cX0_spotsAfter 5 = .ok (.invokevirtual 33, 3) := by decide +kernel
theorem dX0_spotsAfter_8 : decode cX0_spotsAfter 8 = .ok (.aload_n 0, 1) := by decide +kernel
theorem dX0_spotsAfter_9 : decode cX0_spotsAfter 9 = .ok (.iload_n 2, 1) := by decide +kernel
theorem dX0_spotsAfter_10 : decode cX0_spotsAfter 10 = .ok (.invokevirtual 48, 3) := by decide +kernel
theorem dX0_spotsAfter_13 : decode cX0_spotsAfter 13 = .ok (.pop, 1) := by decide +kernel
theorem dX0_spotsAfter_14 : decode cX0_spotsAfter 14 = .ok (.aload_n 3, 1) := by decide +kernel
theorem dX0_spotsAfter_15 : decode cX0_spotsAfter 15 = .ok (.aload_n 0, 1) := by decide +kernel
theorem dX0_spotsAfter_16 : decode cX0_spotsAfter 16 = .ok (.getfield 12, 3) := by decide +kernel
theorem dX0_spotsAfter_19 : decode cX0_spotsAfter 19 = .ok (.getfield 68, 3) := by decide +kernel
theorem dX0_spotsAfter_22 : decode cX0_spotsAfter 22 = .ok (.iconst 0, 1) := by decide +kernel
theorem dX0_spotsAfter_23 : decode cX0_spotsAfter 23 = .ok (.invokevirtual 71, 3) := by decide +kernel
theorem dX0_spotsAfter_26 : decode cX0_spotsAfter 26 = .ok (.iconst 0, 1) := by decide +kernel
theorem dX0_spotsAfter_27 : decode cX0_spotsAfter 27 = .ok (.istore 4, 2) := by decide +kernel
theorem dX0_spotsAfter_29 : decode cX0_spotsAfter 29 = .ok (.iload 4, 2) := by decide +kernel
theorem dX0_spotsAfter_31 : decode cX0_spotsAfter 31 = .ok (.aload_n 0, 1) := by decide +kernel
theorem dX0_spotsAfter_32 : decode cX0_spotsAfter 32 = .ok (.getfield 12, 3) := by decide +kernel
theorem dX0_spotsAfter_35 : decode cX0_spotsAfter 35 = .ok (.getfield 68, 3) := by decide +kernel
theorem dX0_spotsAfter_38 : decode cX0_spotsAfter 38 = .ok (.if_icmp .ge 26, 3) := by decide +kernel
theorem dX0_spotsAfter_41 : decode cX0_spotsAfter 41 = .ok (.aload_n 3, 1) := by decide +kernel
theorem dX0_spotsAfter_42 : decode cX0_spotsAfter 42 = .ok (.iload 4, 2) := by decide +kernel
theorem dX0_spotsAfter_44 : decode cX0_spotsAfter 44 = .ok (.aload_n 0, 1) := by decide +kernel
theorem dX0_spotsAfter_45 : decode cX0_spotsAfter 45 = .ok (.getfield 12, 3) := by decide +kernel
theorem dX0_spotsAfter_48 : decode cX0_spotsAfter 48 = .ok (.getfield 37, 3) := by decide +kernel
theorem dX0_spotsAfter_51 : decode cX0_spotsAfter 51 = .ok (.iload 4, 2) := by decide +kernel
theorem dX0_spotsAfter_53 : decode cX0_spotsAfter 53 = .ok (.iaload, 1) := by decide +kernel
theorem dX0_spotsAfter_54 : decode cX0_spotsAfter 54 = .ok (.invokevirtual 77, 3) := by decide +kernel
theorem dX0_spotsAfter_57 : decode cX0_spotsAfter 57 = .ok (.pop, 1) := by decide +kernel
theorem dX0_spotsAfter_58 : decode cX0_spotsAfter 58 = .ok (.iinc 4 1, 3) := by decide +kernel
theorem dX0_spotsAfter_61 : decode cX0_spotsAfter 61 = .ok (.goto (-32), 3) := by decide +kernel
theorem dX0_spotsAfter_64 : decode cX0_spotsAfter 64 = .ok (.aload_n 0, 1) := by decide +kernel
theorem dX0_spotsAfter_65 : decode cX0_spotsAfter 65 = .ok (.getfield 12, 3) := by decide +kernel
theorem dX0_spotsAfter_68 : decode cX0_spotsAfter 68 = .ok (.invokevirtual 80, 3) := by decide +kernel
theorem dX0_spotsAfter_71 : decode cX0_spotsAfter 71 = .ok (.ireturn, 1) := by decide +kernel
theorem dX0_bestOrder_0 : decode cX0_bestOrder 0 = .ok (.aload_n 0, 1) := by decide +kernel
theorem dX0_bestOrder_1 : decode cX0_bestOrder 1 = .ok (.getfield 12, 3) := by decide +kernel
theorem dX0_bestOrder_4 : decode cX0_bestOrder 4 = .ok (.aload_n 1, 1) := by decide +kernel
theorem dX0_bestOrder_5 : decode cX0_bestOrder 5 = .ok (.invokevirtual 33, 3) := by decide +kernel
theorem dX0_bestOrder_8 : decode cX0_bestOrder 8 = .ok (.aload_n 3, 1) := by decide +kernel
theorem dX0_bestOrder_9 : decode cX0_bestOrder 9 = .ok (.aload_n 1, 1) := by decide +kernel
theorem dX0_bestOrder_10 : decode cX0_bestOrder 10 = .ok (.getfield 68, 3) := by decide +kernel
theorem dX0_bestOrder_13 : decode cX0_bestOrder 13 = .ok (.iconst 0, 1) := by decide +kernel
theorem dX0_bestOrder_14 : decode cX0_bestOrder 14 = .ok (.invokevirtual 71, 3) := by decide +kernel
theorem dX0_bestOrder_17 : decode cX0_bestOrder 17 = .ok (.iconst 0, 1) := by decide +kernel
theorem dX0_bestOrder_18 : decode cX0_bestOrder 18 = .ok (.istore 4, 2) := by decide +kernel
theorem dX0_bestOrder_20 : decode cX0_bestOrder 20 = .ok (.iload 4, 2) := by decide +kernel
theorem dX0_bestOrder_22 : decode cX0_bestOrder 22 = .ok (.aload_n 1, 1) := by decide +kernel
theorem dX0_bestOrder_23 : decode cX0_bestOrder 23 = .ok (.getfield 68, 3) := by decide +kernel
theorem dX0_bestOrder_26 : decode cX0_bestOrder 26 = .ok (.if_icmp .ge 18, 3) := by decide +kernel
theorem dX0_bestOrder_29 : decode cX0_bestOrder 29 = .ok (.aload_n 0, 1) := by decide +kernel
theorem dX0_bestOrder_30 : decode cX0_bestOrder 30 = .ok (.getfield 18, 3) := by decide +kernel
theorem dX0_bestOrder_33 : decode cX0_bestOrder 33 = .ok (.iload 4, 2) := by decide +kernel
theorem dX0_bestOrder_35 : decode cX0_bestOrder 35 = .ok (.iload 4, 2) := by decide +kernel
theorem dX0_bestOrder_37 : decode cX0_bestOrder 37 = .ok (.iastore, 1) := by decide +kernel
theorem dX0_bestOrder_38 : decode cX0_bestOrder 38 = .ok (.iinc 4 1, 3) := by decide +kernel
theorem dX0_bestOrder_41 : decode cX0_bestOrder 41 = .ok (.goto (-21), 3) := by decide +kernel
theorem dX0_bestOrder_44 : decode cX0_bestOrder 44 = .ok (.iconst (-1), 1) := by decide +kernel
theorem dX0_bestOrder_45 : decode cX0_bestOrder 45 = .ok (.istore 4, 2) := by decide +kernel
theorem dX0_bestOrder_47 : decode cX0_bestOrder 47 = .ok (.iconst 1, 1) := by decide +kernel
theorem dX0_bestOrder_48 : decode cX0_bestOrder 48 = .ok (.istore 5, 2) := by decide +kernel
theorem dX0_bestOrder_50 : decode cX0_bestOrder 50 = .ok (.iconst 0, 1) := by decide +kernel
theorem dX0_bestOrder_51 : decode cX0_bestOrder 51 = .ok (.istore 6, 2) := by decide +kernel
theorem dX0_bestOrder_53 : decode cX0_bestOrder 53 = .ok (.iload 6, 2) := by decide +kernel
theorem dX0_bestOrder_55 : decode cX0_bestOrder 55 = .ok (.sipush 720, 3) := by decide +kernel
theorem dX0_bestOrder_58 : decode cX0_bestOrder 58 = .ok (.if_icmp .ge 60, 3) := by decide +kernel
theorem dX0_bestOrder_61 : decode cX0_bestOrder 61 = .ok (.iload 5, 2) := by decide +kernel
theorem dX0_bestOrder_63 : decode cX0_bestOrder 63 = .ok (.ifCond .eq 55, 3) := by decide +kernel
theorem dX0_bestOrder_66 : decode cX0_bestOrder 66 = .ok (.aload_n 0, 1) := by decide +kernel
theorem dX0_bestOrder_67 : decode cX0_bestOrder 67 = .ok (.getfield 12, 3) := by decide +kernel
theorem dX0_bestOrder_70 : decode cX0_bestOrder 70 = .ok (.aload_n 1, 1) := by decide +kernel
theorem dX0_bestOrder_71 : decode cX0_bestOrder 71 = .ok (.invokevirtual 83, 3) := by decide +kernel
theorem dX0_bestOrder_74 : decode cX0_bestOrder 74 = .ok (.aload_n 0, 1) := by decide +kernel
theorem dX0_bestOrder_75 : decode cX0_bestOrder 75 = .ok (.aload_n 1, 1) := by decide +kernel
theorem dX0_bestOrder_76 : decode cX0_bestOrder 76 = .ok (.invokevirtual 86, 3) := by decide +kernel
theorem dX0_bestOrder_79 : decode cX0_bestOrder 79 = .ok (.aload_n 0, 1) := by decide +kernel
theorem dX0_bestOrder_80 : decode cX0_bestOrder 80 = .ok (.iload_n 2, 1) := by decide +kernel
theorem dX0_bestOrder_81 : decode cX0_bestOrder 81 = .ok (.invokevirtual 48, 3) := by decide +kernel
theorem dX0_bestOrder_84 : decode cX0_bestOrder 84 = .ok (.istore 7, 2) := by decide +kernel
theorem dX0_bestOrder_86 : decode cX0_bestOrder 86 = .ok (.iload 7, 2) := by decide +kernel
theorem dX0_bestOrder_88 : decode cX0_bestOrder 88 = .ok (.iload 4, 2) := by decide +kernel
theorem dX0_bestOrder_90 : decode cX0_bestOrder 90 = .ok (.if_icmp .le 12, 3) := by decide +kernel
theorem dX0_bestOrder_93 : decode cX0_bestOrder 93 = .ok (.iload 7, 2) := by decide +kernel
theorem dX0_bestOrder_95 : decode cX0_bestOrder 95 = .ok (.istore 4, 2) := by decide +kernel
theorem dX0_bestOrder_97 : decode cX0_bestOrder 97 = .ok (.aload_n 0, 1) := by decide +kernel
theorem dX0_bestOrder_98 : decode cX0_bestOrder 98 = .ok (.aload_n 3, 1) := by decide +kernel
theorem dX0_bestOrder_99 : decode cX0_bestOrder 99 = .ok (.invokevirtual 89, 3) := by decide +kernel
theorem dX0_bestOrder_102 : decode cX0_bestOrder 102 = .ok (.aload_n 0, 1) := by decide +kernel
theorem dX0_bestOrder_103 : decode cX0_bestOrder 103 = .ok (.aload_n 1, 1) := by decide +kernel
theorem dX0_bestOrder_104 : decode cX0_bestOrder 104 = .ok (.getfield 68, 3) := by decide +kernel
theorem dX0_bestOrder_107 : decode cX0_bestOrder 107 = .ok (.invokevirtual 93, 3) := by decide +kernel
theorem dX0_bestOrder_110 : decode cX0_bestOrder 110 = .ok (.istore 5, 2) := by decide +kernel
theorem dX0_bestOrder_112 : decode cX0_bestOrder 112 = .ok (.iinc 6 1, 3) := by decide +kernel
theorem dX0_bestOrder_115 : decode cX0_bestOrder 115 = .ok (.goto (-62), 3) := by decide +kernel
theorem dX0_bestOrder_118 : decode cX0_bestOrder 118 = .ok (.iload 4, 2) := by decide +kernel
theorem dX0_bestOrder_120 : decode cX0_bestOrder 120 = .ok (.ireturn, 1) := by decide +kernel
theorem dX0_shareWants_0 : decode cX0_shareWants 0 = .ok (.iconst 0, 1) := by decide +kernel
theorem dX0_shareWants_1 : decode cX0_shareWants 1 = .ok (.istore_n 2, 1) := by decide +kernel
theorem dX0_shareWants_2 : decode cX0_shareWants 2 = .ok (.iload_n 2, 1) := by decide +kernel
theorem dX0_shareWants_3 : decode cX0_shareWants 3 = .ok (.aload_n 1, 1) := by decide +kernel
theorem dX0_shareWants_4 : decode cX0_shareWants 4 = .ok (.getfield 68, 3) := by decide +kernel
theorem dX0_shareWants_7 : decode cX0_shareWants 7 = .ok (.if_icmp .ge 29, 3) := by decide +kernel
theorem dX0_shareWants_10 : decode cX0_shareWants 10 = .ok (.aload_n 0, 1) := by decide +kernel
theorem dX0_shareWants_11 : decode cX0_shareWants 11 = .ok (.getfield 12, 3) := by decide +kernel
theorem dX0_shareWants_14 : decode cX0_shareWants 14 = .ok (.getfield 30, 3) := by decide +kernel
theorem dX0_shareWants_17 : decode cX0_shareWants 17 = .ok (.iload_n 2, 1) := by decide +kernel
theorem dX0_shareWants_18 : decode cX0_shareWants 18 = .ok (.aload_n 1, 1) := by decide +kernel
theorem dX0_shareWants_19 : decode cX0_shareWants 19 = .ok (.getfield 30, 3) := by decide +kernel
theorem dX0_shareWants_22 : decode cX0_shareWants 22 = .ok (.aload_n 0, 1) := by decide +kernel
theorem dX0_shareWants_23 : decode cX0_shareWants 23 = .ok (.getfield 18, 3) := by decide +kernel
theorem dX0_shareWants_26 : decode cX0_shareWants 26 = .ok (.iload_n 2, 1) := by decide +kernel
theorem dX0_shareWants_27 : decode cX0_shareWants 27 = .ok (.iaload, 1) := by decide +kernel
theorem dX0_shareWants_28 : decode cX0_shareWants 28 = .ok (.iaload, 1) := by decide +kernel
theorem dX0_shareWants_29 : decode cX0_shareWants 29 = .ok (.iastore, 1) := by decide +kernel
theorem dX0_shareWants_30 : decode cX0_shareWants 30 = .ok (.iinc 2 1, 3) := by decide +kernel
theorem dX0_shareWants_33 : decode cX0_shareWants 33 = .ok (.goto (-31), 3) := by decide +kernel
theorem dX0_shareWants_36 : decode cX0_shareWants 36 = .ok (.return_, 1) := by decide +kernel
theorem dX0_layOrder_0 : decode cX0_layOrder 0 = .ok (.iconst 0, 1) := by decide +kernel
theorem dX0_layOrder_1 : decode cX0_layOrder 1 = .ok (.istore_n 2, 1) := by decide +kernel
theorem dX0_layOrder_2 : decode cX0_layOrder 2 = .ok (.iload_n 2, 1) := by decide +kernel
theorem dX0_layOrder_3 : decode cX0_layOrder 3 = .ok (.aload_n 1, 1) := by decide +kernel
theorem dX0_layOrder_4 : decode cX0_layOrder 4 = .ok (.invokevirtual 97, 3) := by decide +kernel
theorem dX0_layOrder_7 : decode cX0_layOrder 7 = .ok (.if_icmp .ge 21, 3) := by decide +kernel
theorem dX0_layOrder_10 : decode cX0_layOrder 10 = .ok (.aload_n 1, 1) := by decide +kernel
theorem dX0_layOrder_11 : decode cX0_layOrder 11 = .ok (.iload_n 2, 1) := by decide +kernel
theorem dX0_layOrder_12 : decode cX0_layOrder 12 = .ok (.aload_n 0, 1) := by decide +kernel
theorem dX0_layOrder_13 : decode cX0_layOrder 13 = .ok (.getfield 18, 3) := by decide +kernel
theorem dX0_layOrder_16 : decode cX0_layOrder 16 = .ok (.iload_n 2, 1) := by decide +kernel
theorem dX0_layOrder_17 : decode cX0_layOrder 17 = .ok (.iaload, 1) := by decide +kernel
theorem dX0_layOrder_18 : decode cX0_layOrder 18 = .ok (.invokevirtual 77, 3) := by decide +kernel
theorem dX0_layOrder_21 : decode cX0_layOrder 21 = .ok (.pop, 1) := by decide +kernel
theorem dX0_layOrder_22 : decode cX0_layOrder 22 = .ok (.iinc 2 1, 3) := by decide +kernel
theorem dX0_layOrder_25 : decode cX0_layOrder 25 = .ok (.goto (-23), 3) := by decide +kernel
theorem dX0_layOrder_28 : decode cX0_layOrder 28 = .ok (.return_, 1) := by decide +kernel
theorem dX0_nextOrder_0 : decode cX0_nextOrder 0 = .ok (.iload_n 1, 1) := by decide +kernel
theorem dX0_nextOrder_1 : decode cX0_nextOrder 1 = .ok (.iconst 2, 1) := by decide +kernel
theorem dX0_nextOrder_2 : decode cX0_nextOrder 2 = .ok (.isub, 1) := by decide +kernel
theorem dX0_nextOrder_3 : decode cX0_nextOrder 3 = .ok (.istore_n 2, 1) := by decide +kernel
theorem dX0_nextOrder_4 : decode cX0_nextOrder 4 = .ok (.iload_n 2, 1) := by decide +kernel
theorem dX0_nextOrder_5 : decode cX0_nextOrder 5 = .ok (.ifCond .lt 26, 3) := by decide +kernel
theorem dX0_nextOrder_8 : decode cX0_nextOrder 8 = .ok (.aload_n 0, 1) := by decide +kernel
theorem dX0_nextOrder_9 : decode cX0_nextOrder 9 = .ok (.getfield 18, 3) := by decide +kernel
theorem dX0_nextOrder_12 : decode cX0_nextOrder 12 = .ok (.iload_n 2, 1) := by decide +kernel
theorem dX0_nextOrder_13 : decode cX0_nextOrder 13 = .ok (.iaload, 1) := by decide +kernel
theorem dX0_nextOrder_14 : decode cX0_nextOrder 14 = .ok (.aload_n 0, 1) := by decide +kernel
theorem dX0_nextOrder_15 : decode cX0_nextOrder 15 = .ok (.getfield 18, 3) := by decide +kernel
theorem dX0_nextOrder_18 : decode cX0_nextOrder 18 = .ok (.iload_n 2, 1) := by decide +kernel
theorem dX0_nextOrder_19 : decode cX0_nextOrder 19 = .ok (.iconst 1, 1) := by decide +kernel
theorem dX0_nextOrder_20 : decode cX0_nextOrder 20 = .ok (.iadd, 1) := by decide +kernel
theorem dX0_nextOrder_21 : decode cX0_nextOrder 21 = .ok (.iaload, 1) := by decide +kernel
theorem dX0_nextOrder_22 : decode cX0_nextOrder 22 = .ok (.if_icmp .le 9, 3) := by decide +kernel
theorem dX0_nextOrder_25 : decode cX0_nextOrder 25 = .ok (.iinc 2 (-1), 3) := by decide +kernel
theorem dX0_nextOrder_28 : decode cX0_nextOrder 28 = .ok (.goto (-24), 3) := by decide +kernel
theorem dX0_nextOrder_31 : decode cX0_nextOrder 31 = .ok (.iload_n 2, 1) := by decide +kernel
theorem dX0_nextOrder_32 : decode cX0_nextOrder 32 = .ok (.ifCond .ge 5, 3) := by decide +kernel
theorem dX0_nextOrder_35 : decode cX0_nextOrder 35 = .ok (.iconst 0, 1) := by decide +kernel
theorem dX0_nextOrder_36 : decode cX0_nextOrder 36 = .ok (.ireturn, 1) := by decide +kernel
theorem dX0_nextOrder_37 : decode cX0_nextOrder 37 = .ok (.iload_n 1, 1) := by decide +kernel
theorem dX0_nextOrder_38 : decode cX0_nextOrder 38 = .ok (.iconst 1, 1) := by decide +kernel
theorem dX0_nextOrder_39 : decode cX0_nextOrder 39 = .ok (.isub, 1) := by decide +kernel
theorem dX0_nextOrder_40 : decode cX0_nextOrder 40 = .ok (.istore_n 3, 1) := by decide +kernel
theorem dX0_nextOrder_41 : decode cX0_nextOrder 41 = .ok (.iload_n 3, 1) := by decide +kernel
theorem dX0_nextOrder_42 : decode cX0_nextOrder 42 = .ok (.iload_n 2, 1) := by decide +kernel
theorem dX0_nextOrder_43 : decode cX0_nextOrder 43 = .ok (.if_icmp .le 24, 3) := by decide +kernel
theorem dX0_nextOrder_46 : decode cX0_nextOrder 46 = .ok (.aload_n 0, 1) := by decide +kernel
theorem dX0_nextOrder_47 : decode cX0_nextOrder 47 = .ok (.getfield 18, 3) := by decide +kernel
theorem dX0_nextOrder_50 : decode cX0_nextOrder 50 = .ok (.iload_n 3, 1) := by decide +kernel
theorem dX0_nextOrder_51 : decode cX0_nextOrder 51 = .ok (.iaload, 1) := by decide +kernel
theorem dX0_nextOrder_52 : decode cX0_nextOrder 52 = .ok (.aload_n 0, 1) := by decide +kernel
theorem dX0_nextOrder_53 : decode cX0_nextOrder 53 = .ok (.getfield 18, 3) := by decide +kernel
theorem dX0_nextOrder_56 : decode cX0_nextOrder 56 = .ok (.iload_n 2, 1) := by decide +kernel
theorem dX0_nextOrder_57 : decode cX0_nextOrder 57 = .ok (.iaload, 1) := by decide +kernel
theorem dX0_nextOrder_58 : decode cX0_nextOrder 58 = .ok (.if_icmp .ge 9, 3) := by decide +kernel
theorem dX0_nextOrder_61 : decode cX0_nextOrder 61 = .ok (.iinc 3 (-1), 3) := by decide +kernel
theorem dX0_nextOrder_64 : decode cX0_nextOrder 64 = .ok (.goto (-23), 3) := by decide +kernel
theorem dX0_nextOrder_67 : decode cX0_nextOrder 67 = .ok (.aload_n 0, 1) := by decide +kernel
theorem dX0_nextOrder_68 : decode cX0_nextOrder 68 = .ok (.iload_n 2, 1) := by decide +kernel
theorem dX0_nextOrder_69 : decode cX0_nextOrder 69 = .ok (.iload_n 3, 1) := by decide +kernel
theorem dX0_nextOrder_70 : decode cX0_nextOrder 70 = .ok (.invokevirtual 100, 3) := by decide +kernel
theorem dX0_nextOrder_73 : decode cX0_nextOrder 73 = .ok (.iload_n 2, 1) := by decide +kernel
theorem dX0_nextOrder_74 : decode cX0_nextOrder 74 = .ok (.iconst 1, 1) := by decide +kernel
theorem dX0_nextOrder_75 : decode cX0_nextOrder 75 = .ok (.iadd, 1) := by decide +kernel
theorem dX0_nextOrder_76 : decode cX0_nextOrder 76 = .ok (.istore 4, 2) := by decide +kernel
theorem dX0_nextOrder_78 : decode cX0_nextOrder 78 = .ok (.iload_n 1, 1) := by decide +kernel
theorem dX0_nextOrder_79 : decode cX0_nextOrder 79 = .ok (.iconst 1, 1) := by decide +kernel
theorem dX0_nextOrder_80 : decode cX0_nextOrder 80 = .ok (.isub, 1) := by decide +kernel
theorem dX0_nextOrder_81 : decode cX0_nextOrder 81 = .ok (.istore 5, 2) := by decide +kernel
theorem dX0_nextOrder_83 : decode cX0_nextOrder 83 = .ok (.iload 4, 2) := by decide +kernel
theorem dX0_nextOrder_85 : decode cX0_nextOrder 85 = .ok (.iload 5, 2) := by decide +kernel
theorem dX0_nextOrder_87 : decode cX0_nextOrder 87 = .ok (.if_icmp .ge 20, 3) := by decide +kernel
theorem dX0_nextOrder_90 : decode cX0_nextOrder 90 = .ok (.aload_n 0, 1) := by decide +kernel
theorem dX0_nextOrder_91 : decode cX0_nextOrder 91 = .ok (.iload 4, 2) := by decide +kernel
theorem dX0_nextOrder_93 : decode cX0_nextOrder 93 = .ok (.iload 5, 2) := by decide +kernel
theorem dX0_nextOrder_95 : decode cX0_nextOrder 95 = .ok (.invokevirtual 100, 3) := by decide +kernel
theorem dX0_nextOrder_98 : decode cX0_nextOrder 98 = .ok (.iinc 4 1, 3) := by decide +kernel
theorem dX0_nextOrder_101 : decode cX0_nextOrder 101 = .ok (.iinc 5 (-1), 3) := by decide +kernel
theorem dX0_nextOrder_104 : decode cX0_nextOrder 104 = .ok (.goto (-21), 3) := by decide +kernel
theorem dX0_nextOrder_107 : decode cX0_nextOrder 107 = .ok (.iconst 1, 1) := by decide +kernel
theorem dX0_nextOrder_108 : decode cX0_nextOrder 108 = .ok (.ireturn, 1) := by decide +kernel
theorem dX0_swap_0 : decode cX0_swap 0 = .ok (.aload_n 0, 1) := by decide +kernel
theorem dX0_swap_1 : decode cX0_swap 1 = .ok (.getfield 18, 3) := by decide +kernel
theorem dX0_swap_4 : decode cX0_swap 4 = .ok (.iload_n 1, 1) := by decide +kernel
theorem dX0_swap_5 : decode cX0_swap 5 = .ok (.iaload, 1) := by decide +kernel
theorem dX0_swap_6 : decode cX0_swap 6 = .ok (.istore_n 3, 1) := by decide +kernel
theorem dX0_swap_7 : decode cX0_swap 7 = .ok (.aload_n 0, 1) := by decide +kernel
theorem dX0_swap_8 : decode cX0_swap 8 = .ok (.getfield 18, 3) := by decide +kernel
theorem dX0_swap_11 : decode cX0_swap 11 = .ok (.iload_n 1, 1) := by decide +kernel
theorem dX0_swap_12 : decode cX0_swap 12 = .ok (.aload_n 0, 1) := by decide +kernel
theorem dX0_swap_13 : decode cX0_swap 13 = .ok (.getfield 18, 3) := by decide +kernel
theorem dX0_swap_16 : decode cX0_swap 16 = .ok (.iload_n 2, 1) := by decide +kernel
theorem dX0_swap_17 : decode cX0_swap 17 = .ok (.iaload, 1) := by decide +kernel
theorem dX0_swap_18 : decode cX0_swap 18 = .ok (.iastore, 1) := by decide +kernel
theorem dX0_swap_19 : decode cX0_swap 19 = .ok (.aload_n 0, 1) := by decide +kernel
theorem dX0_swap_20 : decode cX0_swap 20 = .ok (.getfield 18, 3) := by decide +kernel
theorem dX0_swap_23 : decode cX0_swap 23 = .ok (.iload_n 2, 1) := by decide +kernel
theorem dX0_swap_24 : decode cX0_swap 24 = .ok (.iload_n 3, 1) := by decide +kernel
theorem dX0_swap_25 : decode cX0_swap 25 = .ok (.iastore, 1) := by decide +kernel
theorem dX0_swap_26 : decode cX0_swap 26 = .ok (.return_, 1) := by decide +kernel
theorem dX0_bestPlace_0 : decode cX0_bestPlace 0 = .ok (.iconst 0, 1) := by decide +kernel
theorem dX0_bestPlace_1 : decode cX0_bestPlace 1 = .ok (.istore 4, 2) := by decide +kernel
theorem dX0_bestPlace_3 : decode cX0_bestPlace 3 = .ok (.aload_n 0, 1) := by decide +kernel
theorem dX0_bestPlace_4 : decode cX0_bestPlace 4 = .ok (.iconst (-1), 1) := by decide +kernel
theorem dX0_bestPlace_5 : decode cX0_bestPlace 5 = .ok (.putfield 44, 3) := by decide +kernel
theorem dX0_bestPlace_8 : decode cX0_bestPlace 8 = .ok (.aload_n 0, 1) := by decide +kernel
theorem dX0_bestPlace_9 : decode cX0_bestPlace 9 = .ok (.getfield 12, 3) := by decide +kernel
theorem dX0_bestPlace_12 : decode cX0_bestPlace 12 = .ok (.aload_n 1, 1) := by decide +kernel
theorem dX0_bestPlace_13 : decode cX0_bestPlace 13 = .ok (.invokevirtual 33, 3) := by decide +kernel
theorem dX0_bestPlace_16 : decode cX0_bestPlace 16 = .ok (.iconst 0, 1) := by decide +kernel
theorem dX0_bestPlace_17 : decode cX0_bestPlace 17 = .ok (.istore 5, 2) := by decide +kernel
theorem dX0_bestPlace_19 : decode cX0_bestPlace 19 = .ok (.iload 5, 2) := by decide +kernel
theorem dX0_bestPlace_21 : decode cX0_bestPlace 21 = .ok (.bipush 20, 2) := by decide +kernel
theorem dX0_bestPlace_23 : decode cX0_bestPlace 23 = .ok (.if_icmp .ge 78, 3) := by decide +kernel
theorem dX0_bestPlace_26 : decode cX0_bestPlace 26 = .ok (.aload_n 0, 1) := by decide +kernel
theorem dX0_bestPlace_27 : decode cX0_bestPlace 27 = .ok (.getfield 12, 3) := by decide +kernel
theorem dX0_bestPlace_30 : decode cX0_bestPlace 30 = .ok (.aload_n 1, 1) := by decide +kernel
theorem dX0_bestPlace_31 : decode cX0_bestPlace 31 = .ok (.invokevirtual 83, 3) := by decide +kernel
theorem dX0_bestPlace_34 : decode cX0_bestPlace 34 = .ok (.aload_n 0, 1) := by decide +kernel
theorem dX0_bestPlace_35 : decode cX0_bestPlace 35 = .ok (.getfield 12, 3) := by decide +kernel
theorem dX0_bestPlace_38 : decode cX0_bestPlace 38 = .ok (.getfield 103, 3) := by decide +kernel
theorem dX0_bestPlace_41 : decode cX0_bestPlace 41 = .ok (.iload_n 2, 1) := by decide +kernel
theorem dX0_bestPlace_42 : decode cX0_bestPlace 42 = .ok (.iload 5, 2) := by decide +kernel
theorem dX0_bestPlace_44 : decode cX0_bestPlace 44 = .ok (.iastore, 1) := by decide +kernel
theorem dX0_bestPlace_45 : decode cX0_bestPlace 45 = .ok (.aload_n 0, 1) := by decide +kernel
theorem dX0_bestPlace_46 : decode cX0_bestPlace 46 = .ok (.getfield 12, 3) := by decide +kernel
theorem dX0_bestPlace_49 : decode cX0_bestPlace 49 = .ok (.invokevirtual 106, 3) := by decide +kernel
theorem dX0_bestPlace_52 : decode cX0_bestPlace 52 = .ok (.aload_n 0, 1) := by decide +kernel
theorem dX0_bestPlace_53 : decode cX0_bestPlace 53 = .ok (.iload_n 3, 1) := by decide +kernel
theorem dX0_bestPlace_54 : decode cX0_bestPlace 54 = .ok (.invokevirtual 48, 3) := by decide +kernel
theorem dX0_bestPlace_57 : decode cX0_bestPlace 57 = .ok (.pop, 1) := by decide +kernel
theorem dX0_bestPlace_58 : decode cX0_bestPlace 58 = .ok (.aload_n 0, 1) := by decide +kernel
theorem dX0_bestPlace_59 : decode cX0_bestPlace 59 = .ok (.getfield 12, 3) := by decide +kernel
theorem dX0_bestPlace_62 : decode cX0_bestPlace 62 = .ok (.getfield 109, 3) := by decide +kernel
theorem dX0_bestPlace_65 : decode cX0_bestPlace 65 = .ok (.iload_n 2, 1) := by decide +kernel
theorem dX0_bestPlace_66 : decode cX0_bestPlace 66 = .ok (.iaload, 1) := by decide +kernel
theorem dX0_bestPlace_67 : decode cX0_bestPlace 67 = .ok (.aload_n 1, 1) := by decide +kernel
theorem dX0_bestPlace_68 : decode cX0_bestPlace 68 = .ok (.getfield 109, 3) := by decide +kernel
theorem dX0_bestPlace_71 : decode cX0_bestPlace 71 = .ok (.iload_n 2, 1) := by decide +kernel
theorem dX0_bestPlace_72 : decode cX0_bestPlace 72 = .ok (.iaload, 1) := by decide +kernel
theorem dX0_bestPlace_73 : decode cX0_bestPlace 73 = .ok (.isub, 1) := by decide +kernel
theorem dX0_bestPlace_74 : decode cX0_bestPlace 74 = .ok (.istore 6, 2) := by decide +kernel
theorem dX0_bestPlace_76 : decode cX0_bestPlace 76 = .ok (.iload 6, 2) := by decide +kernel
theorem dX0_bestPlace_78 : decode cX0_bestPlace 78 = .ok (.aload_n 0, 1) := by decide +kernel
theorem dX0_bestPlace_79 : decode cX0_bestPlace 79 = .ok (.getfield 44, 3) := by decide +kernel
theorem dX0_bestPlace_82 : decode cX0_bestPlace 82 = .ok (.if_icmp .le 13, 3) := by decide +kernel
theorem dX0_bestPlace_85 : decode cX0_bestPlace 85 = .ok (.aload_n 0, 1) := by decide +kernel
theorem dX0_bestPlace_86 : decode cX0_bestPlace 86 = .ok (.iload 6, 2) := by decide +kernel
theorem dX0_bestPlace_88 : decode cX0_bestPlace 88 = .ok (.putfield 44, 3) := by decide +kernel
theorem dX0_bestPlace_91 : decode cX0_bestPlace 91 = .ok (.iload 5, 2) := by decide +kernel
theorem dX0_bestPlace_93 : decode cX0_bestPlace 93 = .ok (.istore 4, 2) := by decide +kernel
theorem dX0_bestPlace_95 : decode cX0_bestPlace 95 = .ok (.iinc 5 1, 3) := by decide +kernel
theorem dX0_bestPlace_98 : decode cX0_bestPlace 98 = .ok (.goto (-79), 3) := by decide +kernel
theorem dX0_bestPlace_101 : decode cX0_bestPlace 101 = .ok (.iload 4, 2) := by decide +kernel
theorem dX0_bestPlace_103 : decode cX0_bestPlace 103 = .ok (.ireturn, 1) := by decide +kernel
theorem dX0_leastMissed_0 : decode cX0_leastMissed 0 = .ok (.aload_n 0, 1) := by decide +kernel
theorem dX0_leastMissed_1 : decode cX0_leastMissed 1 = .ok (.getfield 12, 3) := by decide +kernel
theorem dX0_leastMissed_4 : decode cX0_leastMissed 4 = .ok (.aload_n 1, 1) := by decide +kernel
theorem dX0_leastMissed_5 : decode cX0_leastMissed 5 = .ok (.invokevirtual 33, 3) := by decide +kernel
theorem dX0_leastMissed_8 : decode cX0_leastMissed 8 = .ok (.aload_n 0, 1) := by decide +kernel
theorem dX0_leastMissed_9 : decode cX0_leastMissed 9 = .ok (.iload_n 2, 1) := by decide +kernel
theorem dX0_leastMissed_10 : decode cX0_leastMissed 10 = .ok (.invokevirtual 48, 3) := by decide +kernel
theorem dX0_leastMissed_13 : decode cX0_leastMissed 13 = .ok (.istore_n 3, 1) := by decide +kernel
theorem dX0_leastMissed_14 : decode cX0_leastMissed 14 = .ok (.aload_n 0, 1) := by decide +kernel
theorem dX0_leastMissed_15 : decode cX0_leastMissed 15 = .ok (.aload_n 1, 1) := by decide +kernel
theorem dX0_leastMissed_16 : decode cX0_leastMissed 16 = .ok (.invokevirtual 112, 3) := by decide +kernel
theorem dX0_leastMissed_19 : decode cX0_leastMissed 19 = .ok (.istore 4, 2) := by decide +kernel
theorem dX0_leastMissed_21 : decode cX0_leastMissed 21 = .ok (.iconst 0, 1) := by decide +kernel
theorem dX0_leastMissed_22 : decode cX0_leastMissed 22 = .ok (.istore 5, 2) := by decide +kernel
theorem dX0_leastMissed_24 : decode cX0_leastMissed 24 = .ok (.iconst 0, 1) := by decide +kernel
theorem dX0_leastMissed_25 : decode cX0_leastMissed 25 = .ok (.istore 6, 2) := by decide +kernel
theorem dX0_leastMissed_27 : decode cX0_leastMissed 27 = .ok (.iload 6, 2) := by decide +kernel
theorem dX0_leastMissed_29 : decode cX0_leastMissed 29 = .ok (.aload_n 1, 1) := by decide +kernel
theorem dX0_leastMissed_30 : decode cX0_leastMissed 30 = .ok (.getfield 68, 3) := by decide +kernel
theorem dX0_leastMissed_33 : decode cX0_leastMissed 33 = .ok (.if_icmp .ge 81, 3) := by decide +kernel
theorem dX0_leastMissed_36 : decode cX0_leastMissed 36 = .ok (.aload_n 0, 1) := by decide +kernel
theorem dX0_leastMissed_37 : decode cX0_leastMissed 37 = .ok (.getfield 12, 3) := by decide +kernel
theorem dX0_leastMissed_40 : decode cX0_leastMissed 40 = .ok (.aload_n 1, 1) := by decide +kernel
theorem dX0_leastMissed_41 : decode cX0_leastMissed 41 = .ok (.invokevirtual 83, 3) := by decide +kernel
theorem dX0_leastMissed_44 : decode cX0_leastMissed 44 = .ok (.aload_n 0, 1) := by decide +kernel
theorem dX0_leastMissed_45 : decode cX0_leastMissed 45 = .ok (.getfield 12, 3) := by decide +kernel
theorem dX0_leastMissed_48 : decode cX0_leastMissed 48 = .ok (.getfield 30, 3) := by decide +kernel
theorem dX0_leastMissed_51 : decode cX0_leastMissed 51 = .ok (.iload 6, 2) := by decide +kernel
theorem dX0_leastMissed_53 : decode cX0_leastMissed 53 = .ok (.iconst 4, 1) := by decide +kernel
theorem dX0_leastMissed_54 : decode cX0_leastMissed 54 = .ok (.iastore, 1) := by decide +kernel
theorem dX0_leastMissed_55 : decode cX0_leastMissed 55 = .ok (.iload_n 3, 1) := by decide +kernel
theorem dX0_leastMissed_56 : decode cX0_leastMissed 56 = .ok (.iload 4, 2) := by decide +kernel
theorem dX0_leastMissed_58 : decode cX0_leastMissed 58 = .ok (.iload 6, 2) := by decide +kernel
theorem dX0_leastMissed_60 : decode cX0_leastMissed 60 = .ok (.invokestatic 116, 3) := by decide +kernel
theorem dX0_leastMissed_63 : decode cX0_leastMissed 63 = .ok (.ifCond .eq 7, 3) := by decide +kernel
theorem dX0_leastMissed_66 : decode cX0_leastMissed 66 = .ok (.iconst 1, 1) := by decide +kernel
theorem dX0_leastMissed_67 : decode cX0_leastMissed 67 = .ok (.goto 4, 3) := by decide +kernel
theorem dX0_leastMissed_70 : decode cX0_leastMissed 70 = .ok (.iconst 0, 1) := by decide +kernel
theorem dX0_leastMissed_71 : decode cX0_leastMissed 71 = .ok (.isub, 1) := by decide +kernel
theorem dX0_leastMissed_72 : decode cX0_leastMissed 72 = .ok (.istore 7, 2) := by decide +kernel
theorem dX0_leastMissed_74 : decode cX0_leastMissed 74 = .ok (.iload 7, 2) := by decide +kernel
theorem dX0_leastMissed_76 : decode cX0_leastMissed 76 = .ok (.aload_n 0, 1) := by decide +kernel
theorem dX0_leastMissed_77 : decode cX0_leastMissed 77 = .ok (.iload_n 2, 1) := by decide +kernel
theorem dX0_leastMissed_78 : decode cX0_leastMissed 78 = .ok (.invokevirtual 48, 3) := by decide +kernel
theorem dX0_leastMissed_81 : decode cX0_leastMissed 81 = .ok (.isub, 1) := by decide +kernel
theorem dX0_leastMissed_82 : decode cX0_leastMissed 82 = .ok (.istore 8, 2) := by decide +kernel
theorem dX0_leastMissed_84 : decode cX0_leastMissed 84 = .ok (.iload 6, 2) := by decide +kernel
theorem dX0_leastMissed_86 : decode cX0_leastMissed 86 = .ok (.ifCond .eq 12, 3) := by decide +kernel
theorem dX0_leastMissed_89 : decode cX0_leastMissed 89 = .ok (.iload 8, 2) := by decide +kernel
theorem dX0_leastMissed_91 : decode cX0_leastMissed 91 = .ok (.aload_n 0, 1) := by decide +kernel
theorem dX0_leastMissed_92 : decode cX0_leastMissed 92 = .ok (.getfield 44, 3) := by decide +kernel
theorem dX0_leastMissed_95 : decode cX0_leastMissed 95 = .ok (.if_icmp .ge 13, 3) := by decide +kernel
theorem dX0_leastMissed_98 : decode cX0_leastMissed 98 = .ok (.aload_n 0, 1) := by decide +kernel
theorem dX0_leastMissed_99 : decode cX0_leastMissed 99 = .ok (.iload 8, 2) := by decide +kernel
theorem dX0_leastMissed_101 : decode cX0_leastMissed 101 = .ok (.putfield 44, 3) := by decide +kernel
theorem dX0_leastMissed_104 : decode cX0_leastMissed 104 = .ok (.iload 6, 2) := by decide +kernel
theorem dX0_leastMissed_106 : decode cX0_leastMissed 106 = .ok (.istore 5, 2) := by decide +kernel
theorem dX0_leastMissed_108 : decode cX0_leastMissed 108 = .ok (.iinc 6 1, 3) := by decide +kernel
theorem dX0_leastMissed_111 : decode cX0_leastMissed 111 = .ok (.goto (-84), 3) := by decide +kernel
theorem dX0_leastMissed_114 : decode cX0_leastMissed 114 = .ok (.iload 5, 2) := by decide +kernel
theorem dX0_leastMissed_116 : decode cX0_leastMissed 116 = .ok (.ireturn, 1) := by decide +kernel
theorem dX0_whoBought_0 : decode cX0_whoBought 0 = .ok (.iconst 0, 1) := by decide +kernel
theorem dX0_whoBought_1 : decode cX0_whoBought 1 = .ok (.istore_n 2, 1) := by decide +kernel
theorem dX0_whoBought_2 : decode cX0_whoBought 2 = .ok (.iconst 0, 1) := by decide +kernel
theorem dX0_whoBought_3 : decode cX0_whoBought 3 = .ok (.istore_n 3, 1) := by decide +kernel
theorem dX0_whoBought_4 : decode cX0_whoBought 4 = .ok (.iload_n 3, 1) := by decide +kernel
theorem dX0_whoBought_5 : decode cX0_whoBought 5 = .ok (.aload_n 1, 1) := by decide +kernel
theorem dX0_whoBought_6 : decode cX0_whoBought 6 = .ok (.getfield 68, 3) := by decide +kernel
theorem dX0_whoBought_9 : decode cX0_whoBought 9 = .ok (.if_icmp .ge 33, 3) := by decide +kernel
theorem dX0_whoBought_12 : decode cX0_whoBought 12 = .ok (.aload_n 1, 1) := by decide +kernel
theorem dX0_whoBought_13 : decode cX0_whoBought 13 = .ok (.getfield 30, 3) := by decide +kernel
theorem dX0_whoBought_16 : decode cX0_whoBought 16 = .ok (.iload_n 3, 1) := by decide +kernel
theorem dX0_whoBought_17 : decode cX0_whoBought 17 = .ok (.iaload, 1) := by decide +kernel
theorem dX0_whoBought_18 : decode cX0_whoBought 18 = .ok (.aload_n 0, 1) := by decide +kernel
theorem dX0_whoBought_19 : decode cX0_whoBought 19 = .ok (.getfield 12, 3) := by decide +kernel
theorem dX0_whoBought_22 : decode cX0_whoBought 22 = .ok (.getfield 30, 3) := by decide +kernel
theorem dX0_whoBought_25 : decode cX0_whoBought 25 = .ok (.iload_n 3, 1) := by decide +kernel
theorem dX0_whoBought_26 : decode cX0_whoBought 26 = .ok (.iaload, 1) := by decide +kernel
theorem dX0_whoBought_27 : decode cX0_whoBought 27 = .ok (.if_icmp .eq 9, 3) := by decide +kernel
theorem dX0_whoBought_30 : decode cX0_whoBought 30 = .ok (.iload_n 2, 1) := by decide +kernel
theorem dX0_whoBought_31 : decode cX0_whoBought 31 = .ok (.iconst 1, 1) := by decide +kernel
theorem dX0_whoBought_32 : decode cX0_whoBought 32 = .ok (.iload_n 3, 1) := by decide +kernel
theorem dX0_whoBought_33 : decode cX0_whoBought 33 = .ok (.ishl, 1) := by decide +kernel
theorem dX0_whoBought_34 : decode cX0_whoBought 34 = .ok (.ior, 1) := by decide +kernel
theorem dX0_whoBought_35 : decode cX0_whoBought 35 = .ok (.istore_n 2, 1) := by decide +kernel
theorem dX0_whoBought_36 : decode cX0_whoBought 36 = .ok (.iinc 3 1, 3) := by decide +kernel
theorem dX0_whoBought_39 : decode cX0_whoBought 39 = .ok (.goto (-35), 3) := by decide +kernel
theorem dX0_whoBought_42 : decode cX0_whoBought 42 = .ok (.iload_n 2, 1) := by decide +kernel
theorem dX0_whoBought_43 : decode cX0_whoBought 43 = .ok (.ireturn, 1) := by decide +kernel
theorem dX1_init_0 : decode cX1_init 0 = .ok (.aload_n 0, 1) := by decide +kernel
theorem dX1_init_1 : decode cX1_init 1 = .ok (.invokespecial 3, 3) := by decide +kernel
theorem dX1_init_4 : decode cX1_init 4 = .ok (.aload_n 0, 1) := by decide +kernel
theorem dX1_init_5 : decode cX1_init 5 = .ok (.sipush 1440, 3) := by decide +kernel
theorem dX1_init_8 : decode cX1_init 8 = .ok (.newarray .int, 2) := by decide +kernel
theorem dX1_init_10 : decode cX1_init 10 = .ok (.putfield 11, 3) := by decide +kernel
theorem dX1_init_13 : decode cX1_init 13 = .ok (.return_, 1) := by decide +kernel
theorem dX1_first_0 : decode cX1_first 0 = .ok (.aload_n 0, 1) := by decide +kernel
theorem dX1_first_1 : decode cX1_first 1 = .ok (.getfield 15, 3) := by decide +kernel
theorem dX1_first_4 : decode cX1_first 4 = .ok (.ireturn, 1) := by decide +kernel
theorem dX1_beginAt_0 : decode cX1_beginAt 0 = .ok (.aload_n 0, 1) := by decide +kernel
theorem dX1_beginAt_1 : decode cX1_beginAt 1 = .ok (.iload_n 1, 1) := by decide +kernel
theorem dX1_beginAt_2 : decode cX1_beginAt 2 = .ok (.putfield 15, 3) := by decide +kernel
theorem dX1_beginAt_5 : decode cX1_beginAt 5 = .ok (.return_, 1) := by decide +kernel
theorem dX1_save_0 : decode cX1_save 0 = .ok (.aload_n 1, 1) := by decide +kernel
theorem dX1_save_1 : decode cX1_save 1 = .ok (.getfield 19, 3) := by decide +kernel
theorem dX1_save_4 : decode cX1_save 4 = .ok (.bipush 60, 2) := by decide +kernel
theorem dX1_save_6 : decode cX1_save 6 = .ok (.invokestatic 24, 3) := by decide +kernel
theorem dX1_save_9 : decode cX1_save 9 = .ok (.ifCond .ne 4, 3) := by decide +kernel
theorem dX1_save_12 : decode cX1_save 12 = .ok (.return_, 1) := by decide +kernel
theorem dX1_save_13 : decode cX1_save 13 = .ok (.aload_n 1, 1) := by decide +kernel
theorem dX1_save_14 : decode cX1_save 14 = .ok (.getfield 19, 3) := by decide +kernel
theorem dX1_save_17 : decode cX1_save 17 = .ok (.bipush 24, 2) := by decide +kernel
theorem dX1_save_19 : decode cX1_save 19 = .ok (.imul, 1) := by decide +kernel
theorem dX1_save_20 : decode cX1_save 20 = .ok (.istore_n 2, 1) := by decide +kernel
theorem dX1_save_21 : decode cX1_save 21 = .ok (.aload_n 1, 1) := by decide +kernel
theorem dX1_save_22 : decode cX1_save 22 = .ok (.getfield 28, 3) := by decide +kernel
theorem dX1_save_25 : decode cX1_save 25 = .ok (.iconst 0, 1) := by decide +kernel
theorem dX1_save_26 : decode cX1_save 26 = .ok (.aload_n 0, 1) := by decide +kernel
theorem dX1_save_27 : decode cX1_save 27 = .ok (.getfield 11, 3) := by decide +kernel
theorem dX1_save_30 : decode cX1_save 30 = .ok (.iload_n 2, 1) := by decide +kernel
theorem dX1_save_31 : decode cX1_save 31 = .ok (.bipush 6, 2) := by decide +kernel
theorem dX1_save_33 : decode cX1_save 33 = .ok (.invokestatic 31, 3) := by decide +kernel
theorem dX1_save_36 : decode cX1_save 36 = .ok (.aload_n 1, 1) := by decide +kernel
theorem dX1_save_37 : decode cX1_save 37 = .ok (.getfield 37, 3) := by decide +kernel
theorem dX1_save_40 : decode cX1_save 40 = .ok (.iconst 0, 1) := by decide +kernel
theorem dX1_save_41 : decode cX1_save 41 = .ok (.aload_n 0, 1) := by decide +kernel
theorem dX1_save_42 : decode cX1_save 42 = .ok (.getfield 11, 3) := by decide +kernel
theorem dX1_save_45 : decode cX1_save 45 = .ok (.iload_n 2, 1) := by decide +kernel
theorem dX1_save_46 : decode cX1_save 46 = .ok (.bipush 6, 2) := by decide +kernel
theorem dX1_save_48 : decode cX1_save 48 = .ok (.iadd, 1) := by decide +kernel
theorem dX1_save_49 : decode cX1_save 49 = .ok (.bipush 6, 2) := by decide +kernel
theorem dX1_save_51 : decode cX1_save 51 = .ok (.invokestatic 31, 3) := by decide +kernel
theorem dX1_save_54 : decode cX1_save 54 = .ok (.aload_n 1, 1) := by decide +kernel
theorem dX1_save_55 : decode cX1_save 55 = .ok (.getfield 40, 3) := by decide +kernel
theorem dX1_save_58 : decode cX1_save 58 = .ok (.iconst 0, 1) := by decide +kernel
theorem dX1_save_59 : decode cX1_save 59 = .ok (.aload_n 0, 1) := by decide +kernel
theorem dX1_save_60 : decode cX1_save 60 = .ok (.getfield 11, 3) := by decide +kernel
theorem dX1_save_63 : decode cX1_save 63 = .ok (.iload_n 2, 1) := by decide +kernel
theorem dX1_save_64 : decode cX1_save 64 = .ok (.bipush 12, 2) := by decide +kernel
theorem dX1_save_66 : decode cX1_save 66 = .ok (.iadd, 1) := by decide +kernel
theorem dX1_save_67 : decode cX1_save 67 = .ok (.bipush 6, 2) := by decide +kernel
theorem dX1_save_69 : decode cX1_save 69 = .ok (.invokestatic 31, 3) := by decide +kernel
theorem dX1_save_72 : decode cX1_save 72 = .ok (.aload_n 1, 1) := by decide +kernel
theorem dX1_save_73 : decode cX1_save 73 = .ok (.getfield 43, 3) := by decide +kernel
theorem dX1_save_76 : decode cX1_save 76 = .ok (.iconst 0, 1) := by decide +kernel
theorem dX1_save_77 : decode cX1_save 77 = .ok (.aload_n 0, 1) := by decide +kernel
theorem dX1_save_78 : decode cX1_save 78 = .ok (.getfield 11, 3) := by decide +kernel
theorem dX1_save_81 : decode cX1_save 81 = .ok (.iload_n 2, 1) := by decide +kernel
theorem dX1_save_82 : decode cX1_save 82 = .ok (.bipush 18, 2) := by decide +kernel
theorem dX1_save_84 : decode cX1_save 84 = .ok (.iadd, 1) := by decide +kernel
theorem dX1_save_85 : decode cX1_save 85 = .ok (.bipush 6, 2) := by decide +kernel
theorem dX1_save_87 : decode cX1_save 87 = .ok (.invokestatic 31, 3) := by decide +kernel
theorem dX1_save_90 : decode cX1_save 90 = .ok (.return_, 1) := by decide +kernel
theorem dX1_goBack_0 : decode cX1_goBack 0 = .ok (.iload_n 2, 1) := by decide +kernel
theorem dX1_goBack_1 : decode cX1_goBack 1 = .ok (.bipush 60, 2) := by decide +kernel
theorem dX1_goBack_3 : decode cX1_goBack 3 = .ok (.invokestatic 24, 3) := by decide +kernel
theorem dX1_goBack_6 : decode cX1_goBack 6 = .ok (.ifCond .ne 4, 3) := by decide +kernel
theorem dX1_goBack_9 : decode cX1_goBack 9 = .ok (.return_, 1) := by decide +kernel
theorem dX1_goBack_10 : decode cX1_goBack 10 = .ok (.iload_n 2, 1) := by decide +kernel
theorem dX1_goBack_11 : decode cX1_goBack 11 = .ok (.bipush 24, 2) := by decide +kernel
theorem dX1_goBack_13 : decode cX1_goBack 13 = .ok (.imul, 1) := by decide +kernel
theorem dX1_goBack_14 : decode cX1_goBack 14 = .ok (.istore_n 3, 1) := by decide +kernel
theorem dX1_goBack_15 : decode cX1_goBack 15 = .ok (.aload_n 0, 1) := by decide +kernel
theorem dX1_goBack_16 : decode cX1_goBack 16 = .ok (.getfield 11, 3) := by decide +kernel
theorem dX1_goBack_19 : decode cX1_goBack 19 = .ok (.iload_n 3, 1) := by decide +kernel
theorem dX1_goBack_20 : decode cX1_goBack 20 = .ok (.aload_n 1, 1) := by decide +kernel
theorem dX1_goBack_21 : decode cX1_goBack 21 = .ok (.getfield 28, 3) := by decide +kernel
theorem dX1_goBack_24 : decode cX1_goBack 24 = .ok (.iconst 0, 1) := by decide +kernel
theorem dX1_goBack_25 : decode cX1_goBack 25 = .ok (.bipush 6, 2) := by decide +kernel
theorem dX1_goBack_27 : decode cX1_goBack 27 = .ok (.invokestatic 31, 3) := by decide +kernel
theorem dX1_goBack_30 : decode cX1_goBack 30 = .ok (.aload_n 0, 1) := by decide +kernel
theorem dX1_goBack_31 : decode cX1_goBack 31 = .ok (.getfield 11, 3) := by decide +kernel
theorem dX1_goBack_34 : decode cX1_goBack 34 = .ok (.iload_n 3, 1) := by decide +kernel
theorem dX1_goBack_35 : decode cX1_goBack 35 = .ok (.bipush 6, 2) := by decide +kernel
theorem dX1_goBack_37 : decode cX1_goBack 37 = .ok (.iadd, 1) := by decide +kernel
theorem dX1_goBack_38 : decode cX1_goBack 38 = .ok (.aload_n 1, 1) := by decide +kernel
theorem dX1_goBack_39 : decode cX1_goBack 39 = .ok (.getfield 37, 3) := by decide +kernel
theorem dX1_goBack_42 : decode cX1_goBack 42 = .ok (.iconst 0, 1) := by decide +kernel
theorem dX1_goBack_43 : decode cX1_goBack 43 = .ok (.bipush 6, 2) := by decide +kernel
theorem dX1_goBack_45 : decode cX1_goBack 45 = .ok (.invokestatic 31, 3) := by decide +kernel
theorem dX1_goBack_48 : decode cX1_goBack 48 = .ok (.aload_n 0, 1) := by decide +kernel
theorem dX1_goBack_49 : decode cX1_goBack 49 = .ok (.getfield 11, 3) := by decide +kernel
theorem dX1_goBack_52 : decode cX1_goBack 52 = .ok (.iload_n 3, 1) := by decide +kernel
theorem dX1_goBack_53 : decode cX1_goBack 53 = .ok (.bipush 12, 2) := by decide +kernel
theorem dX1_goBack_55 : decode cX1_goBack 55 = .ok (.iadd, 1) := by decide +kernel
theorem dX1_goBack_56 : decode cX1_goBack 56 = .ok (.aload_n 1, 1) := by decide +kernel
theorem dX1_goBack_57 : decode cX1_goBack 57 = .ok (.getfield 40, 3) := by decide +kernel
theorem dX1_goBack_60 : decode cX1_goBack 60 = .ok (.iconst 0, 1) := by decide +kernel
theorem dX1_goBack_61 : decode cX1_goBack 61 = .ok (.bipush 6, 2) := by decide +kernel
theorem dX1_goBack_63 : decode cX1_goBack 63 = .ok (.invokestatic 31, 3) := by decide +kernel
theorem dX1_goBack_66 : decode cX1_goBack 66 = .ok (.aload_n 0, 1) := by decide +kernel
theorem dX1_goBack_67 : decode cX1_goBack 67 = .ok (.getfield 11, 3) := by decide +kernel
theorem dX1_goBack_70 : decode cX1_goBack 70 = .ok (.iload_n 3, 1) := by decide +kernel
theorem dX1_goBack_71 : decode cX1_goBack 71 = .ok (.bipush 18, 2) := by decide +kernel
theorem dX1_goBack_73 : decode cX1_goBack 73 = .ok (.iadd, 1) := by decide +kernel
theorem dX1_goBack_74 : decode cX1_goBack 74 = .ok (.aload_n 1, 1) := by decide +kernel
theorem dX1_goBack_75 : decode cX1_goBack 75 = .ok (.getfield 43, 3) := by decide +kernel
theorem dX1_goBack_78 : decode cX1_goBack 78 = .ok (.iconst 0, 1) := by decide +kernel
theorem dX1_goBack_79 : decode cX1_goBack 79 = .ok (.bipush 6, 2) := by decide +kernel
theorem dX1_goBack_81 : decode cX1_goBack 81 = .ok (.invokestatic 31, 3) := by decide +kernel
theorem dX1_goBack_84 : decode cX1_goBack 84 = .ok (.aload_n 1, 1) := by decide +kernel
theorem dX1_goBack_85 : decode cX1_goBack 85 = .ok (.iload_n 2, 1) := by decide +kernel
theorem dX1_goBack_86 : decode cX1_goBack 86 = .ok (.putfield 19, 3) := by decide +kernel
theorem dX1_goBack_89 : decode cX1_goBack 89 = .ok (.return_, 1) := by decide +kernel
theorem dX2_init_0 : decode cX2_init 0 = .ok (.aload_n 0, 1) := by decide +kernel
theorem dX2_init_1 : decode cX2_init 1 = .ok (.invokespecial 3, 3) := by decide +kernel
theorem dX2_init_4 : decode cX2_init 4 = .ok (.aload_n 0, 1) := by decide +kernel
theorem dX2_init_5 : decode cX2_init 5 = .ok (.bipush 6, 2) := by decide +kernel
theorem dX2_init_7 : decode cX2_init 7 = .ok (.newarray .int, 2) := by decide +kernel
theorem dX2_init_9 : decode cX2_init 9 = .ok (.putfield 9, 3) := by decide +kernel
theorem dX2_init_12 : decode cX2_init 12 = .ok (.aload_n 0, 1) := by decide +kernel
theorem dX2_init_13 : decode cX2_init 13 = .ok (.bipush 6, 2) := by decide +kernel
theorem dX2_init_15 : decode cX2_init 15 = .ok (.newarray .int, 2) := by decide +kernel
theorem dX2_init_17 : decode cX2_init 17 = .ok (.putfield 15, 3) := by decide +kernel
theorem dX2_init_20 : decode cX2_init 20 = .ok (.aload_n 0, 1) := by decide +kernel
theorem dX2_init_21 : decode cX2_init 21 = .ok (.bipush 6, 2) := by decide +kernel
theorem dX2_init_23 : decode cX2_init 23 = .ok (.newarray .int, 2) := by decide +kernel
theorem dX2_init_25 : decode cX2_init 25 = .ok (.putfield 18, 3) := by decide +kernel
theorem dX2_init_28 : decode cX2_init 28 = .ok (.aload_n 0, 1) := by decide +kernel
theorem dX2_init_29 : decode cX2_init 29 = .ok (.bipush 6, 2) := by decide +kernel
theorem dX2_init_31 : decode cX2_init 31 = .ok (.newarray .int, 2) := by decide +kernel
theorem dX2_init_33 : decode cX2_init 33 = .ok (.putfield 21, 3) := by decide +kernel
theorem dX2_init_36 : decode cX2_init 36 = .ok (.aload_n 0, 1) := by decide +kernel
theorem dX2_init_37 : decode cX2_init 37 = .ok (.bipush 6, 2) := by decide +kernel
theorem dX2_init_39 : decode cX2_init 39 = .ok (.newarray .int, 2) := by decide +kernel
theorem dX2_init_41 : decode cX2_init 41 = .ok (.putfield 24, 3) := by decide +kernel
theorem dX2_init_44 : decode cX2_init 44 = .ok (.aload_n 0, 1) := by decide +kernel
theorem dX2_init_45 : decode cX2_init 45 = .ok (.bipush 6, 2) := by decide +kernel
theorem dX2_init_47 : decode cX2_init 47 = .ok (.newarray .int, 2) := by decide +kernel
theorem dX2_init_49 : decode cX2_init 49 = .ok (.putfield 27, 3) := by decide +kernel
theorem dX2_init_52 : decode cX2_init 52 = .ok (.aload_n 0, 1) := by decide +kernel
theorem dX2_init_53 : decode cX2_init 53 = .ok (.bipush 6, 2) := by decide +kernel
theorem dX2_init_55 : decode cX2_init 55 = .ok (.newarray .int, 2) := by decide +kernel
theorem dX2_init_57 : decode cX2_init 57 = .ok (.putfield 30, 3) := by decide +kernel
theorem dX2_init_60 : decode cX2_init 60 = .ok (.aload_n 0, 1) := by decide +kernel
theorem dX2_init_61 : decode cX2_init 61 = .ok (.bipush 6, 2) := by decide +kernel
theorem dX2_init_63 : decode cX2_init 63 = .ok (.newarray .int, 2) := by decide +kernel
theorem dX2_init_65 : decode cX2_init 65 = .ok (.putfield 33, 3) := by decide +kernel
theorem dX2_init_68 : decode cX2_init 68 = .ok (.aload_n 0, 1) := by decide +kernel
theorem dX2_init_69 : decode cX2_init 69 = .ok (.bipush 6, 2) := by decide +kernel
theorem dX2_init_71 : decode cX2_init 71 = .ok (.newarray .int, 2) := by decide +kernel
theorem dX2_init_73 : decode cX2_init 73 = .ok (.putfield 36, 3) := by decide +kernel
theorem dX2_init_76 : decode cX2_init 76 = .ok (.aload_n 0, 1) := by decide +kernel
theorem dX2_init_77 : decode cX2_init 77 = .ok (.sipush 200, 3) := by decide +kernel
theorem dX2_init_80 : decode cX2_init 80 = .ok (.newarray .int, 2) := by decide +kernel
theorem dX2_init_82 : decode cX2_init 82 = .ok (.putfield 39, 3) := by decide +kernel
theorem dX2_init_85 : decode cX2_init 85 = .ok (.return_, 1) := by decide +kernel
theorem dX2_clear_0 : decode cX2_clear 0 = .ok (.aload_n 0, 1) := by decide +kernel
theorem dX2_clear_1 : decode cX2_clear 1 = .ok (.iconst 0, 1) := by decide +kernel
theorem dX2_clear_2 : decode cX2_clear 2 = .ok (.putfield 42, 3) := by decide +kernel
theorem dX2_clear_5 : decode cX2_clear 5 = .ok (.aload_n 0, 1) := by decide +kernel
theorem dX2_clear_6 : decode cX2_clear 6 = .ok (.iconst 0, 1) := by decide +kernel
theorem dX2_clear_7 : decode cX2_clear 7 = .ok (.putfield 46, 3) := by decide +kernel
theorem dX2_clear_10 : decode cX2_clear 10 = .ok (.aload_n 0, 1) := by decide +kernel
theorem dX2_clear_11 : decode cX2_clear 11 = .ok (.iconst 0, 1) := by decide +kernel
theorem dX2_clear_12 : decode cX2_clear 12 = .ok (.putfield 49, 3) := by decide +kernel
theorem dX2_clear_15 : decode cX2_clear 15 = .ok (.aload_n 0, 1) := by decide +kernel
theorem dX2_clear_16 : decode cX2_clear 16 = .ok (.iconst 0, 1) := by decide +kernel
theorem dX2_clear_17 : decode cX2_clear 17 = .ok (.putfield 52, 3) := by decide +kernel
theorem dX2_clear_20 : decode cX2_clear 20 = .ok (.return_, 1) := by decide +kernel
theorem dX2_addStall_0 : decode cX2_addStall 0 = .ok (.aload_n 0, 1) := by decide +kernel
theorem dX2_addStall_1 : decode cX2_addStall 1 = .ok (.getfield 49, 3) := by decide +kernel
theorem dX2_addStall_4 : decode cX2_addStall 4 = .ok (.bipush 6, 2) := by decide +kernel
theorem dX2_addStall_6 : decode cX2_addStall 6 = .ok (.if_icmp .ge 53, 3) := by decide +kernel
theorem dX2_addStall_9 : decode cX2_addStall 9 = .ok (.aload_n 0, 1) := by decide +kernel
theorem dX2_addStall_10 : decode cX2_addStall 10 = .ok (.getfield 9, 3) := by decide +kernel
theorem dX2_addStall_13 : decode cX2_addStall 13 = .ok (.aload_n 0, 1) := by decide +kernel
theorem dX2_addStall_14 : decode cX2_addStall 14 = .ok (.getfield 49, 3) := by decide +kernel
theorem dX2_addStall_17 : decode cX2_addStall 17 = .ok (.iload_n 1, 1) := by decide +kernel
theorem dX2_addStall_18 : decode cX2_addStall 18 = .ok (.iastore, 1) := by decide +kernel
theorem dX2_addStall_19 : decode cX2_addStall 19 = .ok (.aload_n 0, 1) := by decide +kernel
theorem dX2_addStall_20 : decode cX2_addStall 20 = .ok (.getfield 15, 3) := by decide +kernel
theorem dX2_addStall_23 : decode cX2_addStall 23 = .ok (.aload_n 0, 1) := by decide +kernel
theorem dX2_addStall_24 : decode cX2_addStall 24 = .ok (.getfield 49, 3) := by decide +kernel
theorem dX2_addStall_27 : decode cX2_addStall 27 = .ok (.iload_n 2, 1) := by decide +kernel
theorem dX2_addStall_28 : decode cX2_addStall 28 = .ok (.iastore, 1) := by decide +kernel
theorem dX2_addStall_29 : decode cX2_addStall 29 = .ok (.aload_n 0, 1) := by decide +kernel
theorem dX2_addStall_30 : decode cX2_addStall 30 = .ok (.getfield 18, 3) := by decide +kernel
theorem dX2_addStall_33 : decode cX2_addStall 33 = .ok (.aload_n 0, 1) := by decide +kernel
theorem dX2_addStall_34 : decode cX2_addStall 34 = .ok (.getfield 49, 3) := by decide +kernel
theorem dX2_addStall_37 : decode cX2_addStall 37 = .ok (.iload_n 3, 1) := by decide +kernel
theorem dX2_addStall_38 : decode cX2_addStall 38 = .ok (.iastore, 1) := by decide +kernel
theorem dX2_addStall_39 : decode cX2_addStall 39 = .ok (.aload_n 0, 1) := by decide +kernel
theorem dX2_addStall_40 : decode cX2_addStall 40 = .ok (.getfield 21, 3) := by decide +kernel
theorem dX2_addStall_43 : decode cX2_addStall 43 = .ok (.aload_n 0, 1) := by decide +kernel
theorem dX2_addStall_44 : decode cX2_addStall 44 = .ok (.getfield 49, 3) := by decide +kernel
theorem dX2_addStall_47 : decode cX2_addStall 47 = .ok (.iconst 0, 1) := by decide +kernel
theorem dX2_addStall_48 : decode cX2_addStall 48 = .ok (.iastore, 1) := by decide +kernel
theorem dX2_addStall_49 : decode cX2_addStall 49 = .ok (.aload_n 0, 1) := by decide +kernel
theorem dX2_addStall_50 : decode cX2_addStall 50 = .ok (.dup, 1) := by decide +kernel
theorem dX2_addStall_51 : decode cX2_addStall 51 = .ok (.getfield 49, 3) := by decide +kernel
theorem dX2_addStall_54 : decode cX2_addStall 54 = .ok (.iconst 1, 1) := by decide +kernel
theorem dX2_addStall_55 : decode cX2_addStall 55 = .ok (.iadd, 1) := by decide +kernel
theorem dX2_addStall_56 : decode cX2_addStall 56 = .ok (.putfield 49, 3) := by decide +kernel
theorem dX2_addStall_59 : decode cX2_addStall 59 = .ok (.return_, 1) := by decide +kernel
theorem dX2_canAddBuyer_0 : decode cX2_canAddBuyer 0 = .ok (.aload_n 0, 1) := by decide +kernel
theorem dX2_canAddBuyer_1 : decode cX2_canAddBuyer 1 = .ok (.getfield 52, 3) := by decide +kernel
theorem dX2_canAddBuyer_4 : decode cX2_canAddBuyer 4 = .ok (.ifCond .eq 12, 3) := by decide +kernel
theorem dX2_canAddBuyer_7 : decode cX2_canAddBuyer 7 = .ok (.aload_n 0, 1) := by decide +kernel
theorem dX2_canAddBuyer_8 : decode cX2_canAddBuyer 8 = .ok (.getfield 52, 3) := by decide +kernel
theorem dX2_canAddBuyer_11 : decode cX2_canAddBuyer 11 = .ok (.bipush 6, 2) := by decide +kernel
theorem dX2_canAddBuyer_13 : decode cX2_canAddBuyer 13 = .ok (.if_icmp .lt 16, 3) := by decide +kernel
theorem dX2_canAddBuyer_16 : decode cX2_canAddBuyer 16 = .ok (.aload_n 0, 1) := by decide +kernel
theorem dX2_canAddBuyer_17 : decode cX2_canAddBuyer 17 = .ok (.getfield 52, 3) := by decide +kernel
theorem dX2_canAddBuyer_20 : decode cX2_canAddBuyer 20 = .ok (.ifCond .ne 7, 3) := by decide +kernel
theorem dX2_canAddBuyer_23 : decode cX2_canAddBuyer 23 = .ok (.iconst 1, 1) := by decide +kernel
theorem dX2_canAddBuyer_24 : decode cX2_canAddBuyer 24 = .ok (.goto 4, 3) := by decide +kernel
theorem dX2_canAddBuyer_27 : decode cX2_canAddBuyer 27 = .ok (.iconst 0, 1) := by decide +kernel
theorem dX2_canAddBuyer_28 : decode cX2_canAddBuyer 28 = .ok (.ireturn, 1) := by decide +kernel
theorem dX2_canAddBuyer_29 : decode cX2_canAddBuyer 29 = .ok (.iload_n 2, 1) := by decide +kernel
theorem dX2_canAddBuyer_30 : decode cX2_canAddBuyer 30 = .ok (.aload_n 0, 1) := by decide +kernel
theorem dX2_canAddBuyer_31 : decode cX2_canAddBuyer 31 = .ok (.getfield 27, 3) := by decide +kernel
theorem dX2_canAddBuyer_34 : decode cX2_canAddBuyer 34 = .ok (.aload_n 0, 1) := by decide +kernel
theorem dX2_canAddBuyer_35 : decode cX2_canAddBuyer 35 = .ok (.getfield 52, 3) := by decide +kernel
theorem dX2_canAddBuyer_38 : decode cX2_canAddBuyer 38 = .ok (.iconst 1, 1) := by decide +kernel
theorem dX2_canAddBuyer_39 : decode cX2_canAddBuyer 39 = .ok (.isub, 1) := by decide +kernel
theorem dX2_canAddBuyer_40 : decode cX2_canAddBuyer 40 = .ok (.iaload, 1) := by decide +kernel
theorem dX2_canAddBuyer_41 : decode cX2_canAddBuyer 41 = .ok (.isub, 1) := by decide +kernel
theorem dX2_canAddBuyer_42 : decode cX2_canAddBuyer 42 = .ok (.istore_n 3, 1) := by decide +kernel
theorem dX2_canAddBuyer_43 : decode cX2_canAddBuyer 43 = .ok (.iload_n 3, 1) := by decide +kernel
theorem dX2_canAddBuyer_44 : decode cX2_canAddBuyer 44 = .ok (.ifCond .le 22, 3) := by decide +kernel
theorem dX2_canAddBuyer_47 : decode cX2_canAddBuyer 47 = .ok (.iload_n 3, 1) := by decide +kernel
theorem dX2_canAddBuyer_48 : decode cX2_canAddBuyer 48 = .ok (.aload_n 0, 1) := by decide +kernel
theorem dX2_canAddBuyer_49 : decode cX2_canAddBuyer 49 = .ok (.aload_n 0, 1) := by decide +kernel
theorem dX2_canAddBuyer_50 : decode cX2_canAddBuyer 50 = .ok (.getfield 52, 3) := by decide +kernel
theorem dX2_canAddBuyer_53 : decode cX2_canAddBuyer 53 = .ok (.iconst 1, 1) := by decide +kernel
theorem dX2_canAddBuyer_54 : decode cX2_canAddBuyer 54 = .ok (.isub, 1) := by decide +kernel
theorem dX2_canAddBuyer_55 : decode cX2_canAddBuyer 55 = .ok (.iload_n 1, 1) := by decide +kernel
theorem dX2_canAddBuyer_56 : decode cX2_canAddBuyer 56 = .ok (.invokevirtual 55, 3) := by decide +kernel
theorem dX2_canAddBuyer_59 : decode cX2_canAddBuyer 59 = .ok (.if_icmp .gt 7, 3) := by decide +kernel
theorem dX2_canAddBuyer_62 : decode cX2_canAddBuyer 62 = .ok (.iconst 1, 1) := by decide +kernel
theorem dX2_canAddBuyer_63 : decode cX2_canAddBuyer 63 = .ok (.goto 4, 3) := by decide +kernel
theorem dX2_canAddBuyer_66 : decode cX2_canAddBuyer 66 = .ok (.iconst 0, 1) := by decide +kernel
theorem dX2_canAddBuyer_67 : decode cX2_canAddBuyer 67 = .ok (.ireturn, 1) := by decide +kernel
theorem dX2_addBuyer_0 : decode cX2_addBuyer 0 = .ok (.aload_n 0, 1) := by decide +kernel
theorem dX2_addBuyer_1 : decode cX2_addBuyer 1 = .ok (.getfield 52, 3) := by decide +kernel
theorem dX2_addBuyer_4 : decode cX2_addBuyer 4 = .ok (.bipush 6, 2) := by decide +kernel
theorem dX2_addBuyer_6 : decode cX2_addBuyer 6 = .ok (.if_icmp .ge 85, 3) := by decide +kernel
theorem dX2_addBuyer_9 : decode cX2_addBuyer 9 = .ok (.aload_n 0, 1) := by decide +kernel
theorem dX2_addBuyer_10 : decode cX2_addBuyer 10 = .ok (.getfield 36, 3) := by decide +kernel
theorem dX2_addBuyer_13 : decode cX2_addBuyer 13 = .ok (.aload_n 0, 1) := by decide +kernel
theorem dX2_addBuyer_14 : decode cX2_addBuyer 14 = .ok (.getfield 52, 3) := by decide +kernel
theorem dX2_addBuyer_17 : decode cX2_addBuyer 17 = .ok (.aload_n 0, 1) := by decide +kernel
theorem dX2_addBuyer_18 : decode cX2_addBuyer 18 = .ok (.getfield 52, 3) := by decide +kernel
theorem dX2_addBuyer_21 : decode cX2_addBuyer 21 = .ok (.ifCond .ne 8, 3) := by decide +kernel
theorem dX2_addBuyer_24 : decode cX2_addBuyer 24 = .ok (.bipush 20, 2) := by decide +kernel
theorem dX2_addBuyer_26 : decode cX2_addBuyer 26 = .ok (.goto 14, 3) := by decide +kernel
theorem dX2_addBuyer_29 : decode cX2_addBuyer 29 = .ok (.aload_n 0, 1) := by decide +kernel
theorem dX2_addBuyer_30 : decode cX2_addBuyer 30 = .ok (.aload_n 0, 1) := by decide +kernel
theorem dX2_addBuyer_31 : decode cX2_addBuyer 31 = .ok (.getfield 52, 3) := by decide +kernel
theorem dX2_addBuyer_34 : decode cX2_addBuyer 34 = .ok (.iconst 1, 1) := by decide +kernel
theorem dX2_addBuyer_35 : decode cX2_addBuyer 35 = .ok (.isub, 1) := by decide +kernel
theorem dX2_addBuyer_36 : decode cX2_addBuyer 36 = .ok (.iload_n 1, 1) := by decide +kernel
theorem dX2_addBuyer_37 : decode cX2_addBuyer 37 = .ok (.invokevirtual 55, 3) := by decide +kernel
theorem dX2_addBuyer_40 : decode cX2_addBuyer 40 = .ok (.iastore, 1) := by decide +kernel
theorem dX2_addBuyer_41 : decode cX2_addBuyer 41 = .ok (.aload_n 0, 1) := by decide +kernel
theorem dX2_addBuyer_42 : decode cX2_addBuyer 42 = .ok (.getfield 24, 3) := by decide +kernel
theorem dX2_addBuyer_45 : decode cX2_addBuyer 45 = .ok (.aload_n 0, 1) := by decide +kernel
theorem dX2_addBuyer_46 : decode cX2_addBuyer 46 = .ok (.getfield 52, 3) := by decide +kernel
theorem dX2_addBuyer_49 : decode cX2_addBuyer 49 = .ok (.iload_n 1, 1) := by decide +kernel
theorem dX2_addBuyer_50 : decode cX2_addBuyer 50 = .ok (.iastore, 1) := by decide +kernel
theorem dX2_addBuyer_51 : decode cX2_addBuyer 51 = .ok (.aload_n 0, 1) := by decide +kernel
theorem dX2_addBuyer_52 : decode cX2_addBuyer 52 = .ok (.getfield 27, 3) := by decide +kernel
theorem dX2_addBuyer_55 : decode cX2_addBuyer 55 = .ok (.aload_n 0, 1) := by decide +kernel
theorem dX2_addBuyer_56 : decode cX2_addBuyer 56 = .ok (.getfield 52, 3) := by decide +kernel
theorem dX2_addBuyer_59 : decode cX2_addBuyer 59 = .ok (.iload_n 2, 1) := by decide +kernel
theorem dX2_addBuyer_60 : decode cX2_addBuyer 60 = .ok (.iastore, 1) := by decide +kernel
theorem dX2_addBuyer_61 : decode cX2_addBuyer 61 = .ok (.aload_n 0, 1) := by decide +kernel
theorem dX2_addBuyer_62 : decode cX2_addBuyer 62 = .ok (.getfield 30, 3) := by decide +kernel
theorem dX2_addBuyer_65 : decode cX2_addBuyer 65 = .ok (.aload_n 0, 1) := by decide +kernel
theorem dX2_addBuyer_66 : decode cX2_addBuyer 66 = .ok (.getfield 52, 3) := by decide +kernel
theorem dX2_addBuyer_69 : decode cX2_addBuyer 69 = .ok (.iload_n 3, 1) := by decide +kernel
theorem dX2_addBuyer_70 : decode cX2_addBuyer 70 = .ok (.iastore, 1) := by decide +kernel
theorem dX2_addBuyer_71 : decode cX2_addBuyer 71 = .ok (.aload_n 0, 1) := by decide +kernel
theorem dX2_addBuyer_72 : decode cX2_addBuyer 72 = .ok (.getfield 33, 3) := by decide +kernel
theorem dX2_addBuyer_75 : decode cX2_addBuyer 75 = .ok (.aload_n 0, 1) := by decide +kernel
theorem dX2_addBuyer_76 : decode cX2_addBuyer 76 = .ok (.getfield 52, 3) := by decide +kernel
theorem dX2_addBuyer_79 : decode cX2_addBuyer 79 = .ok (.iconst 0, 1) := by decide +kernel
theorem dX2_addBuyer_80 : decode cX2_addBuyer 80 = .ok (.iastore, 1) := by decide +kernel
theorem dX2_addBuyer_81 : decode cX2_addBuyer 81 = .ok (.aload_n 0, 1) := by decide +kernel
theorem dX2_addBuyer_82 : decode cX2_addBuyer 82 = .ok (.dup, 1) := by decide +kernel
theorem dX2_addBuyer_83 : decode cX2_addBuyer 83 = .ok (.getfield 52, 3) := by decide +kernel
theorem dX2_addBuyer_86 : decode cX2_addBuyer 86 = .ok (.iconst 1, 1) := by decide +kernel
theorem dX2_addBuyer_87 : decode cX2_addBuyer 87 = .ok (.iadd, 1) := by decide +kernel
theorem dX2_addBuyer_88 : decode cX2_addBuyer 88 = .ok (.putfield 52, 3) := by decide +kernel
theorem dX2_addBuyer_91 : decode cX2_addBuyer 91 = .ok (.return_, 1) := by decide +kernel
theorem dX2_slackBehind_0 : decode cX2_slackBehind 0 = .ok (.aload_n 0, 1) := by decide +kernel
theorem dX2_slackBehind_1 : decode cX2_slackBehind 1 = .ok (.getfield 24, 3) := by decide +kernel
theorem dX2_slackBehind_4 : decode cX2_slackBehind 4 = .ok (.iload_n 1, 1) := by decide +kernel
theorem dX2_slackBehind_5 : decode cX2_slackBehind 5 = .ok (.iaload, 1) := by decide +kernel
theorem dX2_slackBehind_6 : decode cX2_slackBehind 6 = .ok (.iconst 4, 1) := by decide +kernel
theorem dX2_slackBehind_7 : decode cX2_slackBehind 7 = .ok (.if_icmp .eq 8, 3) := by decide +kernel
theorem dX2_slackBehind_10 : decode cX2_slackBehind 10 = .ok (.iload_n 2, 1) := by decide +kernel
theorem dX2_slackBehind_11 : decode cX2_slackBehind 11 = .ok (.iconst 4, 1) := by decide +kernel
theorem dX2_slackBehind_12 : decode cX2_slackBehind 12 = .ok (.if_icmp .ne 8, 3) := by decide +kernel
theorem dX2_slackBehind_15 : decode cX2_slackBehind 15 = .ok (.bipush 20, 2) := by decide +kernel
theorem dX2_slackBehind_17 : decode cX2_slackBehind 17 = .ok (.goto 7, 3) := by decide +kernel
theorem dX2_slackBehind_20 : decode cX2_slackBehind 20 = .ok (.aload_n 0, 1) := by decide +kernel
theorem dX2_slackBehind_21 : decode cX2_slackBehind 21 = .ok (.getfield 42, 3) := by decide +kernel
theorem dX2_slackBehind_24 : decode cX2_slackBehind 24 = .ok (.ireturn, 1) := by decide +kernel
theorem dX2_take_0 : decode cX2_take 0 = .ok (.aload_n 0, 1) := by decide +kernel
theorem dX2_take_1 : decode cX2_take 1 = .ok (.aload_n 1, 1) := by decide +kernel
theorem dX2_take_2 : decode cX2_take 2 = .ok (.getfield 42, 3) := by decide +kernel
theorem dX2_take_5 : decode cX2_take 5 = .ok (.putfield 42, 3) := by decide +kernel
theorem dX2_take_8 : decode cX2_take 8 = .ok (.aload_n 0, 1) := by decide +kernel
theorem dX2_take_9 : decode cX2_take 9 = .ok (.aload_n 1, 1) := by decide +kernel
theorem dX2_take_10 : decode cX2_take 10 = .ok (.getfield 49, 3) := by decide +kernel
theorem dX2_take_13 : decode cX2_take 13 = .ok (.putfield 49, 3) := by decide +kernel
theorem dX2_take_16 : decode cX2_take 16 = .ok (.aload_n 0, 1) := by decide +kernel
theorem dX2_take_17 : decode cX2_take 17 = .ok (.aload_n 1, 1) := by decide +kernel
theorem dX2_take_18 : decode cX2_take 18 = .ok (.getfield 52, 3) := by decide +kernel
theorem dX2_take_21 : decode cX2_take 21 = .ok (.putfield 52, 3) := by decide +kernel
theorem dX2_take_24 : decode cX2_take 24 = .ok (.aload_n 1, 1) := by decide +kernel
theorem dX2_take_25 : decode cX2_take 25 = .ok (.getfield 9, 3) := by decide +kernel
theorem dX2_take_28 : decode cX2_take 28 = .ok (.iconst 0, 1) := by decide +kernel
theorem dX2_take_29 : decode cX2_take 29 = .ok (.aload_n 0, 1) := by decide +kernel
theorem dX2_take_30 : decode cX2_take 30 = .ok (.getfield 9, 3) := by decide +kernel
theorem dX2_take_33 : decode cX2_take 33 = .ok (.iconst 0, 1) := by decide +kernel
theorem dX2_take_34 : decode cX2_take 34 = .ok (.bipush 6, 2) := by decide +kernel
theorem dX2_take_36 : decode cX2_take 36 = .ok (.invokestatic 59, 3) := by decide +kernel
theorem dX2_take_39 : decode cX2_take 39 = .ok (.aload_n 1, 1) := by decide +kernel
theorem dX2_take_40 : decode cX2_take 40 = .ok (.getfield 15, 3) := by decide +kernel
theorem dX2_take_43 : decode cX2_take 43 = .ok (.iconst 0, 1) := by decide +kernel
theorem dX2_take_44 : decode cX2_take 44 = .ok (.aload_n 0, 1) := by decide +kernel
theorem dX2_take_45 : decode cX2_take 45 = .ok (.getfield 15, 3) := by decide +kernel
theorem dX2_take_48 : decode cX2_take 48 = .ok (.iconst 0, 1) := by decide +kernel
theorem dX2_take_49 : decode cX2_take 49 = .ok (.bipush 6, 2) := by decide +kernel
theorem dX2_take_51 : decode cX2_take 51 = .ok (.invokestatic 59, 3) := by decide +kernel
theorem dX2_take_54 : decode cX2_take 54 = .ok (.aload_n 1, 1) := by decide +kernel
theorem dX2_take_55 : decode cX2_take 55 = .ok (.getfield 18, 3) := by decide +kernel
theorem dX2_take_58 : decode cX2_take 58 = .ok (.iconst 0, 1) := by decide +kernel
theorem dX2_take_59 : decode cX2_take 59 = .ok (.aload_n 0, 1) := by decide +kernel
theorem dX2_take_60 : decode cX2_take 60 = .ok (.getfield 18, 3) := by decide +kernel
theorem dX2_take_63 : decode cX2_take 63 = .ok (.iconst 0, 1) := by decide +kernel
theorem dX2_take_64 : decode cX2_take 64 = .ok (.bipush 6, 2) := by decide +kernel
theorem dX2_take_66 : decode cX2_take 66 = .ok (.invokestatic 59, 3) := by decide +kernel
theorem dX2_take_69 : decode cX2_take 69 = .ok (.aload_n 1, 1) := by decide +kernel
theorem dX2_take_70 : decode cX2_take 70 = .ok (.getfield 24, 3) := by decide +kernel
theorem dX2_take_73 : decode cX2_take 73 = .ok (.iconst 0, 1) := by decide +kernel
theorem dX2_take_74 : decode cX2_take 74 = .ok (.aload_n 0, 1) := by decide +kernel
theorem dX2_take_75 : decode cX2_take 75 = .ok (.getfield 24, 3) := by decide +kernel
theorem dX2_take_78 : decode cX2_take 78 = .ok (.iconst 0, 1) := by decide +kernel
theorem dX2_take_79 : decode cX2_take 79 = .ok (.bipush 6, 2) := by decide +kernel
theorem dX2_take_81 : decode cX2_take 81 = .ok (.invokestatic 59, 3) := by decide +kernel
theorem dX2_take_84 : decode cX2_take 84 = .ok (.aload_n 1, 1) := by decide +kernel
theorem dX2_take_85 : decode cX2_take 85 = .ok (.getfield 36, 3) := by decide +kernel
theorem dX2_take_88 : decode cX2_take 88 = .ok (.iconst 0, 1) := by decide +kernel
theorem dX2_take_89 : decode cX2_take 89 = .ok (.aload_n 0, 1) := by decide +kernel
theorem dX2_take_90 : decode cX2_take 90 = .ok (.getfield 36, 3) := by decide +kernel
theorem dX2_take_93 : decode cX2_take 93 = .ok (.iconst 0, 1) := by decide +kernel
theorem dX2_take_94 : decode cX2_take 94 = .ok (.bipush 6, 2) := by decide +kernel
theorem dX2_take_96 : decode cX2_take 96 = .ok (.invokestatic 59, 3) := by decide +kernel
theorem dX2_take_99 : decode cX2_take 99 = .ok (.aload_n 1, 1) := by decide +kernel
theorem dX2_take_100 : decode cX2_take 100 = .ok (.getfield 39, 3) := by decide +kernel
theorem dX2_take_103 : decode cX2_take 103 = .ok (.iconst 0, 1) := by decide +kernel
theorem dX2_take_104 : decode cX2_take 104 = .ok (.aload_n 0, 1) := by decide +kernel
theorem dX2_take_105 : decode cX2_take 105 = .ok (.getfield 39, 3) := by decide +kernel
theorem dX2_take_108 : decode cX2_take 108 = .ok (.iconst 0, 1) := by decide +kernel
theorem dX2_take_109 : decode cX2_take 109 = .ok (.aload_n 0, 1) := by decide +kernel
theorem dX2_take_110 : decode cX2_take 110 = .ok (.getfield 39, 3) := by decide +kernel
theorem dX2_take_113 : decode cX2_take 113 = .ok (.arraylength, 1) := by decide +kernel
theorem dX2_take_114 : decode cX2_take 114 = .ok (.invokestatic 59, 3) := by decide +kernel
theorem dX2_take_117 : decode cX2_take 117 = .ok (.aload_n 0, 1) := by decide +kernel
theorem dX2_take_118 : decode cX2_take 118 = .ok (.aload_n 1, 1) := by decide +kernel
theorem dX2_take_119 : decode cX2_take 119 = .ok (.invokevirtual 65, 3) := by decide +kernel
theorem dX2_take_122 : decode cX2_take 122 = .ok (.return_, 1) := by decide +kernel
theorem dX2_takeWhatMoves_0 : decode cX2_takeWhatMoves 0 = .ok (.aload_n 0, 1) := by decide +kernel
theorem dX2_takeWhatMoves_1 : decode cX2_takeWhatMoves 1 = .ok (.aload_n 1, 1) := by decide +kernel
theorem dX2_takeWhatMoves_2 : decode cX2_takeWhatMoves 2 = .ok (.getfield 46, 3) := by decide +kernel
theorem dX2_takeWhatMoves_5 : decode cX2_takeWhatMoves 5 = .ok (.putfield 46, 3) := by decide +kernel
theorem dX2_takeWhatMoves_8 : decode cX2_takeWhatMoves 8 = .ok (.iconst 0, 1) := by decide +kernel
theorem dX2_takeWhatMoves_9 : decode cX2_takeWhatMoves 9 = .ok (.istore_n 2, 1) := by decide +kernel
theorem dX2_takeWhatMoves_10 : decode cX2_takeWhatMoves 10 = .ok (.iload_n 2, 1) := by decide +kernel
theorem dX2_takeWhatMoves_11 : decode cX2_takeWhatMoves 11 = .ok (.bipush 6, 2) := by decide +kernel
theorem dX2_takeWhatMoves_13 : decode cX2_takeWhatMoves 13 = .ok (.if_icmp .ge 57, 3) := by decide +kernel
theorem dX2_takeWhatMoves_16 : decode cX2_takeWhatMoves 16 = .ok (.aload_n 0, 1) := by decide +kernel
theorem dX2_takeWhatMoves_17 : decode cX2_takeWhatMoves 17 = .ok (.getfield 21, 3) := by decide +kernel
theorem dX2_takeWhatMoves_20 : decode cX2_takeWhatMoves 20 = .ok (.iload_n 2, 1) := by decide +kernel
theorem dX2_takeWhatMoves_21 : decode cX2_takeWhatMoves 21 = .ok (.aload_n 1, 1) := by decide +kernel
theorem dX2_takeWhatMoves_22 : decode cX2_takeWhatMoves 22 = .ok (.getfield 21, 3) := by decide +kernel
theorem dX2_takeWhatMoves_25 : decode cX2_takeWhatMoves 25 = .ok (.iload_n 2, 1) := by decide +kernel
theorem dX2_takeWhatMoves_26 : decode cX2_takeWhatMoves 26 = .ok (.iaload, 1) := by decide +kernel
theorem dX2_takeWhatMoves_27 : decode cX2_takeWhatMoves 27 = .ok (.iastore, 1) := by decide +kernel
theorem dX2_takeWhatMoves_28 : decode cX2_takeWhatMoves 28 = .ok (.aload_n 0, 1) := by decide +kernel
theorem dX2_takeWhatMoves_29 : decode cX2_takeWhatMoves 29 = .ok (.getfield 27, 3) := by decide +kernel
theorem dX2_takeWhatMoves_32 : decode cX2_takeWhatMoves 32 = .ok (.iload_n 2, 1) := by decide +kernel
theorem dX2_takeWhatMoves_33 : decode cX2_takeWhatMoves 33 = .ok (.aload_n 1, 1) := by decide +kernel
theorem dX2_takeWhatMoves_34 : decode cX2_takeWhatMoves 34 = .ok (.getfield 27, 3) := by decide +kernel
theorem dX2_takeWhatMoves_37 : decode cX2_takeWhatMoves 37 = .ok (.iload_n 2, 1) := by decide +kernel
theorem dX2_takeWhatMoves_38 : decode cX2_takeWhatMoves 38 = .ok (.iaload, 1) := by decide +kernel
theorem dX2_takeWhatMoves_39 : decode cX2_takeWhatMoves 39 = .ok (.iastore, 1) := by decide +kernel
theorem dX2_takeWhatMoves_40 : decode cX2_takeWhatMoves 40 = .ok (.aload_n 0, 1) := by decide +kernel
theorem dX2_takeWhatMoves_41 : decode cX2_takeWhatMoves 41 = .ok (.getfield 30, 3) := by decide +kernel
theorem dX2_takeWhatMoves_44 : decode cX2_takeWhatMoves 44 = .ok (.iload_n 2, 1) := by decide +kernel
theorem dX2_takeWhatMoves_45 : decode cX2_takeWhatMoves 45 = .ok (.aload_n 1, 1) := by decide +kernel
theorem dX2_takeWhatMoves_46 : decode cX2_takeWhatMoves 46 = .ok (.getfield 30, 3) := by decide +kernel
theorem dX2_takeWhatMoves_49 : decode cX2_takeWhatMoves 49 = .ok (.iload_n 2, 1) := by decide +kernel
theorem dX2_takeWhatMoves_50 : decode cX2_takeWhatMoves 50 = .ok (.iaload, 1) := by decide +kernel
theorem dX2_takeWhatMoves_51 : decode cX2_takeWhatMoves 51 = .ok (.iastore, 1) := by decide +kernel
theorem dX2_takeWhatMoves_52 : decode cX2_takeWhatMoves 52 = .ok (.aload_n 0, 1) := by decide +kernel
theorem dX2_takeWhatMoves_53 : decode cX2_takeWhatMoves 53 = .ok (.getfield 33, 3) := by decide +kernel
theorem dX2_takeWhatMoves_56 : decode cX2_takeWhatMoves 56 = .ok (.iload_n 2, 1) := by decide +kernel
theorem dX2_takeWhatMoves_57 : decode cX2_takeWhatMoves 57 = .ok (.aload_n 1, 1) := by decide +kernel
theorem dX2_takeWhatMoves_58 : decode cX2_takeWhatMoves 58 = .ok (.getfield 33, 3) := by decide +kernel
theorem dX2_takeWhatMoves_61 : decode cX2_takeWhatMoves 61 = .ok (.iload_n 2, 1) := by decide +kernel
theorem dX2_takeWhatMoves_62 : decode cX2_takeWhatMoves 62 = .ok (.iaload, 1) := by decide +kernel
theorem dX2_takeWhatMoves_63 : decode cX2_takeWhatMoves 63 = .ok (.iastore, 1) := by decide +kernel
theorem dX2_takeWhatMoves_64 : decode cX2_takeWhatMoves 64 = .ok (.iinc 2 1, 3) := by decide +kernel
theorem dX2_takeWhatMoves_67 : decode cX2_takeWhatMoves 67 = .ok (.goto (-57), 3) := by decide +kernel
theorem dX2_takeWhatMoves_70 : decode cX2_takeWhatMoves 70 = .ok (.return_, 1) := by decide +kernel
theorem dX2_findWays_0 : decode cX2_findWays 0 = .ok (.iconst 0, 1) := by decide +kernel
theorem dX2_findWays_1 : decode cX2_findWays 1 = .ok (.istore_n 1, 1) := by decide +kernel
theorem dX2_findWays_2 : decode cX2_findWays 2 = .ok (.iload_n 1, 1) := by decide +kernel
theorem dX2_findWays_3 : decode cX2_findWays 3 = .ok (.iconst 5, 1) := by decide +kernel
theorem dX2_findWays_4 : decode cX2_findWays 4 = .ok (.if_icmp .ge 66, 3) := by decide +kernel
theorem dX2_findWays_7 : decode cX2_findWays 7 = .ok (.iconst 0, 1) := by decide +kernel
theorem dX2_findWays_8 : decode cX2_findWays 8 = .ok (.istore_n 2, 1) := by decide +kernel
theorem dX2_findWays_9 : decode cX2_findWays 9 = .ok (.iload_n 2, 1) := by decide +kernel
theorem dX2_findWays_10 : decode cX2_findWays 10 = .ok (.bipush 20, 2) := by decide +kernel
theorem dX2_findWays_12 : decode cX2_findWays 12 = .ok (.if_icmp .ge 52, 3) := by decide +kernel
theorem dX2_findWays_15 : decode cX2_findWays 15 = .ok (.aload_n 0, 1) := by decide +kernel
theorem dX2_findWays_16 : decode cX2_findWays 16 = .ok (.getfield 39, 3) := by decide +kernel
theorem dX2_findWays_19 : decode cX2_findWays 19 = .ok (.iload_n 1, 1) := by decide +kernel
theorem dX2_findWays_20 : decode cX2_findWays 20 = .ok (.bipush 20, 2) := by decide +kernel
theorem dX2_findWays_22 : decode cX2_findWays 22 = .ok (.imul, 1) := by decide +kernel
theorem dX2_findWays_23 : decode cX2_findWays 23 = .ok (.iload_n 2, 1) := by decide +kernel
theorem dX2_findWays_24 : decode cX2_findWays 24 = .ok (.iadd, 1) := by decide +kernel
theorem dX2_findWays_25 : decode cX2_findWays 25 = .ok (.aload_n 0, 1) := by decide +kernel
theorem dX2_findWays_26 : decode cX2_findWays 26 = .ok (.iload_n 2, 1) := by decide +kernel
theorem dX2_findWays_27 : decode cX2_findWays 27 = .ok (.iconst 1, 1) := by decide +kernel
theorem dX2_findWays_28 : decode cX2_findWays 28 = .ok (.iload_n 1, 1) := by decide +kernel
theorem dX2_findWays_29 : decode cX2_findWays 29 = .ok (.ishl, 1) := by decide +kernel
theorem dX2_findWays_30 : decode cX2_findWays 30 = .ok (.invokevirtual 69, 3) := by decide +kernel
theorem dX2_findWays_33 : decode cX2_findWays 33 = .ok (.iastore, 1) := by decide +kernel
theorem dX2_findWays_34 : decode cX2_findWays 34 = .ok (.aload_n 0, 1) := by decide +kernel
theorem dX2_findWays_35 : decode cX2_findWays 35 = .ok (.getfield 39, 3) := by decide +kernel
theorem dX2_findWays_38 : decode cX2_findWays 38 = .ok (.iconst 5, 1) := by decide +kernel
theorem dX2_findWays_39 : decode cX2_findWays 39 = .ok (.iload_n 1, 1) := by decide +kernel
theorem dX2_findWays_40 : decode cX2_findWays 40 = .ok (.iadd, 1) := by decide +kernel
theorem dX2_findWays_41 : decode cX2_findWays 41 = .ok (.bipush 20, 2) := by decide +kernel
theorem dX2_findWays_43 : decode cX2_findWays 43 = .ok (.imul, 1) := by decide +kernel
theorem dX2_findWays_44 : decode cX2_findWays 44 = .ok (.iload_n 2, 1) := by decide +kernel
theorem dX2_findWays_45 : decode cX2_findWays 45 = .ok (.iadd, 1) := by decide +kernel
theorem dX2_findWays_46 : decode cX2_findWays 46 = .ok (.aload_n 0, 1) := by decide +kernel
theorem dX2_findWays_47 : decode cX2_findWays 47 = .ok (.iload_n 2, 1) := by decide +kernel
theorem dX2_findWays_48 : decode cX2_findWays 48 = .ok (.iconst 1, 1) := by decide +kernel
theorem dX2_findWays_49 : decode cX2_findWays 49 = .ok (.iload_n 1, 1) := by decide +kernel
theorem dX2_findWays_50 : decode cX2_findWays 50 = .ok (.ishl, 1) := by decide +kernel
theorem dX2_findWays_51 : decode cX2_findWays 51 = .ok (.bipush 8, 2) := by decide +kernel
theorem dX2_findWays_53 : decode cX2_findWays 53 = .ok (.ior, 1) := by decide +kernel
theorem dX2_findWays_54 : decode cX2_findWays 54 = .ok (.invokevirtual 69, 3) := by decide +kernel
theorem dX2_findWays_57 : decode cX2_findWays 57 = .ok (.iastore, 1) := by decide +kernel
theorem dX2_findWays_58 : decode cX2_findWays 58 = .ok (.iinc 2 1, 3) := by decide +kernel
theorem dX2_findWays_61 : decode cX2_findWays 61 = .ok (.goto (-52), 3) := by decide +kernel
theorem dX2_findWays_64 : decode cX2_findWays 64 = .ok (.iinc 1 1, 3) := by decide +kernel
theorem dX2_findWays_67 : decode cX2_findWays 67 = .ok (.goto (-65), 3) := by decide +kernel
theorem dX2_findWays_70 : decode cX2_findWays 70 = .ok (.return_, 1) := by decide +kernel
theorem dX2_wayToNearest_0 : decode cX2_wayToNearest 0 = .ok (.aload_n 0, 1) := by decide +kernel
theorem dX2_wayToNearest_1 : decode cX2_wayToNearest 1 = .ok (.iload_n 1, 1) := by decide +kernel
theorem dX2_wayToNearest_2 : decode cX2_wayToNearest 2 = .ok (.iload_n 2, 1) := by decide +kernel
theorem dX2_wayToNearest_3 : decode cX2_wayToNearest 3 = .ok (.invokevirtual 72, 3) := by decide +kernel
theorem dX2_wayToNearest_6 : decode cX2_wayToNearest 6 = .ok (.istore_n 3, 1) := by decide +kernel
theorem dX2_wayToNearest_7 : decode cX2_wayToNearest 7 = .ok (.iload_n 3, 1) := by decide +kernel
theorem dX2_wayToNearest_8 : decode cX2_wayToNearest 8 = .ok (.bipush (-9), 2) := by decide +kernel
theorem dX2_wayToNearest_10 : decode cX2_wayToNearest 10 = .ok (.if_icmp .eq 13, 3) := by decide +kernel
theorem dX2_wayToNearest_13 : decode cX2_wayToNearest 13 = .ok (.aload_n 0, 1) := by decide +kernel
theorem dX2_wayToNearest_14 : decode cX2_wayToNearest 14 = .ok (.getfield 9, 3) := by decide +kernel
theorem dX2_wayToNearest_17 : decode cX2_wayToNearest 17 = .ok (.iload_n 3, 1) := by decide +kernel
theorem dX2_wayToNearest_18 : decode cX2_wayToNearest 18 = .ok (.iaload, 1) := by decide +kernel
theorem dX2_wayToNearest_19 : decode cX2_wayToNearest 19 = .ok (.iload_n 1, 1) := by decide +kernel
theorem dX2_wayToNearest_20 : decode cX2_wayToNearest 20 = .ok (.if_icmp .ne 5, 3) := by decide +kernel
theorem dX2_wayToNearest_23 : decode cX2_wayToNearest 23 = .ok (.iconst 0, 1) := by decide +kernel
theorem dX2_wayToNearest_24 : decode cX2_wayToNearest 24 = .ok (.ireturn, 1) := by decide +kernel
theorem dX2_wayToNearest_25 : decode cX2_wayToNearest 25 = .ok (.aload_n 0, 1) := by decide +kernel
theorem dX2_wayToNearest_26 : decode cX2_wayToNearest 26 = .ok (.getfield 9, 3) := by decide +kernel
theorem dX2_wayToNearest_29 : decode cX2_wayToNearest 29 = .ok (.iload_n 3, 1) := by decide +kernel
theorem dX2_wayToNearest_30 : decode cX2_wayToNearest 30 = .ok (.iaload, 1) := by decide +kernel
theorem dX2_wayToNearest_31 : decode cX2_wayToNearest 31 = .ok (.iload_n 1, 1) := by decide +kernel
theorem dX2_wayToNearest_32 : decode cX2_wayToNearest 32 = .ok (.if_icmp .ge 7, 3) := by decide +kernel
theorem dX2_wayToNearest_35 : decode cX2_wayToNearest 35 = .ok (.iconst (-1), 1) := by decide +kernel
theorem dX2_wayToNearest_36 : decode cX2_wayToNearest 36 = .ok (.goto 4, 3) := by decide +kernel
theorem dX2_wayToNearest_39 : decode cX2_wayToNearest 39 = .ok (.iconst 1, 1) := by decide +kernel
theorem dX2_wayToNearest_40 : decode cX2_wayToNearest 40 = .ok (.ireturn, 1) := by decide +kernel
theorem dX2_nearestStall_0 : decode cX2_nearestStall 0 = .ok (.bipush (-9), 2) := by decide +kernel
theorem dX2_nearestStall_2 : decode cX2_nearestStall 2 = .ok (.istore_n 3, 1) := by decide +kernel
theorem dX2_nearestStall_3 : decode cX2_nearestStall 3 = .ok (.iconst 0, 1) := by decide +kernel
theorem dX2_nearestStall_4 : decode cX2_nearestStall 4 = .ok (.istore 4, 2) := by decide +kernel
theorem dX2_nearestStall_6 : decode cX2_nearestStall 6 = .ok (.iload 4, 2) := by decide +kernel
theorem dX2_nearestStall_8 : decode cX2_nearestStall 8 = .ok (.aload_n 0, 1) := by decide +kernel
theorem dX2_nearestStall_9 : decode cX2_nearestStall 9 = .ok (.getfield 49, 3) := by decide +kernel
theorem dX2_nearestStall_12 : decode cX2_nearestStall 12 = .ok (.if_icmp .ge 43, 3) := by decide +kernel
theorem dX2_nearestStall_15 : decode cX2_nearestStall 15 = .ok (.iload_n 2, 1) := by decide +kernel
theorem dX2_nearestStall_16 : decode cX2_nearestStall 16 = .ok (.aload_n 0, 1) := by decide +kernel
theorem dX2_nearestStall_17 : decode cX2_nearestStall 17 = .ok (.getfield 15, 3) := by decide +kernel
theorem dX2_nearestStall_20 : decode cX2_nearestStall 20 = .ok (.iload 4, 2) := by decide +kernel
theorem dX2_nearestStall_22 : decode cX2_nearestStall 22 = .ok (.iaload, 1) := by decide +kernel
theorem dX2_nearestStall_23 : decode cX2_nearestStall 23 = .ok (.invokestatic 75, 3) := by decide +kernel
theorem dX2_nearestStall_26 : decode cX2_nearestStall 26 = .ok (.ifCond .eq 23, 3) := by decide +kernel
theorem dX2_nearestStall_29 : decode cX2_nearestStall 29 = .ok (.iload_n 3, 1) := by decide +kernel
theorem dX2_nearestStall_30 : decode cX2_nearestStall 30 = .ok (.bipush (-9), 2) := by decide +kernel
theorem dX2_nearestStall_32 : decode cX2_nearestStall 32 = .ok (.if_icmp .eq 14, 3) := by decide +kernel
theorem dX2_nearestStall_35 : decode cX2_nearestStall 35 = .ok (.aload_n 0, 1) := by decide +kernel
theorem dX2_nearestStall_36 : decode cX2_nearestStall 36 = .ok (.iload_n 1, 1) := by decide +kernel
theorem dX2_nearestStall_37 : decode cX2_nearestStall 37 = .ok (.iload 4, 2) := by decide +kernel
theorem dX2_nearestStall_39 : decode cX2_nearestStall 39 = .ok (.iload_n 3, 1) := by decide +kernel
theorem dX2_nearestStall_40 : decode cX2_nearestStall 40 = .ok (.invokevirtual 79, 3) := by decide +kernel
theorem dX2_nearestStall_43 : decode cX2_nearestStall 43 = .ok (.ifCond .eq 6, 3) := by decide +kernel
theorem dX2_nearestStall_46 : decode cX2_nearestStall 46 = .ok (.iload 4, 2) := by decide +kernel
theorem dX2_nearestStall_48 : decode cX2_nearestStall 48 = .ok (.istore_n 3, 1) := by decide +kernel
theorem dX2_nearestStall_49 : decode cX2_nearestStall 49 = .ok (.iinc 4 1, 3) := by decide +kernel
theorem dX2_nearestStall_52 : decode cX2_nearestStall 52 = .ok (.goto (-46), 3) := by decide +kernel
theorem dX2_nearestStall_55 : decode cX2_nearestStall 55 = .ok (.iload_n 3, 1) := by decide +kernel
theorem dX2_nearestStall_56 : decode cX2_nearestStall 56 = .ok (.ireturn, 1) := by decide +kernel
theorem dX2_isNearer_0 : decode cX2_isNearer 0 = .ok (.aload_n 0, 1) := by decide +kernel
theorem dX2_isNearer_1 : decode cX2_isNearer 1 = .ok (.getfield 9, 3) := by decide +kernel
theorem dX2_isNearer_4 : decode cX2_isNearer 4 = .ok (.iload_n 2, 1) := by decide +kernel
theorem dX2_isNearer_5 : decode cX2_isNearer 5 = .ok (.iaload, 1) := by decide +kernel
theorem dX2_isNearer_6 : decode cX2_isNearer 6 = .ok (.iload_n 1, 1) := by decide +kernel
theorem dX2_isNearer_7 : decode cX2_isNearer 7 = .ok (.isub, 1) := by decide +kernel
theorem dX2_isNearer_8 : decode cX2_isNearer 8 = .ok (.invokestatic 83, 3) := by decide +kernel
theorem dX2_isNearer_11 : decode cX2_isNearer 11 = .ok (.istore 4, 2) := by decide +kernel
theorem dX2_isNearer_13 : decode cX2_isNearer 13 = .ok (.aload_n 0, 1) := by decide +kernel
theorem dX2_isNearer_14 : decode cX2_isNearer 14 = .ok (.getfield 9, 3) := by decide +kernel
theorem dX2_isNearer_17 : decode cX2_isNearer 17 = .ok (.iload_n 3, 1) := by decide +kernel
theorem dX2_isNearer_18 : decode cX2_isNearer 18 = .ok (.iaload, 1) := by decide +kernel
theorem dX2_isNearer_19 : decode cX2_isNearer 19 = .ok (.iload_n 1, 1) := by decide +kernel
theorem dX2_isNearer_20 : decode cX2_isNearer 20 = .ok (.isub, 1) := by decide +kernel
theorem dX2_isNearer_21 : decode cX2_isNearer 21 = .ok (.invokestatic 83, 3) := by decide +kernel
theorem dX2_isNearer_24 : decode cX2_isNearer 24 = .ok (.istore 5, 2) := by decide +kernel
theorem dX2_isNearer_26 : decode cX2_isNearer 26 = .ok (.iload 4, 2) := by decide +kernel
theorem dX2_isNearer_28 : decode cX2_isNearer 28 = .ok (.iload 5, 2) := by decide +kernel
theorem dX2_isNearer_30 : decode cX2_isNearer 30 = .ok (.if_icmp .lt 25, 3) := by decide +kernel
theorem dX2_isNearer_33 : decode cX2_isNearer 33 = .ok (.iload 4, 2) := by decide +kernel
theorem dX2_isNearer_35 : decode cX2_isNearer 35 = .ok (.iload 5, 2) := by decide +kernel
theorem dX2_isNearer_37 : decode cX2_isNearer 37 = .ok (.if_icmp .ne 22, 3) := by decide +kernel
theorem dX2_isNearer_40 : decode cX2_isNearer 40 = .ok (.aload_n 0, 1) := by decide +kernel
theorem dX2_isNearer_41 : decode cX2_isNearer 41 = .ok (.getfield 9, 3) := by decide +kernel
theorem dX2_isNearer_44 : decode cX2_isNearer 44 = .ok (.iload_n 2, 1) := by decide +kernel
theorem dX2_isNearer_45 : decode cX2_isNearer 45 = .ok (.iaload, 1) := by decide +kernel
theorem dX2_isNearer_46 : decode cX2_isNearer 46 = .ok (.aload_n 0, 1) := by decide +kernel
theorem dX2_isNearer_47 : decode cX2_isNearer 47 = .ok (.getfield 9, 3) := by decide +kernel
theorem dX2_isNearer_50 : decode cX2_isNearer 50 = .ok (.iload_n 3, 1) := by decide +kernel
theorem dX2_isNearer_51 : decode cX2_isNearer 51 = .ok (.iaload, 1) := by decide +kernel
theorem dX2_isNearer_52 : decode cX2_isNearer 52 = .ok (.if_icmp .ge 7, 3) := by decide +kernel
theorem dX2_isNearer_55 : decode cX2_isNearer 55 = .ok (.iconst 1, 1) := by decide +kernel
theorem dX2_isNearer_56 : decode cX2_isNearer 56 = .ok (.goto 4, 3) := by decide +kernel
theorem dX2_isNearer_59 : decode cX2_isNearer 59 = .ok (.iconst 0, 1) := by decide +kernel
theorem dX2_isNearer_60 : decode cX2_isNearer 60 = .ok (.ireturn, 1) := by decide +kernel
theorem dX2_farToNearest_0 : decode cX2_farToNearest 0 = .ok (.aload_n 0, 1) := by decide +kernel
theorem dX2_farToNearest_1 : decode cX2_farToNearest 1 = .ok (.iload_n 1, 1) := by decide +kernel
theorem dX2_farToNearest_2 : decode cX2_farToNearest 2 = .ok (.iload_n 2, 1) := by decide +kernel
theorem dX2_farToNearest_3 : decode cX2_farToNearest 3 = .ok (.invokevirtual 72, 3) := by decide +kernel
theorem dX2_farToNearest_6 : decode cX2_farToNearest 6 = .ok (.istore_n 3, 1) := by decide +kernel
theorem dX2_farToNearest_7 : decode cX2_farToNearest 7 = .ok (.iload_n 3, 1) := by decide +kernel
theorem dX2_farToNearest_8 : decode cX2_farToNearest 8 = .ok (.bipush (-9), 2) := by decide +kernel
theorem dX2_farToNearest_10 : decode cX2_farToNearest 10 = .ok (.if_icmp .ne 8, 3) := by decide +kernel
theorem dX2_farToNearest_13 : decode cX2_farToNearest 13 = .ok (.bipush (-9), 2) := by decide +kernel
theorem dX2_farToNearest_15 : decode cX2_farToNearest 15 = .ok (.goto 14, 3) := by decide +kernel
theorem dX2_farToNearest_18 : decode cX2_farToNearest 18 = .ok (.aload_n 0, 1) := by decide +kernel
theorem dX2_farToNearest_19 : decode cX2_farToNearest 19 = .ok (.getfield 9, 3) := by decide +kernel
theorem dX2_farToNearest_22 : decode cX2_farToNearest 22 = .ok (.iload_n 3, 1) := by decide +kernel
theorem dX2_farToNearest_23 : decode cX2_farToNearest 23 = .ok (.iaload, 1) := by decide +kernel
theorem dX2_farToNearest_24 : decode cX2_farToNearest 24 = .ok (.iload_n 1, 1) := by decide +kernel
theorem dX2_farToNearest_25 : decode cX2_farToNearest 25 = .ok (.isub, 1) := by decide +kernel
theorem dX2_farToNearest_26 : decode cX2_farToNearest 26 = .ok (.invokestatic 83, 3) := by decide +kernel
theorem dX2_farToNearest_29 : decode cX2_farToNearest 29 = .ok (.ireturn, 1) := by decide +kernel
theorem dX2_wayOf_0 : decode cX2_wayOf 0 = .ok (.aload_n 0, 1) := by decide +kernel
theorem dX2_wayOf_1 : decode cX2_wayOf 1 = .ok (.getfield 24, 3) := by decide +kernel
theorem dX2_wayOf_4 : decode cX2_wayOf 4 = .ok (.iload_n 1, 1) := by decide +kernel
theorem dX2_wayOf_5 : decode cX2_wayOf 5 = .ok (.iaload, 1) := by decide +kernel
theorem dX2_wayOf_6 : decode cX2_wayOf 6 = .ok (.istore_n 2, 1) := by decide +kernel
theorem dX2_wayOf_7 : decode cX2_wayOf 7 = .ok (.iload_n 2, 1) := by decide +kernel
theorem dX2_wayOf_8 : decode cX2_wayOf 8 = .ok (.iconst 2, 1) := by decide +kernel
theorem dX2_wayOf_9 : decode cX2_wayOf 9 = .ok (.if_icmp .eq 8, 3) := by decide +kernel
theorem dX2_wayOf_12 : decode cX2_wayOf 12 = .ok (.iload_n 2, 1) := by decide +kernel
theorem dX2_wayOf_13 : decode cX2_wayOf 13 = .ok (.iconst 4, 1) := by decide +kernel
theorem dX2_wayOf_14 : decode cX2_wayOf 14 = .ok (.if_icmp .ne 5, 3) := by decide +kernel
theorem dX2_wayOf_17 : decode cX2_wayOf 17 = .ok (.iconst 0, 1) := by decide +kernel
theorem dX2_wayOf_18 : decode cX2_wayOf 18 = .ok (.ireturn, 1) := by decide +kernel
theorem dX2_wayOf_19 : decode cX2_wayOf 19 = .ok (.iload_n 2, 1) := by decide +kernel
theorem dX2_wayOf_20 : decode cX2_wayOf 20 = .ok (.iconst 3, 1) := by decide +kernel
theorem dX2_wayOf_21 : decode cX2_wayOf 21 = .ok (.if_icmp .ne 7, 3) := by decide +kernel
theorem dX2_wayOf_24 : decode cX2_wayOf 24 = .ok (.iconst 5, 1) := by decide +kernel
theorem dX2_wayOf_25 : decode cX2_wayOf 25 = .ok (.goto 4, 3) := by decide +kernel
theorem dX2_wayOf_28 : decode cX2_wayOf 28 = .ok (.iconst 0, 1) := by decide +kernel
theorem dX2_wayOf_29 : decode cX2_wayOf 29 = .ok (.istore_n 3, 1) := by decide +kernel
theorem dX2_wayOf_30 : decode cX2_wayOf 30 = .ok (.aload_n 0, 1) := by decide +kernel
theorem dX2_wayOf_31 : decode cX2_wayOf 31 = .ok (.getfield 39, 3) := by decide +kernel
theorem dX2_wayOf_34 : decode cX2_wayOf 34 = .ok (.iload_n 3, 1) := by decide +kernel
theorem dX2_wayOf_35 : decode cX2_wayOf 35 = .ok (.aload_n 0, 1) := by decide +kernel
theorem dX2_wayOf_36 : decode cX2_wayOf 36 = .ok (.getfield 30, 3) := by decide +kernel
theorem dX2_wayOf_39 : decode cX2_wayOf 39 = .ok (.iload_n 1, 1) := by decide +kernel
theorem dX2_wayOf_40 : decode cX2_wayOf 40 = .ok (.iaload, 1) := by decide +kernel
theorem dX2_wayOf_41 : decode cX2_wayOf 41 = .ok (.iadd, 1) := by decide +kernel
theorem dX2_wayOf_42 : decode cX2_wayOf 42 = .ok (.bipush 20, 2) := by decide +kernel
theorem dX2_wayOf_44 : decode cX2_wayOf 44 = .ok (.imul, 1) := by decide +kernel
theorem dX2_wayOf_45 : decode cX2_wayOf 45 = .ok (.aload_n 0, 1) := by decide +kernel
theorem dX2_wayOf_46 : decode cX2_wayOf 46 = .ok (.getfield 27, 3) := by decide +kernel
theorem dX2_wayOf_49 : decode cX2_wayOf 49 = .ok (.iload_n 1, 1) := by decide +kernel
theorem dX2_wayOf_50 : decode cX2_wayOf 50 = .ok (.iaload, 1) := by decide +kernel
theorem dX2_wayOf_51 : decode cX2_wayOf 51 = .ok (.iadd, 1) := by decide +kernel
theorem dX2_wayOf_52 : decode cX2_wayOf 52 = .ok (.iaload, 1) := by decide +kernel
theorem dX2_wayOf_53 : decode cX2_wayOf 53 = .ok (.ireturn, 1) := by decide +kernel
theorem dX2_isOfKind_0 : decode cX2_isOfKind 0 = .ok (.aload_n 0, 1) := by decide +kernel
theorem dX2_isOfKind_1 : decode cX2_isOfKind 1 = .ok (.getfield 24, 3) := by decide +kernel
theorem dX2_isOfKind_4 : decode cX2_isOfKind 4 = .ok (.iload_n 1, 1) := by decide +kernel
theorem dX2_isOfKind_5 : decode cX2_isOfKind 5 = .ok (.iaload, 1) := by decide +kernel
theorem dX2_isOfKind_6 : decode cX2_isOfKind 6 = .ok (.iload_n 2, 1) := by decide +kernel
theorem dX2_isOfKind_7 : decode cX2_isOfKind 7 = .ok (.if_icmp .eq 33, 3) := by decide +kernel
theorem dX2_isOfKind_10 : decode cX2_isOfKind 10 = .ok (.iload_n 2, 1) := by decide +kernel
theorem dX2_isOfKind_11 : decode cX2_isOfKind 11 = .ok (.iconst 1, 1) := by decide +kernel
theorem dX2_isOfKind_12 : decode cX2_isOfKind 12 = .ok (.if_icmp .ne 13, 3) := by decide +kernel
theorem dX2_isOfKind_15 : decode cX2_isOfKind 15 = .ok (.aload_n 0, 1) := by decide +kernel
theorem dX2_isOfKind_16 : decode cX2_isOfKind 16 = .ok (.getfield 24, 3) := by decide +kernel
theorem dX2_isOfKind_19 : decode cX2_isOfKind 19 = .ok (.iload_n 1, 1) := by decide +kernel
theorem dX2_isOfKind_20 : decode cX2_isOfKind 20 = .ok (.iaload, 1) := by decide +kernel
theorem dX2_isOfKind_21 : decode cX2_isOfKind 21 = .ok (.iconst 5, 1) := by decide +kernel
theorem dX2_isOfKind_22 : decode cX2_isOfKind 22 = .ok (.if_icmp .eq 18, 3) := by decide +kernel
theorem dX2_isOfKind_25 : decode cX2_isOfKind 25 = .ok (.iload_n 2, 1) := by decide +kernel
theorem dX2_isOfKind_26 : decode cX2_isOfKind 26 = .ok (.iconst 2, 1) := by decide +kernel
theorem dX2_isOfKind_27 : decode cX2_isOfKind 27 = .ok (.if_icmp .ne 17, 3) := by decide +kernel
theorem dX2_isOfKind_30 : decode cX2_isOfKind 30 = .ok (.aload_n 0, 1) := by decide +kernel
theorem dX2_isOfKind_31 : decode cX2_isOfKind 31 = .ok (.getfield 24, 3) := by decide +kernel
theorem dX2_isOfKind_34 : decode cX2_isOfKind 34 = .ok (.iload_n 1, 1) := by decide +kernel
theorem dX2_isOfKind_35 : decode cX2_isOfKind 35 = .ok (.iaload, 1) := by decide +kernel
theorem dX2_isOfKind_36 : decode cX2_isOfKind 36 = .ok (.iconst 4, 1) := by decide +kernel
theorem dX2_isOfKind_37 : decode cX2_isOfKind 37 = .ok (.if_icmp .ne 7, 3) := by decide +kernel
theorem dX2_isOfKind_40 : decode cX2_isOfKind 40 = .ok (.iconst 1, 1) := by decide +kernel
theorem dX2_isOfKind_41 : decode cX2_isOfKind 41 = .ok (.goto 4, 3) := by decide +kernel
theorem dX2_isOfKind_44 : decode cX2_isOfKind 44 = .ok (.iconst 0, 1) := by decide +kernel
theorem dX2_isOfKind_45 : decode cX2_isOfKind 45 = .ok (.ireturn, 1) := by decide +kernel
theorem dX2_isRich_0 : decode cX2_isRich 0 = .ok (.aload_n 0, 1) := by decide +kernel
theorem dX2_isRich_1 : decode cX2_isRich 1 = .ok (.getfield 24, 3) := by decide +kernel
theorem dX2_isRich_4 : decode cX2_isRich 4 = .ok (.iload_n 1, 1) := by decide +kernel
theorem dX2_isRich_5 : decode cX2_isRich 5 = .ok (.iaload, 1) := by decide +kernel
theorem dX2_isRich_6 : decode cX2_isRich 6 = .ok (.iconst 1, 1) := by decide +kernel
theorem dX2_isRich_7 : decode cX2_isRich 7 = .ok (.if_icmp .eq 13, 3) := by decide +kernel
theorem dX2_isRich_10 : decode cX2_isRich 10 = .ok (.aload_n 0, 1) := by decide +kernel
theorem dX2_isRich_11 : decode cX2_isRich 11 = .ok (.getfield 24, 3) := by decide +kernel
theorem dX2_isRich_14 : decode cX2_isRich 14 = .ok (.iload_n 1, 1) := by decide +kernel
theorem dX2_isRich_15 : decode cX2_isRich 15 = .ok (.iaload, 1) := by decide +kernel
theorem dX2_isRich_16 : decode cX2_isRich 16 = .ok (.iconst 5, 1) := by decide +kernel
theorem dX2_isRich_17 : decode cX2_isRich 17 = .ok (.if_icmp .ne 7, 3) := by decide +kernel
theorem dX2_isRich_20 : decode cX2_isRich 20 = .ok (.iconst 1, 1) := by decide +kernel
theorem dX2_isRich_21 : decode cX2_isRich 21 = .ok (.goto 4, 3) := by decide +kernel
theorem dX2_isRich_24 : decode cX2_isRich 24 = .ok (.iconst 0, 1) := by decide +kernel
theorem dX2_isRich_25 : decode cX2_isRich 25 = .ok (.ireturn, 1) := by decide +kernel
theorem dX2_passMinute_0 : decode cX2_passMinute 0 = .ok (.iconst 0, 1) := by decide +kernel
theorem dX2_passMinute_1 : decode cX2_passMinute 1 = .ok (.istore_n 2, 1) := by decide +kernel
theorem dX2_passMinute_2 : decode cX2_passMinute 2 = .ok (.iload_n 2, 1) := by decide +kernel
theorem dX2_passMinute_3 : decode cX2_passMinute 3 = .ok (.aload_n 0, 1) := by decide +kernel
theorem dX2_passMinute_4 : decode cX2_passMinute 4 = .ok (.getfield 52, 3) := by decide +kernel
theorem dX2_passMinute_7 : decode cX2_passMinute 7 = .ok (.if_icmp .ge 47, 3) := by decide +kernel
theorem dX2_passMinute_10 : decode cX2_passMinute 10 = .ok (.aload_n 0, 1) := by decide +kernel
theorem dX2_passMinute_11 : decode cX2_passMinute 11 = .ok (.iload_n 2, 1) := by decide +kernel
theorem dX2_passMinute_12 : decode cX2_passMinute 12 = .ok (.invokevirtual 89, 3) := by decide +kernel
theorem dX2_passMinute_15 : decode cX2_passMinute 15 = .ok (.ifCond .eq 33, 3) := by decide +kernel
theorem dX2_passMinute_18 : decode cX2_passMinute 18 = .ok (.aload_n 0, 1) := by decide +kernel
theorem dX2_passMinute_19 : decode cX2_passMinute 19 = .ok (.iload_n 2, 1) := by decide +kernel
theorem dX2_passMinute_20 : decode cX2_passMinute 20 = .ok (.aload_n 0, 1) := by decide +kernel
theorem dX2_passMinute_21 : decode cX2_passMinute 21 = .ok (.iload_n 2, 1) := by decide +kernel
theorem dX2_passMinute_22 : decode cX2_passMinute 22 = .ok (.invokevirtual 93, 3) := by decide +kernel
theorem dX2_passMinute_25 : decode cX2_passMinute 25 = .ok (.invokevirtual 96, 3) := by decide +kernel
theorem dX2_passMinute_28 : decode cX2_passMinute 28 = .ok (.aload_n 0, 1) := by decide +kernel
theorem dX2_passMinute_29 : decode cX2_passMinute 29 = .ok (.getfield 24, 3) := by decide +kernel
theorem dX2_passMinute_32 : decode cX2_passMinute 32 = .ok (.iload_n 2, 1) := by decide +kernel
theorem dX2_passMinute_33 : decode cX2_passMinute 33 = .ok (.iaload, 1) := by decide +kernel
theorem dX2_passMinute_34 : decode cX2_passMinute 34 = .ok (.iconst 5, 1) := by decide +kernel
theorem dX2_passMinute_35 : decode cX2_passMinute 35 = .ok (.if_icmp .ne 13, 3) := by decide +kernel
theorem dX2_passMinute_38 : decode cX2_passMinute 38 = .ok (.aload_n 0, 1) := by decide +kernel
theorem dX2_passMinute_39 : decode cX2_passMinute 39 = .ok (.iload_n 2, 1) := by decide +kernel
theorem dX2_passMinute_40 : decode cX2_passMinute 40 = .ok (.aload_n 0, 1) := by decide +kernel
theorem dX2_passMinute_41 : decode cX2_passMinute 41 = .ok (.iload_n 2, 1) := by decide +kernel
theorem dX2_passMinute_42 : decode cX2_passMinute 42 = .ok (.invokevirtual 93, 3) := by decide +kernel
theorem dX2_passMinute_45 : decode cX2_passMinute 45 = .ok (.invokevirtual 96, 3) := by decide +kernel
theorem dX2_passMinute_48 : decode cX2_passMinute 48 = .ok (.iinc 2 1, 3) := by decide +kernel
theorem dX2_passMinute_51 : decode cX2_passMinute 51 = .ok (.goto (-49), 3) := by decide +kernel
theorem dX2_passMinute_54 : decode cX2_passMinute 54 = .ok (.iconst 0, 1) := by decide +kernel
theorem dX2_passMinute_55 : decode cX2_passMinute 55 = .ok (.istore_n 2, 1) := by decide +kernel
theorem dX2_passMinute_56 : decode cX2_passMinute 56 = .ok (.iload_n 2, 1) := by decide +kernel
theorem dX2_passMinute_57 : decode cX2_passMinute 57 = .ok (.aload_n 0, 1) := by decide +kernel
theorem dX2_passMinute_58 : decode cX2_passMinute 58 = .ok (.getfield 52, 3) := by decide +kernel
theorem dX2_passMinute_61 : decode cX2_passMinute 61 = .ok (.if_icmp .ge 27, 3) := by decide +kernel
theorem dX2_passMinute_64 : decode cX2_passMinute 64 = .ok (.aload_n 0, 1) := by decide +kernel
theorem dX2_passMinute_65 : decode cX2_passMinute 65 = .ok (.iload_n 2, 1) := by decide +kernel
theorem dX2_passMinute_66 : decode cX2_passMinute 66 = .ok (.invokevirtual 89, 3) := by decide +kernel
theorem dX2_passMinute_69 : decode cX2_passMinute 69 = .ok (.ifCond .ne 13, 3) := by decide +kernel
theorem dX2_passMinute_72 : decode cX2_passMinute 72 = .ok (.aload_n 0, 1) := by decide +kernel
theorem dX2_passMinute_73 : decode cX2_passMinute 73 = .ok (.iload_n 2, 1) := by decide +kernel
theorem dX2_passMinute_74 : decode cX2_passMinute 74 = .ok (.aload_n 0, 1) := by decide +kernel
theorem dX2_passMinute_75 : decode cX2_passMinute 75 = .ok (.iload_n 2, 1) := by decide +kernel
theorem dX2_passMinute_76 : decode cX2_passMinute 76 = .ok (.invokevirtual 93, 3) := by decide +kernel
theorem dX2_passMinute_79 : decode cX2_passMinute 79 = .ok (.invokevirtual 100, 3) := by decide +kernel
theorem dX2_passMinute_82 : decode cX2_passMinute 82 = .ok (.iinc 2 1, 3) := by decide +kernel
theorem dX2_passMinute_85 : decode cX2_passMinute 85 = .ok (.goto (-29), 3) := by decide +kernel
theorem dX2_passMinute_88 : decode cX2_passMinute 88 = .ok (.aload_n 0, 1) := by decide +kernel
theorem dX2_passMinute_89 : decode cX2_passMinute 89 = .ok (.dup, 1) := by decide +kernel
theorem dX2_passMinute_90 : decode cX2_passMinute 90 = .ok (.getfield 46, 3) := by decide +kernel
theorem dX2_passMinute_93 : decode cX2_passMinute 93 = .ok (.iconst 1, 1) := by decide +kernel
theorem dX2_passMinute_94 : decode cX2_passMinute 94 = .ok (.iadd, 1) := by decide +kernel
theorem dX2_passMinute_95 : decode cX2_passMinute 95 = .ok (.putfield 46, 3) := by decide +kernel
theorem dX2_passMinute_98 : decode cX2_passMinute 98 = .ok (.aload_n 0, 1) := by decide +kernel
theorem dX2_passMinute_99 : decode cX2_passMinute 99 = .ok (.aload_n 0, 1) := by decide +kernel
theorem dX2_passMinute_100 : decode cX2_passMinute 100 = .ok (.invokevirtual 103, 3) := by decide +kernel
theorem dX2_passMinute_103 : decode cX2_passMinute 103 = .ok (.iload_n 1, 1) := by decide +kernel
theorem dX2_passMinute_104 : decode cX2_passMinute 104 = .ok (.iadd, 1) := by decide +kernel
theorem dX2_passMinute_105 : decode cX2_passMinute 105 = .ok (.invokevirtual 107, 3) := by decide +kernel
theorem dX2_passMinute_108 : decode cX2_passMinute 108 = .ok (.ireturn, 1) := by decide +kernel
theorem dX2_sun_0 : decode cX2_sun 0 = .ok (.aload_n 0, 1) := by decide +kernel
theorem dX2_sun_1 : decode cX2_sun 1 = .ok (.getfield 46, 3) := by decide +kernel
theorem dX2_sun_4 : decode cX2_sun 4 = .ok (.bipush 7, 2) := by decide +kernel
theorem dX2_sun_6 : decode cX2_sun 6 = .ok (.irem, 1) := by decide +kernel
theorem dX2_sun_7 : decode cX2_sun 7 = .ok (.iconst 3, 1) := by decide +kernel
theorem dX2_sun_8 : decode cX2_sun 8 = .ok (.isub, 1) := by decide +kernel
theorem dX2_sun_9 : decode cX2_sun 9 = .ok (.ireturn, 1) := by decide +kernel
theorem dX2_holds_0 : decode cX2_holds 0 = .ok (.aload_n 0, 1) := by decide +kernel
theorem dX2_holds_1 : decode cX2_holds 1 = .ok (.getfield 27, 3) := by decide +kernel
theorem dX2_holds_4 : decode cX2_holds 4 = .ok (.iload_n 1, 1) := by decide +kernel
theorem dX2_holds_5 : decode cX2_holds 5 = .ok (.iaload, 1) := by decide +kernel
theorem dX2_holds_6 : decode cX2_holds 6 = .ok (.iload_n 3, 1) := by decide +kernel
theorem dX2_holds_7 : decode cX2_holds 7 = .ok (.iadd, 1) := by decide +kernel
theorem dX2_holds_8 : decode cX2_holds 8 = .ok (.aload_n 0, 1) := by decide +kernel
theorem dX2_holds_9 : decode cX2_holds 9 = .ok (.getfield 27, 3) := by decide +kernel
theorem dX2_holds_12 : decode cX2_holds 12 = .ok (.iload_n 1, 1) := by decide +kernel
theorem dX2_holds_13 : decode cX2_holds 13 = .ok (.iconst 1, 1) := by decide +kernel
theorem dX2_holds_14 : decode cX2_holds 14 = .ok (.isub, 1) := by decide +kernel
theorem dX2_holds_15 : decode cX2_holds 15 = .ok (.iaload, 1) := by decide +kernel
theorem dX2_holds_16 : decode cX2_holds 16 = .ok (.isub, 1) := by decide +kernel
theorem dX2_holds_17 : decode cX2_holds 17 = .ok (.iload_n 2, 1) := by decide +kernel
theorem dX2_holds_18 : decode cX2_holds 18 = .ok (.isub, 1) := by decide +kernel
theorem dX2_holds_19 : decode cX2_holds 19 = .ok (.istore 4, 2) := by decide +kernel
theorem dX2_holds_21 : decode cX2_holds 21 = .ok (.iload 4, 2) := by decide +kernel
theorem dX2_holds_23 : decode cX2_holds 23 = .ok (.ifCond .le 18, 3) := by decide +kernel
theorem dX2_holds_26 : decode cX2_holds 26 = .ok (.iload 4, 2) := by decide +kernel
theorem dX2_holds_28 : decode cX2_holds 28 = .ok (.aload_n 0, 1) := by decide +kernel
theorem dX2_holds_29 : decode cX2_holds 29 = .ok (.getfield 36, 3) := by decide +kernel
theorem dX2_holds_32 : decode cX2_holds 32 = .ok (.iload_n 1, 1) := by decide +kernel
theorem dX2_holds_33 : decode cX2_holds 33 = .ok (.iaload, 1) := by decide +kernel
theorem dX2_holds_34 : decode cX2_holds 34 = .ok (.if_icmp .gt 7, 3) := by decide +kernel
theorem dX2_holds_37 : decode cX2_holds 37 = .ok (.iconst 1, 1) := by decide +kernel
theorem dX2_holds_38 : decode cX2_holds 38 = .ok (.goto 4, 3) := by decide +kernel
theorem dX2_holds_41 : decode cX2_holds 41 = .ok (.iconst 0, 1) := by decide +kernel
theorem dX2_holds_42 : decode cX2_holds 42 = .ok (.ireturn, 1) := by decide +kernel
theorem dX2_walk_0 : decode cX2_walk 0 = .ok (.iload_n 2, 1) := by decide +kernel
theorem dX2_walk_1 : decode cX2_walk 1 = .ok (.ifCond .eq 19, 3) := by decide +kernel
theorem dX2_walk_4 : decode cX2_walk 4 = .ok (.aload_n 0, 1) := by decide +kernel
theorem dX2_walk_5 : decode cX2_walk 5 = .ok (.getfield 27, 3) := by decide +kernel
theorem dX2_walk_8 : decode cX2_walk 8 = .ok (.iload_n 1, 1) := by decide +kernel
theorem dX2_walk_9 : decode cX2_walk 9 = .ok (.iaload, 1) := by decide +kernel
theorem dX2_walk_10 : decode cX2_walk 10 = .ok (.iload_n 2, 1) := by decide +kernel
theorem dX2_walk_11 : decode cX2_walk 11 = .ok (.iadd, 1) := by decide +kernel
theorem dX2_walk_12 : decode cX2_walk 12 = .ok (.bipush 20, 2) := by decide +kernel
theorem dX2_walk_14 : decode cX2_walk 14 = .ok (.invokestatic 110, 3) := by decide +kernel
theorem dX2_walk_17 : decode cX2_walk 17 = .ok (.ifCond .ne 4, 3) := by decide +kernel
theorem dX2_walk_20 : decode cX2_walk 20 = .ok (.return_, 1) := by decide +kernel
theorem dX2_walk_21 : decode cX2_walk 21 = .ok (.iload_n 1, 1) := by decide +kernel
theorem dX2_walk_22 : decode cX2_walk 22 = .ok (.ifCond .le 13, 3) := by decide +kernel
theorem dX2_walk_25 : decode cX2_walk 25 = .ok (.aload_n 0, 1) := by decide +kernel
theorem dX2_walk_26 : decode cX2_walk 26 = .ok (.iload_n 1, 1) := by decide +kernel
theorem dX2_walk_27 : decode cX2_walk 27 = .ok (.iconst 0, 1) := by decide +kernel
theorem dX2_walk_28 : decode cX2_walk 28 = .ok (.iload_n 2, 1) := by decide +kernel
theorem dX2_walk_29 : decode cX2_walk 29 = .ok (.invokevirtual 113, 3) := by decide +kernel
theorem dX2_walk_32 : decode cX2_walk 32 = .ok (.ifCond .eq 25, 3) := by decide +kernel
theorem dX2_walk_35 : decode cX2_walk 35 = .ok (.iload_n 1, 1) := by decide +kernel
theorem dX2_walk_36 : decode cX2_walk 36 = .ok (.iconst 1, 1) := by decide +kernel
theorem dX2_walk_37 : decode cX2_walk 37 = .ok (.iadd, 1) := by decide +kernel
theorem dX2_walk_38 : decode cX2_walk 38 = .ok (.aload_n 0, 1) := by decide +kernel
theorem dX2_walk_39 : decode cX2_walk 39 = .ok (.getfield 52, 3) := by decide +kernel
theorem dX2_walk_42 : decode cX2_walk 42 = .ok (.if_icmp .ge 16, 3) := by decide +kernel
theorem dX2_walk_45 : decode cX2_walk 45 = .ok (.aload_n 0, 1) := by decide +kernel
theorem dX2_walk_46 : decode cX2_walk 46 = .ok (.iload_n 1, 1) := by decide +kernel
theorem dX2_walk_47 : decode cX2_walk 47 = .ok (.iconst 1, 1) := by decide +kernel
theorem dX2_walk_48 : decode cX2_walk 48 = .ok (.iadd, 1) := by decide +kernel
theorem dX2_walk_49 : decode cX2_walk 49 = .ok (.iload_n 2, 1) := by decide +kernel
theorem dX2_walk_50 : decode cX2_walk 50 = .ok (.iconst 0, 1) := by decide +kernel
theorem dX2_walk_51 : decode cX2_walk 51 = .ok (.invokevirtual 113, 3) := by decide +kernel
theorem dX2_walk_54 : decode cX2_walk 54 = .ok (.ifCond .ne 4, 3) := by decide +kernel
theorem dX2_walk_57 : decode cX2_walk 57 = .ok (.return_, 1) := by decide +kernel
theorem dX2_walk_58 : decode cX2_walk 58 = .ok (.aload_n 0, 1) := by decide +kernel
theorem dX2_walk_59 : decode cX2_walk 59 = .ok (.getfield 27, 3) := by decide +kernel
theorem dX2_walk_62 : decode cX2_walk 62 = .ok (.iload_n 1, 1) := by decide +kernel
theorem dX2_walk_63 : decode cX2_walk 63 = .ok (.dup2, 1) := by decide +kernel
theorem dX2_walk_64 : decode cX2_walk 64 = .ok (.iaload, 1) := by decide +kernel
theorem dX2_walk_65 : decode cX2_walk 65 = .ok (.iload_n 2, 1) := by decide +kernel
theorem dX2_walk_66 : decode cX2_walk 66 = .ok (.iadd, 1) := by decide +kernel
theorem dX2_walk_67 : decode cX2_walk 67 = .ok (.iastore, 1) := by decide +kernel
theorem dX2_walk_68 : decode cX2_walk 68 = .ok (.return_, 1) := by decide +kernel
theorem dX2_pull_0 : decode cX2_pull 0 = .ok (.iload_n 2, 1) := by decide +kernel
theorem dX2_pull_1 : decode cX2_pull 1 = .ok (.ifCond .ne 4, 3) := by decide +kernel
theorem dX2_pull_4 : decode cX2_pull 4 = .ok (.return_, 1) := by decide +kernel
theorem dX2_pull_5 : decode cX2_pull 5 = .ok (.aload_n 0, 1) := by decide +kernel
theorem dX2_pull_6 : decode cX2_pull 6 = .ok (.iload_n 1, 1) := by decide +kernel
theorem dX2_pull_7 : decode cX2_pull 7 = .ok (.iload_n 2, 1) := by decide +kernel
theorem dX2_pull_8 : decode cX2_pull 8 = .ok (.invokevirtual 116, 3) := by decide +kernel
theorem dX2_pull_11 : decode cX2_pull 11 = .ok (.istore_n 3, 1) := by decide +kernel
theorem dX2_pull_12 : decode cX2_pull 12 = .ok (.aload_n 0, 1) := by decide +kernel
theorem dX2_pull_13 : decode cX2_pull 13 = .ok (.iload_n 1, 1) := by decide +kernel
theorem dX2_pull_14 : decode cX2_pull 14 = .ok (.iload_n 2, 1) := by decide +kernel
theorem dX2_pull_15 : decode cX2_pull 15 = .ok (.invokevirtual 119, 3) := by decide +kernel
theorem dX2_pull_18 : decode cX2_pull 18 = .ok (.istore 4, 2) := by decide +kernel
theorem dX2_pull_20 : decode cX2_pull 20 = .ok (.aload_n 0, 1) := by decide +kernel
theorem dX2_pull_21 : decode cX2_pull 21 = .ok (.iload_n 3, 1) := by decide +kernel
theorem dX2_pull_22 : decode cX2_pull 22 = .ok (.iload 4, 2) := by decide +kernel
theorem dX2_pull_24 : decode cX2_pull 24 = .ok (.iload_n 2, 1) := by decide +kernel
theorem dX2_pull_25 : decode cX2_pull 25 = .ok (.invokevirtual 122, 3) := by decide +kernel
theorem dX2_pull_28 : decode cX2_pull 28 = .ok (.ifCond .eq 30, 3) := by decide +kernel
theorem dX2_pull_31 : decode cX2_pull 31 = .ok (.iload_n 3, 1) := by decide +kernel
theorem dX2_pull_32 : decode cX2_pull 32 = .ok (.istore 5, 2) := by decide +kernel
theorem dX2_pull_34 : decode cX2_pull 34 = .ok (.iload 5, 2) := by decide +kernel
theorem dX2_pull_36 : decode cX2_pull 36 = .ok (.iload 4, 2) := by decide +kernel
theorem dX2_pull_38 : decode cX2_pull 38 = .ok (.if_icmp .gt 20, 3) := by decide +kernel
theorem dX2_pull_41 : decode cX2_pull 41 = .ok (.aload_n 0, 1) := by decide +kernel
theorem dX2_pull_42 : decode cX2_pull 42 = .ok (.getfield 27, 3) := by decide +kernel
theorem dX2_pull_45 : decode cX2_pull 45 = .ok (.iload 5, 2) := by decide +kernel
theorem dX2_pull_47 : decode cX2_pull 47 = .ok (.dup2, 1) := by decide +kernel
theorem dX2_pull_48 : decode cX2_pull 48 = .ok (.iaload, 1) := by decide +kernel
theorem dX2_pull_49 : decode cX2_pull 49 = .ok (.iload_n 2, 1) := by decide +kernel
theorem dX2_pull_50 : decode cX2_pull 50 = .ok (.iadd, 1) := by decide +kernel
theorem dX2_pull_51 : decode cX2_pull 51 = .ok (.iastore, 1) := by decide +kernel
theorem dX2_pull_52 : decode cX2_pull 52 = .ok (.iinc 5 1, 3) := by decide +kernel
theorem dX2_pull_55 : decode cX2_pull 55 = .ok (.goto (-21), 3) := by decide +kernel
theorem dX2_pull_58 : decode cX2_pull 58 = .ok (.return_, 1) := by decide +kernel
theorem dX2_canGo_0 : decode cX2_canGo 0 = .ok (.iload_n 1, 1) := by decide +kernel
theorem dX2_canGo_1 : decode cX2_canGo 1 = .ok (.bipush (-9), 2) := by decide +kernel
theorem dX2_canGo_3 : decode cX2_canGo 3 = .ok (.if_icmp .eq 37, 3) := by decide +kernel
theorem dX2_canGo_6 : decode cX2_canGo 6 = .ok (.iload_n 2, 1) := by decide +kernel
theorem dX2_canGo_7 : decode cX2_canGo 7 = .ok (.bipush (-9), 2) := by decide +kernel
theorem dX2_canGo_9 : decode cX2_canGo 9 = .ok (.if_icmp .eq 31, 3) := by decide +kernel
theorem dX2_canGo_12 : decode cX2_canGo 12 = .ok (.aload_n 0, 1) := by decide +kernel
theorem dX2_canGo_13 : decode cX2_canGo 13 = .ok (.getfield 27, 3) := by decide +kernel
theorem dX2_canGo_16 : decode cX2_canGo 16 = .ok (.iload_n 1, 1) := by decide +kernel
theorem dX2_canGo_17 : decode cX2_canGo 17 = .ok (.iaload, 1) := by decide +kernel
theorem dX2_canGo_18 : decode cX2_canGo 18 = .ok (.iload_n 3, 1) := by decide +kernel
theorem dX2_canGo_19 : decode cX2_canGo 19 = .ok (.iadd, 1) := by decide +kernel
theorem dX2_canGo_20 : decode cX2_canGo 20 = .ok (.ifCond .lt 20, 3) := by decide +kernel
theorem dX2_canGo_23 : decode cX2_canGo 23 = .ok (.aload_n 0, 1) := by decide +kernel
theorem dX2_canGo_24 : decode cX2_canGo 24 = .ok (.getfield 27, 3) := by decide +kernel
theorem dX2_canGo_27 : decode cX2_canGo 27 = .ok (.iload_n 2, 1) := by decide +kernel
theorem dX2_canGo_28 : decode cX2_canGo 28 = .ok (.iaload, 1) := by decide +kernel
theorem dX2_canGo_29 : decode cX2_canGo 29 = .ok (.iload_n 3, 1) := by decide +kernel
theorem dX2_canGo_30 : decode cX2_canGo 30 = .ok (.iadd, 1) := by decide +kernel
theorem dX2_canGo_31 : decode cX2_canGo 31 = .ok (.bipush 20, 2) := by decide +kernel
theorem dX2_canGo_33 : decode cX2_canGo 33 = .ok (.if_icmp .ge 7, 3) := by decide +kernel
theorem dX2_canGo_36 : decode cX2_canGo 36 = .ok (.iconst 1, 1) := by decide +kernel
theorem dX2_canGo_37 : decode cX2_canGo 37 = .ok (.goto 4, 3) := by decide +kernel
theorem dX2_canGo_40 : decode cX2_canGo 40 = .ok (.iconst 0, 1) := by decide +kernel
theorem dX2_canGo_41 : decode cX2_canGo 41 = .ok (.ireturn, 1) := by decide +kernel
theorem dX2_firstTaken_0 : decode cX2_firstTaken 0 = .ok (.iload_n 1, 1) := by decide +kernel
theorem dX2_firstTaken_1 : decode cX2_firstTaken 1 = .ok (.istore_n 3, 1) := by decide +kernel
theorem dX2_firstTaken_2 : decode cX2_firstTaken 2 = .ok (.iload_n 3, 1) := by decide +kernel
theorem dX2_firstTaken_3 : decode cX2_firstTaken 3 = .ok (.ifCond .le 27, 3) := by decide +kernel
theorem dX2_firstTaken_6 : decode cX2_firstTaken 6 = .ok (.aload_n 0, 1) := by decide +kernel
theorem dX2_firstTaken_7 : decode cX2_firstTaken 7 = .ok (.iload_n 3, 1) := by decide +kernel
theorem dX2_firstTaken_8 : decode cX2_firstTaken 8 = .ok (.iconst 0, 1) := by decide +kernel
theorem dX2_firstTaken_9 : decode cX2_firstTaken 9 = .ok (.iload_n 2, 1) := by decide +kernel
theorem dX2_firstTaken_10 : decode cX2_firstTaken 10 = .ok (.invokevirtual 113, 3) := by decide +kernel
theorem dX2_firstTaken_13 : decode cX2_firstTaken 13 = .ok (.ifCond .ne 17, 3) := by decide +kernel
theorem dX2_firstTaken_16 : decode cX2_firstTaken 16 = .ok (.iinc 3 (-1), 3) := by decide +kernel
theorem dX2_firstTaken_19 : decode cX2_firstTaken 19 = .ok (.aload_n 0, 1) := by decide +kernel
theorem dX2_firstTaken_20 : decode cX2_firstTaken 20 = .ok (.iload_n 3, 1) := by decide +kernel
theorem dX2_firstTaken_21 : decode cX2_firstTaken 21 = .ok (.invokevirtual 89, 3) := by decide +kernel
theorem dX2_firstTaken_24 : decode cX2_firstTaken 24 = .ok (.ifCond .eq (-22), 3) := by decide +kernel
theorem dX2_firstTaken_27 : decode cX2_firstTaken 27 = .ok (.bipush (-9), 2) := by decide +kernel
theorem dX2_firstTaken_29 : decode cX2_firstTaken 29 = .ok (.ireturn, 1) := by decide +kernel
theorem dX2_firstTaken_30 : decode cX2_firstTaken 30 = .ok (.iload_n 3, 1) := by decide +kernel
theorem dX2_firstTaken_31 : decode cX2_firstTaken 31 = .ok (.ireturn, 1) := by decide +kernel
theorem dX2_lastTaken_0 : decode cX2_lastTaken 0 = .ok (.iload_n 1, 1) := by decide +kernel
theorem dX2_lastTaken_1 : decode cX2_lastTaken 1 = .ok (.istore_n 3, 1) := by decide +kernel
theorem dX2_lastTaken_2 : decode cX2_lastTaken 2 = .ok (.iload_n 3, 1) := by decide +kernel
theorem dX2_lastTaken_3 : decode cX2_lastTaken 3 = .ok (.iconst 1, 1) := by decide +kernel
theorem dX2_lastTaken_4 : decode cX2_lastTaken 4 = .ok (.iadd, 1) := by decide +kernel
theorem dX2_lastTaken_5 : decode cX2_lastTaken 5 = .ok (.aload_n 0, 1) := by decide +kernel
theorem dX2_lastTaken_6 : decode cX2_lastTaken 6 = .ok (.getfield 52, 3) := by decide +kernel
theorem dX2_lastTaken_9 : decode cX2_lastTaken 9 = .ok (.if_icmp .ge 29, 3) := by decide +kernel
theorem dX2_lastTaken_12 : decode cX2_lastTaken 12 = .ok (.aload_n 0, 1) := by decide +kernel
theorem dX2_lastTaken_13 : decode cX2_lastTaken 13 = .ok (.iload_n 3, 1) := by decide +kernel
theorem dX2_lastTaken_14 : decode cX2_lastTaken 14 = .ok (.iconst 1, 1) := by decide +kernel
theorem dX2_lastTaken_15 : decode cX2_lastTaken 15 = .ok (.iadd, 1) := by decide +kernel
theorem dX2_lastTaken_16 : decode cX2_lastTaken 16 = .ok (.iload_n 2, 1) := by decide +kernel
theorem dX2_lastTaken_17 : decode cX2_lastTaken 17 = .ok (.iconst 0, 1) := by decide +kernel
theorem dX2_lastTaken_18 : decode cX2_lastTaken 18 = .ok (.invokevirtual 113, 3) := by decide +kernel
theorem dX2_lastTaken_21 : decode cX2_lastTaken 21 = .ok (.ifCond .ne 17, 3) := by decide +kernel
theorem dX2_lastTaken_24 : decode cX2_lastTaken 24 = .ok (.iinc 3 1, 3) := by decide +kernel
theorem dX2_lastTaken_27 : decode cX2_lastTaken 27 = .ok (.aload_n 0, 1) := by decide +kernel
theorem dX2_lastTaken_28 : decode cX2_lastTaken 28 = .ok (.iload_n 3, 1) := by decide +kernel
theorem dX2_lastTaken_29 : decode cX2_lastTaken 29 = .ok (.invokevirtual 89, 3) := by decide +kernel
theorem dX2_lastTaken_32 : decode cX2_lastTaken 32 = .ok (.ifCond .eq (-30), 3) := by decide +kernel
theorem dX2_lastTaken_35 : decode cX2_lastTaken 35 = .ok (.bipush (-9), 2) := by decide +kernel
theorem dX2_lastTaken_37 : decode cX2_lastTaken 37 = .ok (.ireturn, 1) := by decide +kernel
theorem dX2_lastTaken_38 : decode cX2_lastTaken 38 = .ok (.iload_n 3, 1) := by decide +kernel
theorem dX2_lastTaken_39 : decode cX2_lastTaken 39 = .ok (.ireturn, 1) := by decide +kernel
theorem dX2_takenAlongRight_0 : decode cX2_takenAlongRight 0 = .ok (.aload_n 0, 1) := by decide +kernel
theorem dX2_takenAlongRight_1 : decode cX2_takenAlongRight 1 = .ok (.iload_n 1, 1) := by decide +kernel
theorem dX2_takenAlongRight_2 : decode cX2_takenAlongRight 2 = .ok (.iconst 1, 1) := by decide +kernel
theorem dX2_takenAlongRight_3 : decode cX2_takenAlongRight 3 = .ok (.invokevirtual 116, 3) := by decide +kernel
theorem dX2_takenAlongRight_6 : decode cX2_takenAlongRight 6 = .ok (.istore_n 2, 1) := by decide +kernel
theorem dX2_takenAlongRight_7 : decode cX2_takenAlongRight 7 = .ok (.aload_n 0, 1) := by decide +kernel
theorem dX2_takenAlongRight_8 : decode cX2_takenAlongRight 8 = .ok (.iload_n 1, 1) := by decide +kernel
theorem dX2_takenAlongRight_9 : decode cX2_takenAlongRight 9 = .ok (.iconst 1, 1) := by decide +kernel
theorem dX2_takenAlongRight_10 : decode cX2_takenAlongRight 10 = .ok (.invokevirtual 119, 3) := by decide +kernel
theorem dX2_takenAlongRight_13 : decode cX2_takenAlongRight 13 = .ok (.istore_n 3, 1) := by decide +kernel
theorem dX2_takenAlongRight_14 : decode cX2_takenAlongRight 14 = .ok (.aload_n 0, 1) := by decide +kernel
theorem dX2_takenAlongRight_15 : decode cX2_takenAlongRight 15 = .ok (.iload_n 2, 1) := by decide +kernel
theorem dX2_takenAlongRight_16 : decode cX2_takenAlongRight 16 = .ok (.iload_n 3, 1) := by decide +kernel
theorem dX2_takenAlongRight_17 : decode cX2_takenAlongRight 17 = .ok (.iconst 1, 1) := by decide +kernel
theorem dX2_takenAlongRight_18 : decode cX2_takenAlongRight 18 = .ok (.invokevirtual 122, 3) := by decide +kernel
theorem dX2_takenAlongRight_21 : decode cX2_takenAlongRight 21 = .ok (.ifCond .eq 9, 3) := by decide +kernel
theorem dX2_takenAlongRight_24 : decode cX2_takenAlongRight 24 = .ok (.iload_n 3, 1) := by decide +kernel
theorem dX2_takenAlongRight_25 : decode cX2_takenAlongRight 25 = .ok (.iload_n 2, 1) := by decide +kernel
theorem dX2_takenAlongRight_26 : decode cX2_takenAlongRight 26 = .ok (.isub, 1) := by decide +kernel
theorem dX2_takenAlongRight_27 : decode cX2_takenAlongRight 27 = .ok (.goto 4, 3) := by decide +kernel
theorem dX2_takenAlongRight_30 : decode cX2_takenAlongRight 30 = .ok (.iconst 0, 1) := by decide +kernel
theorem dX2_takenAlongRight_31 : decode cX2_takenAlongRight 31 = .ok (.ireturn, 1) := by decide +kernel
theorem dX2_neighboursApart_0 : decode cX2_neighboursApart 0 = .ok (.iload_n 1, 1) := by decide +kernel
theorem dX2_neighboursApart_1 : decode cX2_neighboursApart 1 = .ok (.ifCond .le 33, 3) := by decide +kernel
theorem dX2_neighboursApart_4 : decode cX2_neighboursApart 4 = .ok (.iload_n 1, 1) := by decide +kernel
theorem dX2_neighboursApart_5 : decode cX2_neighboursApart 5 = .ok (.iconst 1, 1) := by decide +kernel
theorem dX2_neighboursApart_6 : decode cX2_neighboursApart 6 = .ok (.iadd, 1) := by decide +kernel
theorem dX2_neighboursApart_7 : decode cX2_neighboursApart 7 = .ok (.aload_n 0, 1) := by decide +kernel
theorem dX2_neighboursApart_8 : decode cX2_neighboursApart 8 = .ok (.getfield 52, 3) := by decide +kernel
theorem dX2_neighboursApart_11 : decode cX2_neighboursApart 11 = .ok (.if_icmp .ge 23, 3) := by decide +kernel
theorem dX2_neighboursApart_14 : decode cX2_neighboursApart 14 = .ok (.aload_n 0, 1) := by decide +kernel
theorem dX2_neighboursApart_15 : decode cX2_neighboursApart 15 = .ok (.getfield 27, 3) := by decide +kernel
theorem dX2_neighboursApart_18 : decode cX2_neighboursApart 18 = .ok (.iload_n 1, 1) := by decide +kernel
theorem dX2_neighboursApart_19 : decode cX2_neighboursApart 19 = .ok (.iconst 1, 1) := by decide +kernel
theorem dX2_neighboursApart_20 : decode cX2_neighboursApart 20 = .ok (.iadd, 1) := by decide +kernel
theorem dX2_neighboursApart_21 : decode cX2_neighboursApart 21 = .ok (.iaload, 1) := by decide +kernel
theorem dX2_neighboursApart_22 : decode cX2_neighboursApart 22 = .ok (.aload_n 0, 1) := by decide +kernel
theorem dX2_neighboursApart_23 : decode cX2_neighboursApart 23 = .ok (.getfield 27, 3) := by decide +kernel
theorem dX2_neighboursApart_26 : decode cX2_neighboursApart 26 = .ok (.iload_n 1, 1) := by decide +kernel
theorem dX2_neighboursApart_27 : decode cX2_neighboursApart 27 = .ok (.iconst 1, 1) := by decide +kernel
theorem dX2_neighboursApart_28 : decode cX2_neighboursApart 28 = .ok (.isub, 1) := by decide +kernel
theorem dX2_neighboursApart_29 : decode cX2_neighboursApart 29 = .ok (.iaload, 1) := by decide +kernel
theorem dX2_neighboursApart_30 : decode cX2_neighboursApart 30 = .ok (.isub, 1) := by decide +kernel
theorem dX2_neighboursApart_31 : decode cX2_neighboursApart 31 = .ok (.goto 4, 3) := by decide +kernel
theorem dX2_neighboursApart_34 : decode cX2_neighboursApart 34 = .ok (.iconst 0, 1) := by decide +kernel
theorem dX2_neighboursApart_35 : decode cX2_neighboursApart 35 = .ok (.ireturn, 1) := by decide +kernel
theorem dX2_stallsInReach_0 : decode cX2_stallsInReach 0 = .ok (.iconst 0, 1) := by decide +kernel
theorem dX2_stallsInReach_1 : decode cX2_stallsInReach 1 = .ok (.istore_n 2, 1) := by decide +kernel
theorem dX2_stallsInReach_2 : decode cX2_stallsInReach 2 = .ok (.iconst 0, 1) := by decide +kernel
theorem dX2_stallsInReach_3 : decode cX2_stallsInReach 3 = .ok (.istore_n 3, 1) := by decide +kernel
theorem dX2_stallsInReach_4 : decode cX2_stallsInReach 4 = .ok (.iload_n 3, 1) := by decide +kernel
theorem dX2_stallsInReach_5 : decode cX2_stallsInReach 5 = .ok (.aload_n 0, 1) := by decide +kernel
theorem dX2_stallsInReach_6 : decode cX2_stallsInReach 6 = .ok (.getfield 49, 3) := by decide +kernel
theorem dX2_stallsInReach_9 : decode cX2_stallsInReach 9 = .ok (.if_icmp .ge 40, 3) := by decide +kernel
theorem dX2_stallsInReach_12 : decode cX2_stallsInReach 12 = .ok (.iload_n 2, 1) := by decide +kernel
theorem dX2_stallsInReach_13 : decode cX2_stallsInReach 13 = .ok (.aload_n 0, 1) := by decide +kernel
theorem dX2_stallsInReach_14 : decode cX2_stallsInReach 14 = .ok (.getfield 9, 3) := by decide +kernel
theorem dX2_stallsInReach_17 : decode cX2_stallsInReach 17 = .ok (.iload_n 3, 1) := by decide +kernel
theorem dX2_stallsInReach_18 : decode cX2_stallsInReach 18 = .ok (.iaload, 1) := by decide +kernel
theorem dX2_stallsInReach_19 : decode cX2_stallsInReach 19 = .ok (.aload_n 0, 1) := by decide +kernel
theorem dX2_stallsInReach_20 : decode cX2_stallsInReach 20 = .ok (.getfield 27, 3) := by decide +kernel
theorem dX2_stallsInReach_23 : decode cX2_stallsInReach 23 = .ok (.iload_n 1, 1) := by decide +kernel
theorem dX2_stallsInReach_24 : decode cX2_stallsInReach 24 = .ok (.iaload, 1) := by decide +kernel
theorem dX2_stallsInReach_25 : decode cX2_stallsInReach 25 = .ok (.isub, 1) := by decide +kernel
theorem dX2_stallsInReach_26 : decode cX2_stallsInReach 26 = .ok (.invokestatic 83, 3) := by decide +kernel
theorem dX2_stallsInReach_29 : decode cX2_stallsInReach 29 = .ok (.aload_n 0, 1) := by decide +kernel
theorem dX2_stallsInReach_30 : decode cX2_stallsInReach 30 = .ok (.getfield 42, 3) := by decide +kernel
theorem dX2_stallsInReach_33 : decode cX2_stallsInReach 33 = .ok (.if_icmp .gt 7, 3) := by decide +kernel
theorem dX2_stallsInReach_36 : decode cX2_stallsInReach 36 = .ok (.iconst 1, 1) := by decide +kernel
theorem dX2_stallsInReach_37 : decode cX2_stallsInReach 37 = .ok (.goto 4, 3) := by decide +kernel
theorem dX2_stallsInReach_40 : decode cX2_stallsInReach 40 = .ok (.iconst 0, 1) := by decide +kernel
theorem dX2_stallsInReach_41 : decode cX2_stallsInReach 41 = .ok (.iadd, 1) := by decide +kernel
theorem dX2_stallsInReach_42 : decode cX2_stallsInReach 42 = .ok (.istore_n 2, 1) := by decide +kernel
theorem dX2_stallsInReach_43 : decode cX2_stallsInReach 43 = .ok (.iinc 3 1, 3) := by decide +kernel
theorem dX2_stallsInReach_46 : decode cX2_stallsInReach 46 = .ok (.goto (-42), 3) := by decide +kernel
theorem dX2_stallsInReach_49 : decode cX2_stallsInReach 49 = .ok (.iload_n 2, 1) := by decide +kernel
theorem dX2_stallsInReach_50 : decode cX2_stallsInReach 50 = .ok (.ireturn, 1) := by decide +kernel
theorem dX2_sell_0 : decode cX2_sell 0 = .ok (.iconst 0, 1) := by decide +kernel
theorem dX2_sell_1 : decode cX2_sell 1 = .ok (.istore_n 2, 1) := by decide +kernel
theorem dX2_sell_2 : decode cX2_sell 2 = .ok (.iconst 0, 1) := by decide +kernel
theorem dX2_sell_3 : decode cX2_sell 3 = .ok (.istore_n 3, 1) := by decide +kernel
theorem dX2_sell_4 : decode cX2_sell 4 = .ok (.iload_n 3, 1) := by decide +kernel
theorem dX2_sell_5 : decode cX2_sell 5 = .ok (.aload_n 0, 1) := by decide +kernel
theorem dX2_sell_6 : decode cX2_sell 6 = .ok (.getfield 52, 3) := by decide +kernel
theorem dX2_sell_9 : decode cX2_sell 9 = .ok (.if_icmp .ge 95, 3) := by decide +kernel
theorem dX2_sell_12 : decode cX2_sell 12 = .ok (.aload_n 0, 1) := by decide +kernel
theorem dX2_sell_13 : decode cX2_sell 13 = .ok (.getfield 30, 3) := by decide +kernel
theorem dX2_sell_16 : decode cX2_sell 16 = .ok (.iload_n 3, 1) := by decide +kernel
theorem dX2_sell_17 : decode cX2_sell 17 = .ok (.iaload, 1) := by decide +kernel
theorem dX2_sell_18 : decode cX2_sell 18 = .ok (.iconst 4, 1) := by decide +kernel
theorem dX2_sell_19 : decode cX2_sell 19 = .ok (.if_icmp .eq 79, 3) := by decide +kernel
theorem dX2_sell_22 : decode cX2_sell 22 = .ok (.aload_n 0, 1) := by decide +kernel
theorem dX2_sell_23 : decode cX2_sell 23 = .ok (.aload_n 0, 1) := by decide +kernel
theorem dX2_sell_24 : decode cX2_sell 24 = .ok (.getfield 27, 3) := by decide +kernel
theorem dX2_sell_27 : decode cX2_sell 27 = .ok (.iload_n 3, 1) := by decide +kernel
theorem dX2_sell_28 : decode cX2_sell 28 = .ok (.iaload, 1) := by decide +kernel
theorem dX2_sell_29 : decode cX2_sell 29 = .ok (.iload_n 1, 1) := by decide +kernel
theorem dX2_sell_30 : decode cX2_sell 30 = .ok (.invokevirtual 125, 3) := by decide +kernel
theorem dX2_sell_33 : decode cX2_sell 33 = .ok (.ifCond .eq 65, 3) := by decide +kernel
theorem dX2_sell_36 : decode cX2_sell 36 = .ok (.aload_n 0, 1) := by decide +kernel
theorem dX2_sell_37 : decode cX2_sell 37 = .ok (.aload_n 0, 1) := by decide +kernel
theorem dX2_sell_38 : decode cX2_sell 38 = .ok (.getfield 27, 3) := by decide +kernel
theorem dX2_sell_41 : decode cX2_sell 41 = .ok (.iload_n 3, 1) := by decide +kernel
theorem dX2_sell_42 : decode cX2_sell 42 = .ok (.iaload, 1) := by decide +kernel
theorem dX2_sell_43 : decode cX2_sell 43 = .ok (.aload_n 0, 1) := by decide +kernel
theorem dX2_sell_44 : decode cX2_sell 44 = .ok (.getfield 30, 3) := by decide +kernel
theorem dX2_sell_47 : decode cX2_sell 47 = .ok (.iload_n 3, 1) := by decide +kernel
theorem dX2_sell_48 : decode cX2_sell 48 = .ok (.iaload, 1) := by decide +kernel
theorem dX2_sell_49 : decode cX2_sell 49 = .ok (.invokevirtual 128, 3) := by decide +kernel
theorem dX2_sell_52 : decode cX2_sell 52 = .ok (.istore 4, 2) := by decide +kernel
theorem dX2_sell_54 : decode cX2_sell 54 = .ok (.iload 4, 2) := by decide +kernel
theorem dX2_sell_56 : decode cX2_sell 56 = .ok (.bipush (-9), 2) := by decide +kernel
theorem dX2_sell_58 : decode cX2_sell 58 = .ok (.if_icmp .eq 40, 3) := by decide +kernel
theorem dX2_sell_61 : decode cX2_sell 61 = .ok (.aload_n 0, 1) := by decide +kernel
theorem dX2_sell_62 : decode cX2_sell 62 = .ok (.getfield 33, 3) := by decide +kernel
theorem dX2_sell_65 : decode cX2_sell 65 = .ok (.iload_n 3, 1) := by decide +kernel
theorem dX2_sell_66 : decode cX2_sell 66 = .ok (.dup2, 1) := by decide +kernel
theorem dX2_sell_67 : decode cX2_sell 67 = .ok (.iaload, 1) := by decide +kernel
theorem dX2_sell_68 : decode cX2_sell 68 = .ok (.aload_n 0, 1) := by decide +kernel
theorem dX2_sell_69 : decode cX2_sell 69 = .ok (.getfield 18, 3) := by decide +kernel
theorem dX2_sell_72 : decode cX2_sell 72 = .ok (.iload 4, 2) := by decide +kernel
theorem dX2_sell_74 : decode cX2_sell 74 = .ok (.iaload, 1) := by decide +kernel
theorem dX2_sell_75 : decode cX2_sell 75 = .ok (.iadd, 1) := by decide +kernel
theorem dX2_sell_76 : decode cX2_sell 76 = .ok (.iastore, 1) := by decide +kernel
theorem dX2_sell_77 : decode cX2_sell 77 = .ok (.aload_n 0, 1) := by decide +kernel
theorem dX2_sell_78 : decode cX2_sell 78 = .ok (.getfield 21, 3) := by decide +kernel
theorem dX2_sell_81 : decode cX2_sell 81 = .ok (.iload 4, 2) := by decide +kernel
theorem dX2_sell_83 : decode cX2_sell 83 = .ok (.dup2, 1) := by decide +kernel
theorem dX2_sell_84 : decode cX2_sell 84 = .ok (.iaload, 1) := by decide +kernel
theorem dX2_sell_85 : decode cX2_sell 85 = .ok (.iconst 1, 1) := by decide +kernel
theorem dX2_sell_86 : decode cX2_sell 86 = .ok (.iadd, 1) := by decide +kernel
theorem dX2_sell_87 : decode cX2_sell 87 = .ok (.iastore, 1) := by decide +kernel
theorem dX2_sell_88 : decode cX2_sell 88 = .ok (.aload_n 0, 1) := by decide +kernel
theorem dX2_sell_89 : decode cX2_sell 89 = .ok (.getfield 30, 3) := by decide +kernel
theorem dX2_sell_92 : decode cX2_sell 92 = .ok (.iload_n 3, 1) := by decide +kernel
theorem dX2_sell_93 : decode cX2_sell 93 = .ok (.iconst 4, 1) := by decide +kernel
theorem dX2_sell_94 : decode cX2_sell 94 = .ok (.iastore, 1) := by decide +kernel
theorem dX2_sell_95 : decode cX2_sell 95 = .ok (.iinc 2 1, 3) := by decide +kernel
theorem dX2_sell_98 : decode cX2_sell 98 = .ok (.iinc 3 1, 3) := by decide +kernel
theorem dX2_sell_101 : decode cX2_sell 101 = .ok (.goto (-97), 3) := by decide +kernel
theorem dX2_sell_104 : decode cX2_sell 104 = .ok (.iload_n 2, 1) := by decide +kernel
theorem dX2_sell_105 : decode cX2_sell 105 = .ok (.ireturn, 1) := by decide +kernel
theorem dX2_stallHere_0 : decode cX2_stallHere 0 = .ok (.iconst 0, 1) := by decide +kernel
theorem dX2_stallHere_1 : decode cX2_stallHere 1 = .ok (.istore_n 3, 1) := by decide +kernel
theorem dX2_stallHere_2 : decode cX2_stallHere 2 = .ok (.iload_n 3, 1) := by decide +kernel
theorem dX2_stallHere_3 : decode cX2_stallHere 3 = .ok (.aload_n 0, 1) := by decide +kernel
theorem dX2_stallHere_4 : decode cX2_stallHere 4 = .ok (.getfield 49, 3) := by decide +kernel
theorem dX2_stallHere_7 : decode cX2_stallHere 7 = .ok (.if_icmp .ge 31, 3) := by decide +kernel
theorem dX2_stallHere_10 : decode cX2_stallHere 10 = .ok (.aload_n 0, 1) := by decide +kernel
theorem dX2_stallHere_11 : decode cX2_stallHere 11 = .ok (.getfield 9, 3) := by decide +kernel
theorem dX2_stallHere_14 : decode cX2_stallHere 14 = .ok (.iload_n 3, 1) := by decide +kernel
theorem dX2_stallHere_15 : decode cX2_stallHere 15 = .ok (.iaload, 1) := by decide +kernel
theorem dX2_stallHere_16 : decode cX2_stallHere 16 = .ok (.iload_n 1, 1) := by decide +kernel
theorem dX2_stallHere_17 : decode cX2_stallHere 17 = .ok (.if_icmp .ne 15, 3) := by decide +kernel
theorem dX2_stallHere_20 : decode cX2_stallHere 20 = .ok (.aload_n 0, 1) := by decide +kernel
theorem dX2_stallHere_21 : decode cX2_stallHere 21 = .ok (.getfield 15, 3) := by decide +kernel
theorem dX2_stallHere_24 : decode cX2_stallHere 24 = .ok (.iload_n 3, 1) := by decide +kernel
theorem dX2_stallHere_25 : decode cX2_stallHere 25 = .ok (.iaload, 1) := by decide +kernel
theorem dX2_stallHere_26 : decode cX2_stallHere 26 = .ok (.iload_n 2, 1) := by decide +kernel
theorem dX2_stallHere_27 : decode cX2_stallHere 27 = .ok (.if_icmp .ne 5, 3) := by decide +kernel
theorem dX2_stallHere_30 : decode cX2_stallHere 30 = .ok (.iload_n 3, 1) := by decide +kernel
theorem dX2_stallHere_31 : decode cX2_stallHere 31 = .ok (.ireturn, 1) := by decide +kernel
theorem dX2_stallHere_32 : decode cX2_stallHere 32 = .ok (.iinc 3 1, 3) := by decide +kernel
theorem dX2_stallHere_35 : decode cX2_stallHere 35 = .ok (.goto (-33), 3) := by decide +kernel
theorem dX2_stallHere_38 : decode cX2_stallHere 38 = .ok (.bipush (-9), 2) := by decide +kernel
theorem dX2_stallHere_40 : decode cX2_stallHere 40 = .ok (.ireturn, 1) := by decide +kernel
theorem dX2_lastSpot_0 : decode cX2_lastSpot 0 = .ok (.aload_n 0, 1) := by decide +kernel
theorem dX2_lastSpot_1 : decode cX2_lastSpot 1 = .ok (.getfield 52, 3) := by decide +kernel
theorem dX2_lastSpot_4 : decode cX2_lastSpot 4 = .ok (.ifCond .ne 7, 3) := by decide +kernel
theorem dX2_lastSpot_7 : decode cX2_lastSpot 7 = .ok (.iconst 0, 1) := by decide +kernel
theorem dX2_lastSpot_8 : decode cX2_lastSpot 8 = .ok (.goto 14, 3) := by decide +kernel
theorem dX2_lastSpot_11 : decode cX2_lastSpot 11 = .ok (.aload_n 0, 1) := by decide +kernel
theorem dX2_lastSpot_12 : decode cX2_lastSpot 12 = .ok (.getfield 27, 3) := by decide +kernel
theorem dX2_lastSpot_15 : decode cX2_lastSpot 15 = .ok (.aload_n 0, 1) := by decide +kernel
theorem dX2_lastSpot_16 : decode cX2_lastSpot 16 = .ok (.getfield 52, 3) := by decide +kernel
theorem dX2_lastSpot_19 : decode cX2_lastSpot 19 = .ok (.iconst 1, 1) := by decide +kernel
theorem dX2_lastSpot_20 : decode cX2_lastSpot 20 = .ok (.isub, 1) := by decide +kernel
theorem dX2_lastSpot_21 : decode cX2_lastSpot 21 = .ok (.iaload, 1) := by decide +kernel
theorem dX2_lastSpot_22 : decode cX2_lastSpot 22 = .ok (.ireturn, 1) := by decide +kernel
theorem dX2_isShaded_0 : decode cX2_isShaded 0 = .ok (.aload_n 0, 1) := by decide +kernel
theorem dX2_isShaded_1 : decode cX2_isShaded 1 = .ok (.getfield 52, 3) := by decide +kernel
theorem dX2_isShaded_4 : decode cX2_isShaded 4 = .ok (.ifCond .le 29, 3) := by decide +kernel
theorem dX2_isShaded_7 : decode cX2_isShaded 7 = .ok (.iload_n 1, 1) := by decide +kernel
theorem dX2_isShaded_8 : decode cX2_isShaded 8 = .ok (.aload_n 0, 1) := by decide +kernel
theorem dX2_isShaded_9 : decode cX2_isShaded 9 = .ok (.getfield 27, 3) := by decide +kernel
theorem dX2_isShaded_12 : decode cX2_isShaded 12 = .ok (.iconst 0, 1) := by decide +kernel
theorem dX2_isShaded_13 : decode cX2_isShaded 13 = .ok (.iaload, 1) := by decide +kernel
theorem dX2_isShaded_14 : decode cX2_isShaded 14 = .ok (.iload_n 2, 1) := by decide +kernel
theorem dX2_isShaded_15 : decode cX2_isShaded 15 = .ok (.iadd, 1) := by decide +kernel
theorem dX2_isShaded_16 : decode cX2_isShaded 16 = .ok (.if_icmp .lt 17, 3) := by decide +kernel
theorem dX2_isShaded_19 : decode cX2_isShaded 19 = .ok (.iload_n 1, 1) := by decide +kernel
theorem dX2_isShaded_20 : decode cX2_isShaded 20 = .ok (.aload_n 0, 1) := by decide +kernel
theorem dX2_isShaded_21 : decode cX2_isShaded 21 = .ok (.invokevirtual 131, 3) := by decide +kernel
theorem dX2_isShaded_24 : decode cX2_isShaded 24 = .ok (.iload_n 2, 1) := by decide +kernel
theorem dX2_isShaded_25 : decode cX2_isShaded 25 = .ok (.iadd, 1) := by decide +kernel
theorem dX2_isShaded_26 : decode cX2_isShaded 26 = .ok (.if_icmp .gt 7, 3) := by decide +kernel
theorem dX2_isShaded_29 : decode cX2_isShaded 29 = .ok (.iconst 1, 1) := by decide +kernel
theorem dX2_isShaded_30 : decode cX2_isShaded 30 = .ok (.goto 4, 3) := by decide +kernel
theorem dX2_isShaded_33 : decode cX2_isShaded 33 = .ok (.iconst 0, 1) := by decide +kernel
theorem dX2_isShaded_34 : decode cX2_isShaded 34 = .ok (.ireturn, 1) := by decide +kernel
theorem dX2_stallsShaded_0 : decode cX2_stallsShaded 0 = .ok (.iconst 0, 1) := by decide +kernel
theorem dX2_stallsShaded_1 : decode cX2_stallsShaded 1 = .ok (.istore_n 2, 1) := by decide +kernel
theorem dX2_stallsShaded_2 : decode cX2_stallsShaded 2 = .ok (.iconst 0, 1) := by decide +kernel
theorem dX2_stallsShaded_3 : decode cX2_stallsShaded 3 = .ok (.istore_n 3, 1) := by decide +kernel
theorem dX2_stallsShaded_4 : decode cX2_stallsShaded 4 = .ok (.iload_n 3, 1) := by decide +kernel
theorem dX2_stallsShaded_5 : decode cX2_stallsShaded 5 = .ok (.aload_n 0, 1) := by decide +kernel
theorem dX2_stallsShaded_6 : decode cX2_stallsShaded 6 = .ok (.getfield 49, 3) := by decide +kernel
theorem dX2_stallsShaded_9 : decode cX2_stallsShaded 9 = .ok (.if_icmp .ge 29, 3) := by decide +kernel
theorem dX2_stallsShaded_12 : decode cX2_stallsShaded 12 = .ok (.aload_n 0, 1) := by decide +kernel
theorem dX2_stallsShaded_13 : decode cX2_stallsShaded 13 = .ok (.aload_n 0, 1) := by decide +kernel
theorem dX2_stallsShaded_14 : decode cX2_stallsShaded 14 = .ok (.getfield 9, 3) := by decide +kernel
theorem dX2_stallsShaded_17 : decode cX2_stallsShaded 17 = .ok (.iload_n 3, 1) := by decide +kernel
theorem dX2_stallsShaded_18 : decode cX2_stallsShaded 18 = .ok (.iaload, 1) := by decide +kernel
theorem dX2_stallsShaded_19 : decode cX2_stallsShaded 19 = .ok (.iload_n 1, 1) := by decide +kernel
theorem dX2_stallsShaded_20 : decode cX2_stallsShaded 20 = .ok (.invokevirtual 125, 3) := by decide +kernel
theorem dX2_stallsShaded_23 : decode cX2_stallsShaded 23 = .ok (.ifCond .eq 9, 3) := by decide +kernel
theorem dX2_stallsShaded_26 : decode cX2_stallsShaded 26 = .ok (.iload_n 2, 1) := by decide +kernel
theorem dX2_stallsShaded_27 : decode cX2_stallsShaded 27 = .ok (.iconst 1, 1) := by decide +kernel
theorem dX2_stallsShaded_28 : decode cX2_stallsShaded 28 = .ok (.iload_n 3, 1) := by decide +kernel
theorem dX2_stallsShaded_29 : decode cX2_stallsShaded 29 = .ok (.ishl, 1) := by decide +kernel
theorem dX2_stallsShaded_30 : decode cX2_stallsShaded 30 = .ok (.ior, 1) := by decide +kernel
theorem dX2_stallsShaded_31 : decode cX2_stallsShaded 31 = .ok (.istore_n 2, 1) := by decide +kernel
theorem dX2_stallsShaded_32 : decode cX2_stallsShaded 32 = .ok (.iinc 3 1, 3) := by decide +kernel
theorem dX2_stallsShaded_35 : decode cX2_stallsShaded 35 = .ok (.goto (-31), 3) := by decide +kernel
theorem dX2_stallsShaded_38 : decode cX2_stallsShaded 38 = .ok (.iload_n 2, 1) := by decide +kernel
theorem dX2_stallsShaded_39 : decode cX2_stallsShaded 39 = .ok (.ireturn, 1) := by decide +kernel
theorem dX2_shiftAll_0 : decode cX2_shiftAll 0 = .ok (.aload_n 0, 1) := by decide +kernel
theorem dX2_shiftAll_1 : decode cX2_shiftAll 1 = .ok (.getfield 52, 3) := by decide +kernel
theorem dX2_shiftAll_4 : decode cX2_shiftAll 4 = .ok (.ifCond .eq 18, 3) := by decide +kernel
theorem dX2_shiftAll_7 : decode cX2_shiftAll 7 = .ok (.aload_n 0, 1) := by decide +kernel
theorem dX2_shiftAll_8 : decode cX2_shiftAll 8 = .ok (.iconst 0, 1) := by decide +kernel
theorem dX2_shiftAll_9 : decode cX2_shiftAll 9 = .ok (.aload_n 0, 1) := by decide +kernel
theorem dX2_shiftAll_10 : decode cX2_shiftAll 10 = .ok (.getfield 52, 3) := by decide +kernel
theorem dX2_shiftAll_13 : decode cX2_shiftAll 13 = .ok (.iconst 1, 1) := by decide +kernel
theorem dX2_shiftAll_14 : decode cX2_shiftAll 14 = .ok (.isub, 1) := by decide +kernel
theorem dX2_shiftAll_15 : decode cX2_shiftAll 15 = .ok (.iload_n 1, 1) := by decide +kernel
theorem dX2_shiftAll_16 : decode cX2_shiftAll 16 = .ok (.invokevirtual 122, 3) := by decide +kernel
theorem dX2_shiftAll_19 : decode cX2_shiftAll 19 = .ok (.ifCond .ne 5, 3) := by decide +kernel
theorem dX2_shiftAll_22 : decode cX2_shiftAll 22 = .ok (.iconst 0, 1) := by decide +kernel
theorem dX2_shiftAll_23 : decode cX2_shiftAll 23 = .ok (.ireturn, 1) := by decide +kernel
theorem dX2_shiftAll_24 : decode cX2_shiftAll 24 = .ok (.iconst 0, 1) := by decide +kernel
theorem dX2_shiftAll_25 : decode cX2_shiftAll 25 = .ok (.istore_n 2, 1) := by decide +kernel
theorem dX2_shiftAll_26 : decode cX2_shiftAll 26 = .ok (.iload_n 2, 1) := by decide +kernel
theorem dX2_shiftAll_27 : decode cX2_shiftAll 27 = .ok (.aload_n 0, 1) := by decide +kernel
theorem dX2_shiftAll_28 : decode cX2_shiftAll 28 = .ok (.getfield 52, 3) := by decide +kernel
theorem dX2_shiftAll_31 : decode cX2_shiftAll 31 = .ok (.if_icmp .ge 19, 3) := by decide +kernel
theorem dX2_shiftAll_34 : decode cX2_shiftAll 34 = .ok (.aload_n 0, 1) := by decide +kernel
theorem dX2_shiftAll_35 : decode cX2_shiftAll 35 = .ok (.getfield 27, 3) := by decide +kernel
theorem dX2_shiftAll_38 : decode cX2_shiftAll 38 = .ok (.iload_n 2, 1) := by decide +kernel
theorem dX2_shiftAll_39 : decode cX2_shiftAll 39 = .ok (.dup2, 1) := by decide +kernel
theorem dX2_shiftAll_40 : decode cX2_shiftAll 40 = .ok (.iaload, 1) := by decide +kernel
theorem dX2_shiftAll_41 : decode cX2_shiftAll 41 = .ok (.iload_n 1, 1) := by decide +kernel
theorem dX2_shiftAll_42 : decode cX2_shiftAll 42 = .ok (.iadd, 1) := by decide +kernel
theorem dX2_shiftAll_43 : decode cX2_shiftAll 43 = .ok (.iastore, 1) := by decide +kernel
theorem dX2_shiftAll_44 : decode cX2_shiftAll 44 = .ok (.iinc 2 1, 3) := by decide +kernel
theorem dX2_shiftAll_47 : decode cX2_shiftAll 47 = .ok (.goto (-21), 3) := by decide +kernel
theorem dX2_shiftAll_50 : decode cX2_shiftAll 50 = .ok (.iconst 1, 1) := by decide +kernel
theorem dX2_shiftAll_51 : decode cX2_shiftAll 51 = .ok (.ireturn, 1) := by decide +kernel
theorem dX2_bestShift_0 : decode cX2_bestShift 0 = .ok (.iconst 0, 1) := by decide +kernel
theorem dX2_bestShift_1 : decode cX2_bestShift 1 = .ok (.istore_n 1, 1) := by decide +kernel
theorem dX2_bestShift_2 : decode cX2_bestShift 2 = .ok (.aload_n 0, 1) := by decide +kernel
theorem dX2_bestShift_3 : decode cX2_bestShift 3 = .ok (.aload_n 0, 1) := by decide +kernel
theorem dX2_bestShift_4 : decode cX2_bestShift 4 = .ok (.invokevirtual 103, 3) := by decide +kernel
theorem dX2_bestShift_7 : decode cX2_bestShift 7 = .ok (.invokevirtual 134, 3) := by decide +kernel
theorem dX2_bestShift_10 : decode cX2_bestShift 10 = .ok (.invokestatic 137, 3) := by decide +kernel
theorem dX2_bestShift_13 : decode cX2_bestShift 13 = .ok (.istore_n 2, 1) := by decide +kernel
theorem dX2_bestShift_14 : decode cX2_bestShift 14 = .ok (.aload_n 0, 1) := by decide +kernel
theorem dX2_bestShift_15 : decode cX2_bestShift 15 = .ok (.getfield 27, 3) := by decide +kernel
theorem dX2_bestShift_18 : decode cX2_bestShift 18 = .ok (.iconst 0, 1) := by decide +kernel
theorem dX2_bestShift_19 : decode cX2_bestShift 19 = .ok (.iaload, 1) := by decide +kernel
theorem dX2_bestShift_20 : decode cX2_bestShift 20 = .ok (.ineg, 1) := by decide +kernel
theorem dX2_bestShift_21 : decode cX2_bestShift 21 = .ok (.istore_n 3, 1) := by decide +kernel
theorem dX2_bestShift_22 : decode cX2_bestShift 22 = .ok (.iload_n 3, 1) := by decide +kernel
theorem dX2_bestShift_23 : decode cX2_bestShift 23 = .ok (.aload_n 0, 1) := by decide +kernel
theorem dX2_bestShift_24 : decode cX2_bestShift 24 = .ok (.invokevirtual 131, 3) := by decide +kernel
theorem dX2_bestShift_27 : decode cX2_bestShift 27 = .ok (.iadd, 1) := by decide +kernel
theorem dX2_bestShift_28 : decode cX2_bestShift 28 = .ok (.bipush 20, 2) := by decide +kernel
theorem dX2_bestShift_30 : decode cX2_bestShift 30 = .ok (.if_icmp .ge 52, 3) := by decide +kernel
theorem dX2_bestShift_33 : decode cX2_bestShift 33 = .ok (.aload_n 0, 1) := by decide +kernel
theorem dX2_bestShift_34 : decode cX2_bestShift 34 = .ok (.aload_n 0, 1) := by decide +kernel
theorem dX2_bestShift_35 : decode cX2_bestShift 35 = .ok (.invokevirtual 103, 3) := by decide +kernel
theorem dX2_bestShift_38 : decode cX2_bestShift 38 = .ok (.iload_n 3, 1) := by decide +kernel
theorem dX2_bestShift_39 : decode cX2_bestShift 39 = .ok (.iadd, 1) := by decide +kernel
theorem dX2_bestShift_40 : decode cX2_bestShift 40 = .ok (.invokevirtual 134, 3) := by decide +kernel
theorem dX2_bestShift_43 : decode cX2_bestShift 43 = .ok (.invokestatic 137, 3) := by decide +kernel
theorem dX2_bestShift_46 : decode cX2_bestShift 46 = .ok (.istore 4, 2) := by decide +kernel
theorem dX2_bestShift_48 : decode cX2_bestShift 48 = .ok (.iload 4, 2) := by decide +kernel
theorem dX2_bestShift_50 : decode cX2_bestShift 50 = .ok (.iload_n 2, 1) := by decide +kernel
theorem dX2_bestShift_51 : decode cX2_bestShift 51 = .ok (.if_icmp .gt 20, 3) := by decide +kernel
theorem dX2_bestShift_54 : decode cX2_bestShift 54 = .ok (.iload 4, 2) := by decide +kernel
theorem dX2_bestShift_56 : decode cX2_bestShift 56 = .ok (.iload_n 2, 1) := by decide +kernel
theorem dX2_bestShift_57 : decode cX2_bestShift 57 = .ok (.if_icmp .ne 19, 3) := by decide +kernel
theorem dX2_bestShift_60 : decode cX2_bestShift 60 = .ok (.iload_n 3, 1) := by decide +kernel
theorem dX2_bestShift_61 : decode cX2_bestShift 61 = .ok (.invokestatic 83, 3) := by decide +kernel
theorem dX2_bestShift_64 : decode cX2_bestShift 64 = .ok (.iload_n 1, 1) := by decide +kernel
theorem dX2_bestShift_65 : decode cX2_bestShift 65 = .ok (.invokestatic 83, 3) := by decide +kernel
theorem dX2_bestShift_68 : decode cX2_bestShift 68 = .ok (.if_icmp .ge 8, 3) := by decide +kernel
theorem dX2_bestShift_71 : decode cX2_bestShift 71 = .ok (.iload 4, 2) := by decide +kernel
theorem dX2_bestShift_73 : decode cX2_bestShift 73 = .ok (.istore_n 2, 1) := by decide +kernel
theorem dX2_bestShift_74 : decode cX2_bestShift 74 = .ok (.iload_n 3, 1) := by decide +kernel
theorem dX2_bestShift_75 : decode cX2_bestShift 75 = .ok (.istore_n 1, 1) := by decide +kernel
theorem dX2_bestShift_76 : decode cX2_bestShift 76 = .ok (.iinc 3 1, 3) := by decide +kernel
theorem dX2_bestShift_79 : decode cX2_bestShift 79 = .ok (.goto (-57), 3) := by decide +kernel
theorem dX2_bestShift_82 : decode cX2_bestShift 82 = .ok (.iload_n 1, 1) := by decide +kernel
theorem dX2_bestShift_83 : decode cX2_bestShift 83 = .ok (.ireturn, 1) := by decide +kernel
theorem dX2_fewestHolders_0 : decode cX2_fewestHolders 0 = .ok (.iconst 1, 1) := by decide +kernel
theorem dX2_fewestHolders_1 : decode cX2_fewestHolders 1 = .ok (.aload_n 0, 1) := by decide +kernel
theorem dX2_fewestHolders_2 : decode cX2_fewestHolders 2 = .ok (.getfield 52, 3) := by decide +kernel
theorem dX2_fewestHolders_5 : decode cX2_fewestHolders 5 = .ok (.ishl, 1) := by decide +kernel
theorem dX2_fewestHolders_6 : decode cX2_fewestHolders 6 = .ok (.iconst 1, 1) := by decide +kernel
theorem dX2_fewestHolders_7 : decode cX2_fewestHolders 7 = .ok (.isub, 1) := by decide +kernel
theorem dX2_fewestHolders_8 : decode cX2_fewestHolders 8 = .ok (.istore_n 1, 1) := by decide +kernel
theorem dX2_fewestHolders_9 : decode cX2_fewestHolders 9 = .ok (.iload_n 1, 1) := by decide +kernel
theorem dX2_fewestHolders_10 : decode cX2_fewestHolders 10 = .ok (.istore_n 2, 1) := by decide +kernel
theorem dX2_fewestHolders_11 : decode cX2_fewestHolders 11 = .ok (.iconst 1, 1) := by decide +kernel
theorem dX2_fewestHolders_12 : decode cX2_fewestHolders 12 = .ok (.istore_n 3, 1) := by decide +kernel
theorem dX2_fewestHolders_13 : decode cX2_fewestHolders 13 = .ok (.iload_n 3, 1) := by decide +kernel
theorem dX2_fewestHolders_14 : decode cX2_fewestHolders 14 = .ok (.iload_n 1, 1) := by decide +kernel
theorem dX2_fewestHolders_15 : decode cX2_fewestHolders 15 = .ok (.if_icmp .ge 30, 3) := by decide +kernel
theorem dX2_fewestHolders_18 : decode cX2_fewestHolders 18 = .ok (.iload_n 3, 1) := by decide +kernel
theorem dX2_fewestHolders_19 : decode cX2_fewestHolders 19 = .ok (.invokestatic 137, 3) := by decide +kernel
theorem dX2_fewestHolders_22 : decode cX2_fewestHolders 22 = .ok (.iload_n 2, 1) := by decide +kernel
theorem dX2_fewestHolders_23 : decode cX2_fewestHolders 23 = .ok (.invokestatic 137, 3) := by decide +kernel
theorem dX2_fewestHolders_26 : decode cX2_fewestHolders 26 = .ok (.if_icmp .ge 13, 3) := by decide +kernel
theorem dX2_fewestHolders_29 : decode cX2_fewestHolders 29 = .ok (.aload_n 0, 1) := by decide +kernel
theorem dX2_fewestHolders_30 : decode cX2_fewestHolders 30 = .ok (.iload_n 3, 1) := by decide +kernel
theorem dX2_fewestHolders_31 : decode cX2_fewestHolders 31 = .ok (.invokevirtual 142, 3) := by decide +kernel
theorem dX2_fewestHolders_34 : decode cX2_fewestHolders 34 = .ok (.ifCond .eq 5, 3) := by decide +kernel
theorem dX2_fewestHolders_37 : decode cX2_fewestHolders 37 = .ok (.iload_n 3, 1) := by decide +kernel
theorem dX2_fewestHolders_38 : decode cX2_fewestHolders 38 = .ok (.istore_n 2, 1) := by decide +kernel
theorem dX2_fewestHolders_39 : decode cX2_fewestHolders 39 = .ok (.iinc 3 1, 3) := by decide +kernel
theorem dX2_fewestHolders_42 : decode cX2_fewestHolders 42 = .ok (.goto (-29), 3) := by decide +kernel
theorem dX2_fewestHolders_45 : decode cX2_fewestHolders 45 = .ok (.iload_n 2, 1) := by decide +kernel
theorem dX2_fewestHolders_46 : decode cX2_fewestHolders 46 = .ok (.ireturn, 1) := by decide +kernel
theorem dX2_doHold_0 : decode cX2_doHold 0 = .ok (.iload_n 1, 1) := by decide +kernel
theorem dX2_doHold_1 : decode cX2_doHold 1 = .ok (.iconst 0, 1) := by decide +kernel
theorem dX2_doHold_2 : decode cX2_doHold 2 = .ok (.invokestatic 75, 3) := by decide +kernel
theorem dX2_doHold_5 : decode cX2_doHold 5 = .ok (.ifCond .eq 16, 3) := by decide +kernel
theorem dX2_doHold_8 : decode cX2_doHold 8 = .ok (.iload_n 1, 1) := by decide +kernel
theorem dX2_doHold_9 : decode cX2_doHold 9 = .ok (.aload_n 0, 1) := by decide +kernel
theorem dX2_doHold_10 : decode cX2_doHold 10 = .ok (.getfield 52, 3) := by decide +kernel
theorem dX2_doHold_13 : decode cX2_doHold 13 = .ok (.iconst 1, 1) := by decide +kernel
theorem dX2_doHold_14 : decode cX2_doHold 14 = .ok (.isub, 1) := by decide +kernel
theorem dX2_doHold_15 : decode cX2_doHold 15 = .ok (.invokestatic 75, 3) := by decide +kernel
theorem dX2_doHold_18 : decode cX2_doHold 18 = .ok (.ifCond .ne 5, 3) := by decide +kernel
theorem dX2_doHold_21 : decode cX2_doHold 21 = .ok (.iconst 0, 1) := by decide +kernel
theorem dX2_doHold_22 : decode cX2_doHold 22 = .ok (.ireturn, 1) := by decide +kernel
theorem dX2_doHold_23 : decode cX2_doHold 23 = .ok (.iconst 0, 1) := by decide +kernel
theorem dX2_doHold_24 : decode cX2_doHold 24 = .ok (.istore_n 2, 1) := by decide +kernel
theorem dX2_doHold_25 : decode cX2_doHold 25 = .ok (.iconst 1, 1) := by decide +kernel
theorem dX2_doHold_26 : decode cX2_doHold 26 = .ok (.istore_n 3, 1) := by decide +kernel
theorem dX2_doHold_27 : decode cX2_doHold 27 = .ok (.iload_n 3, 1) := by decide +kernel
theorem dX2_doHold_28 : decode cX2_doHold 28 = .ok (.aload_n 0, 1) := by decide +kernel
theorem dX2_doHold_29 : decode cX2_doHold 29 = .ok (.getfield 52, 3) := by decide +kernel
theorem dX2_doHold_32 : decode cX2_doHold 32 = .ok (.if_icmp .ge 48, 3) := by decide +kernel
theorem dX2_doHold_35 : decode cX2_doHold 35 = .ok (.iload_n 1, 1) := by decide +kernel
theorem dX2_doHold_36 : decode cX2_doHold 36 = .ok (.iload_n 3, 1) := by decide +kernel
theorem dX2_doHold_37 : decode cX2_doHold 37 = .ok (.invokestatic 75, 3) := by decide +kernel
theorem dX2_doHold_40 : decode cX2_doHold 40 = .ok (.ifCond .eq 34, 3) := by decide +kernel
theorem dX2_doHold_43 : decode cX2_doHold 43 = .ok (.aload_n 0, 1) := by decide +kernel
theorem dX2_doHold_44 : decode cX2_doHold 44 = .ok (.getfield 27, 3) := by decide +kernel
theorem dX2_doHold_47 : decode cX2_doHold 47 = .ok (.iload_n 3, 1) := by decide +kernel
theorem dX2_doHold_48 : decode cX2_doHold 48 = .ok (.iaload, 1) := by decide +kernel
theorem dX2_doHold_49 : decode cX2_doHold 49 = .ok (.aload_n 0, 1) := by decide +kernel
theorem dX2_doHold_50 : decode cX2_doHold 50 = .ok (.getfield 27, 3) := by decide +kernel
theorem dX2_doHold_53 : decode cX2_doHold 53 = .ok (.iload_n 2, 1) := by decide +kernel
theorem dX2_doHold_54 : decode cX2_doHold 54 = .ok (.iaload, 1) := by decide +kernel
theorem dX2_doHold_55 : decode cX2_doHold 55 = .ok (.isub, 1) := by decide +kernel
theorem dX2_doHold_56 : decode cX2_doHold 56 = .ok (.aload_n 0, 1) := by decide +kernel
theorem dX2_doHold_57 : decode cX2_doHold 57 = .ok (.iload_n 2, 1) := by decide +kernel
theorem dX2_doHold_58 : decode cX2_doHold 58 = .ok (.aload_n 0, 1) := by decide +kernel
theorem dX2_doHold_59 : decode cX2_doHold 59 = .ok (.getfield 24, 3) := by decide +kernel
theorem dX2_doHold_62 : decode cX2_doHold 62 = .ok (.iload_n 3, 1) := by decide +kernel
theorem dX2_doHold_63 : decode cX2_doHold 63 = .ok (.iaload, 1) := by decide +kernel
theorem dX2_doHold_64 : decode cX2_doHold 64 = .ok (.invokevirtual 55, 3) := by decide +kernel
theorem dX2_doHold_67 : decode cX2_doHold 67 = .ok (.if_icmp .le 5, 3) := by decide +kernel
theorem dX2_doHold_70 : decode cX2_doHold 70 = .ok (.iconst 0, 1) := by decide +kernel
theorem dX2_doHold_71 : decode cX2_doHold 71 = .ok (.ireturn, 1) := by decide +kernel
theorem dX2_doHold_72 : decode cX2_doHold 72 = .ok (.iload_n 3, 1) := by decide +kernel
theorem dX2_doHold_73 : decode cX2_doHold 73 = .ok (.istore_n 2, 1) := by decide +kernel
theorem dX2_doHold_74 : decode cX2_doHold 74 = .ok (.iinc 3 1, 3) := by decide +kernel
theorem dX2_doHold_77 : decode cX2_doHold 77 = .ok (.goto (-50), 3) := by decide +kernel
theorem dX2_doHold_80 : decode cX2_doHold 80 = .ok (.iconst 1, 1) := by decide +kernel
theorem dX2_doHold_81 : decode cX2_doHold 81 = .ok (.ireturn, 1) := by decide +kernel
theorem dX2_howManyOfKind_0 : decode cX2_howManyOfKind 0 = .ok (.iconst 0, 1) := by decide +kernel
theorem dX2_howManyOfKind_1 : decode cX2_howManyOfKind 1 = .ok (.istore_n 2, 1) := by decide +kernel
theorem dX2_howManyOfKind_2 : decode cX2_howManyOfKind 2 = .ok (.iconst 0, 1) := by decide +kernel
theorem dX2_howManyOfKind_3 : decode cX2_howManyOfKind 3 = .ok (.istore_n 3, 1) := by decide +kernel
theorem dX2_howManyOfKind_4 : decode cX2_howManyOfKind 4 = .ok (.iload_n 3, 1) := by decide +kernel
theorem dX2_howManyOfKind_5 : decode cX2_howManyOfKind 5 = .ok (.aload_n 0, 1) := by decide +kernel
theorem dX2_howManyOfKind_6 : decode cX2_howManyOfKind 6 = .ok (.getfield 52, 3) := by decide +kernel
theorem dX2_howManyOfKind_9 : decode cX2_howManyOfKind 9 = .ok (.if_icmp .ge 26, 3) := by decide +kernel
theorem dX2_howManyOfKind_12 : decode cX2_howManyOfKind 12 = .ok (.iload_n 2, 1) := by decide +kernel
theorem dX2_howManyOfKind_13 : decode cX2_howManyOfKind 13 = .ok (.aload_n 0, 1) := by decide +kernel
theorem dX2_howManyOfKind_14 : decode cX2_howManyOfKind 14 = .ok (.iload_n 3, 1) := by decide +kernel
theorem dX2_howManyOfKind_15 : decode cX2_howManyOfKind 15 = .ok (.iload_n 1, 1) := by decide +kernel
theorem dX2_howManyOfKind_16 : decode cX2_howManyOfKind 16 = .ok (.invokevirtual 145, 3) := by decide +kernel
theorem dX2_howManyOfKind_19 : decode cX2_howManyOfKind 19 = .ok (.ifCond .eq 7, 3) := by decide +kernel
theorem dX2_howManyOfKind_22 : decode cX2_howManyOfKind 22 = .ok (.iconst 1, 1) := by decide +kernel
theorem dX2_howManyOfKind_23 : decode cX2_howManyOfKind 23 = .ok (.goto 4, 3) := by decide +kernel
theorem dX2_howManyOfKind_26 : decode cX2_howManyOfKind 26 = .ok (.iconst 0, 1) := by decide +kernel
theorem dX2_howManyOfKind_27 : decode cX2_howManyOfKind 27 = .ok (.iadd, 1) := by decide +kernel
theorem dX2_howManyOfKind_28 : decode cX2_howManyOfKind 28 = .ok (.istore_n 2, 1) := by decide +kernel
theorem dX2_howManyOfKind_29 : decode cX2_howManyOfKind 29 = .ok (.iinc 3 1, 3) := by decide +kernel
theorem dX2_howManyOfKind_32 : decode cX2_howManyOfKind 32 = .ok (.goto (-28), 3) := by decide +kernel
theorem dX2_howManyOfKind_35 : decode cX2_howManyOfKind 35 = .ok (.iload_n 2, 1) := by decide +kernel
theorem dX2_howManyOfKind_36 : decode cX2_howManyOfKind 36 = .ok (.ireturn, 1) := by decide +kernel
theorem dX2_howManyWant_0 : decode cX2_howManyWant 0 = .ok (.iconst 0, 1) := by decide +kernel
theorem dX2_howManyWant_1 : decode cX2_howManyWant 1 = .ok (.istore_n 1, 1) := by decide +kernel
theorem dX2_howManyWant_2 : decode cX2_howManyWant 2 = .ok (.iconst 0, 1) := by decide +kernel
theorem dX2_howManyWant_3 : decode cX2_howManyWant 3 = .ok (.istore_n 2, 1) := by decide +kernel
theorem dX2_howManyWant_4 : decode cX2_howManyWant 4 = .ok (.iload_n 2, 1) := by decide +kernel
theorem dX2_howManyWant_5 : decode cX2_howManyWant 5 = .ok (.aload_n 0, 1) := by decide +kernel
theorem dX2_howManyWant_6 : decode cX2_howManyWant 6 = .ok (.getfield 52, 3) := by decide +kernel
theorem dX2_howManyWant_9 : decode cX2_howManyWant 9 = .ok (.if_icmp .ge 27, 3) := by decide +kernel
theorem dX2_howManyWant_12 : decode cX2_howManyWant 12 = .ok (.iload_n 1, 1) := by decide +kernel
theorem dX2_howManyWant_13 : decode cX2_howManyWant 13 = .ok (.aload_n 0, 1) := by decide +kernel
theorem dX2_howManyWant_14 : decode cX2_howManyWant 14 = .ok (.getfield 30, 3) := by decide +kernel
theorem dX2_howManyWant_17 : decode cX2_howManyWant 17 = .ok (.iload_n 2, 1) := by decide +kernel
theorem dX2_howManyWant_18 : decode cX2_howManyWant 18 = .ok (.iaload, 1) := by decide +kernel
theorem dX2_howManyWant_19 : decode cX2_howManyWant 19 = .ok (.iconst 4, 1) := by decide +kernel
theorem dX2_howManyWant_20 : decode cX2_howManyWant 20 = .ok (.if_icmp .eq 7, 3) := by decide +kernel
theorem dX2_howManyWant_23 : decode cX2_howManyWant 23 = .ok (.iconst 1, 1) := by decide +kernel
theorem dX2_howManyWant_24 : decode cX2_howManyWant 24 = .ok (.goto 4, 3) := by decide +kernel
theorem dX2_howManyWant_27 : decode cX2_howManyWant 27 = .ok (.iconst 0, 1) := by decide +kernel
theorem dX2_howManyWant_28 : decode cX2_howManyWant 28 = .ok (.iadd, 1) := by decide +kernel
theorem dX2_howManyWant_29 : decode cX2_howManyWant 29 = .ok (.istore_n 1, 1) := by decide +kernel
theorem dX2_howManyWant_30 : decode cX2_howManyWant 30 = .ok (.iinc 2 1, 3) := by decide +kernel
theorem dX2_howManyWant_33 : decode cX2_howManyWant 33 = .ok (.goto (-29), 3) := by decide +kernel
theorem dX2_howManyWant_36 : decode cX2_howManyWant 36 = .ok (.iload_n 1, 1) := by decide +kernel
theorem dX2_howManyWant_37 : decode cX2_howManyWant 37 = .ok (.ireturn, 1) := by decide +kernel
theorem dX2_paidByAll_0 : decode cX2_paidByAll 0 = .ok (.iconst 0, 1) := by decide +kernel
theorem dX2_paidByAll_1 : decode cX2_paidByAll 1 = .ok (.istore_n 1, 1) := by decide +kernel
theorem dX2_paidByAll_2 : decode cX2_paidByAll 2 = .ok (.iconst 0, 1) := by decide +kernel
theorem dX2_paidByAll_3 : decode cX2_paidByAll 3 = .ok (.istore_n 2, 1) := by decide +kernel
theorem dX2_paidByAll_4 : decode cX2_paidByAll 4 = .ok (.iload_n 2, 1) := by decide +kernel
theorem dX2_paidByAll_5 : decode cX2_paidByAll 5 = .ok (.aload_n 0, 1) := by decide +kernel
theorem dX2_paidByAll_6 : decode cX2_paidByAll 6 = .ok (.getfield 52, 3) := by decide +kernel
