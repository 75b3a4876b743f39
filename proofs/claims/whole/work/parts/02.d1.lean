theorem dX2_paidByAll_9 : decode cX2_paidByAll 9 = .ok (.if_icmp .ge 18, 3) := by decide +kernel
theorem dX2_paidByAll_12 : decode cX2_paidByAll 12 = .ok (.iload_n 1, 1) := by decide +kernel
theorem dX2_paidByAll_13 : decode cX2_paidByAll 13 = .ok (.aload_n 0, 1) := by decide +kernel
theorem dX2_paidByAll_14 : decode cX2_paidByAll 14 = .ok (.getfield 33, 3) := by decide +kernel
theorem dX2_paidByAll_17 : decode cX2_paidByAll 17 = .ok (.iload_n 2, 1) := by decide +kernel
theorem dX2_paidByAll_18 : decode cX2_paidByAll 18 = .ok (.iaload, 1) := by decide +kernel
theorem dX2_paidByAll_19 : decode cX2_paidByAll 19 = .ok (.iadd, 1) := by decide +kernel
theorem dX2_paidByAll_20 : decode cX2_paidByAll 20 = .ok (.istore_n 1, 1) := by decide +kernel
theorem dX2_paidByAll_21 : decode cX2_paidByAll 21 = .ok (.iinc 2 1, 3) := by decide +kernel
theorem dX2_paidByAll_24 : decode cX2_paidByAll 24 = .ok (.goto (-20), 3) := by decide +kernel
theorem dX2_paidByAll_27 : decode cX2_paidByAll 27 = .ok (.iload_n 1, 1) := by decide +kernel
theorem dX2_paidByAll_28 : decode cX2_paidByAll 28 = .ok (.ireturn, 1) := by decide +kernel
theorem dX2_pricesOfAll_0 : decode cX2_pricesOfAll 0 = .ok (.iconst 0, 1) := by decide +kernel
theorem dX2_pricesOfAll_1 : decode cX2_pricesOfAll 1 = .ok (.istore_n 1, 1) := by decide +kernel
theorem dX2_pricesOfAll_2 : decode cX2_pricesOfAll 2 = .ok (.iconst 0, 1) := by decide +kernel
theorem dX2_pricesOfAll_3 : decode cX2_pricesOfAll 3 = .ok (.istore_n 2, 1) := by decide +kernel
theorem dX2_pricesOfAll_4 : decode cX2_pricesOfAll 4 = .ok (.iload_n 2, 1) := by decide +kernel
theorem dX2_pricesOfAll_5 : decode cX2_pricesOfAll 5 = .ok (.aload_n 0, 1) := by decide +kernel
theorem dX2_pricesOfAll_6 : decode cX2_pricesOfAll 6 = .ok (.getfield 49, 3) := by decide +kernel
theorem dX2_pricesOfAll_9 : decode cX2_pricesOfAll 9 = .ok (.if_icmp .ge 18, 3) := by decide +kernel
theorem dX2_pricesOfAll_12 : decode cX2_pricesOfAll 12 = .ok (.iload_n 1, 1) := by decide +kernel
theorem dX2_pricesOfAll_13 : decode cX2_pricesOfAll 13 = .ok (.aload_n 0, 1) := by decide +kernel
theorem dX2_pricesOfAll_14 : decode cX2_pricesOfAll 14 = .ok (.getfield 18, 3) := by decide +kernel
theorem dX2_pricesOfAll_17 : decode cX2_pricesOfAll 17 = .ok (.iload_n 2, 1) := by decide +kernel
theorem dX2_pricesOfAll_18 : decode cX2_pricesOfAll 18 = .ok (.iaload, 1) := by decide +kernel
theorem dX2_pricesOfAll_19 : decode cX2_pricesOfAll 19 = .ok (.iadd, 1) := by decide +kernel
theorem dX2_pricesOfAll_20 : decode cX2_pricesOfAll 20 = .ok (.istore_n 1, 1) := by decide +kernel
theorem dX2_pricesOfAll_21 : decode cX2_pricesOfAll 21 = .ok (.iinc 2 1, 3) := by decide +kernel
theorem dX2_pricesOfAll_24 : decode cX2_pricesOfAll 24 = .ok (.goto (-20), 3) := by decide +kernel
theorem dX2_pricesOfAll_27 : decode cX2_pricesOfAll 27 = .ok (.iload_n 1, 1) := by decide +kernel
theorem dX2_pricesOfAll_28 : decode cX2_pricesOfAll 28 = .ok (.ireturn, 1) := by decide +kernel
theorem dX2_factOfBuyer_0 : decode cX2_factOfBuyer 0 = .ok (.iload_n 2, 1) := by decide +kernel
theorem dX2_factOfBuyer_1 : decode cX2_factOfBuyer 1 = .ok (.tableswitch 63 0 2 #[27, 34, 41], 27) := by decide +kernel
theorem dX2_factOfBuyer_28 : decode cX2_factOfBuyer 28 = .ok (.aload_n 0, 1) := by decide +kernel
theorem dX2_factOfBuyer_29 : decode cX2_factOfBuyer 29 = .ok (.getfield 24, 3) := by decide +kernel
theorem dX2_factOfBuyer_32 : decode cX2_factOfBuyer 32 = .ok (.iload_n 1, 1) := by decide +kernel
theorem dX2_factOfBuyer_33 : decode cX2_factOfBuyer 33 = .ok (.iaload, 1) := by decide +kernel
theorem dX2_factOfBuyer_34 : decode cX2_factOfBuyer 34 = .ok (.ireturn, 1) := by decide +kernel
theorem dX2_factOfBuyer_35 : decode cX2_factOfBuyer 35 = .ok (.aload_n 0, 1) := by decide +kernel
theorem dX2_factOfBuyer_36 : decode cX2_factOfBuyer 36 = .ok (.getfield 27, 3) := by decide +kernel
theorem dX2_factOfBuyer_39 : decode cX2_factOfBuyer 39 = .ok (.iload_n 1, 1) := by decide +kernel
theorem dX2_factOfBuyer_40 : decode cX2_factOfBuyer 40 = .ok (.iaload, 1) := by decide +kernel
theorem dX2_factOfBuyer_41 : decode cX2_factOfBuyer 41 = .ok (.ireturn, 1) := by decide +kernel
theorem dX2_factOfBuyer_42 : decode cX2_factOfBuyer 42 = .ok (.aload_n 0, 1) := by decide +kernel
theorem dX2_factOfBuyer_43 : decode cX2_factOfBuyer 43 = .ok (.getfield 30, 3) := by decide +kernel
theorem dX2_factOfBuyer_46 : decode cX2_factOfBuyer 46 = .ok (.iload_n 1, 1) := by decide +kernel
theorem dX2_factOfBuyer_47 : decode cX2_factOfBuyer 47 = .ok (.iaload, 1) := by decide +kernel
theorem dX2_factOfBuyer_48 : decode cX2_factOfBuyer 48 = .ok (.iconst 4, 1) := by decide +kernel
theorem dX2_factOfBuyer_49 : decode cX2_factOfBuyer 49 = .ok (.if_icmp .ne 8, 3) := by decide +kernel
theorem dX2_factOfBuyer_52 : decode cX2_factOfBuyer 52 = .ok (.bipush (-9), 2) := by decide +kernel
theorem dX2_factOfBuyer_54 : decode cX2_factOfBuyer 54 = .ok (.goto 9, 3) := by decide +kernel
theorem dX2_factOfBuyer_57 : decode cX2_factOfBuyer 57 = .ok (.aload_n 0, 1) := by decide +kernel
theorem dX2_factOfBuyer_58 : decode cX2_factOfBuyer 58 = .ok (.getfield 30, 3) := by decide +kernel
theorem dX2_factOfBuyer_61 : decode cX2_factOfBuyer 61 = .ok (.iload_n 1, 1) := by decide +kernel
theorem dX2_factOfBuyer_62 : decode cX2_factOfBuyer 62 = .ok (.iaload, 1) := by decide +kernel
theorem dX2_factOfBuyer_63 : decode cX2_factOfBuyer 63 = .ok (.ireturn, 1) := by decide +kernel
theorem dX2_factOfBuyer_64 : decode cX2_factOfBuyer 64 = .ok (.aload_n 0, 1) := by decide +kernel
theorem dX2_factOfBuyer_65 : decode cX2_factOfBuyer 65 = .ok (.getfield 33, 3) := by decide +kernel
theorem dX2_factOfBuyer_68 : decode cX2_factOfBuyer 68 = .ok (.iload_n 1, 1) := by decide +kernel
theorem dX2_factOfBuyer_69 : decode cX2_factOfBuyer 69 = .ok (.iaload, 1) := by decide +kernel
theorem dX2_factOfBuyer_70 : decode cX2_factOfBuyer 70 = .ok (.ireturn, 1) := by decide +kernel
theorem dX2_factOfStall_0 : decode cX2_factOfStall 0 = .ok (.iload_n 2, 1) := by decide +kernel
theorem dX2_factOfStall_1 : decode cX2_factOfStall 1 = .ok (.tableswitch 48 0 2 #[27, 34, 41], 27) := by decide +kernel
theorem dX2_factOfStall_28 : decode cX2_factOfStall 28 = .ok (.aload_n 0, 1) := by decide +kernel
theorem dX2_factOfStall_29 : decode cX2_factOfStall 29 = .ok (.getfield 9, 3) := by decide +kernel
theorem dX2_factOfStall_32 : decode cX2_factOfStall 32 = .ok (.iload_n 1, 1) := by decide +kernel
theorem dX2_factOfStall_33 : decode cX2_factOfStall 33 = .ok (.iaload, 1) := by decide +kernel
theorem dX2_factOfStall_34 : decode cX2_factOfStall 34 = .ok (.ireturn, 1) := by decide +kernel
theorem dX2_factOfStall_35 : decode cX2_factOfStall 35 = .ok (.aload_n 0, 1) := by decide +kernel
theorem dX2_factOfStall_36 : decode cX2_factOfStall 36 = .ok (.getfield 15, 3) := by decide +kernel
theorem dX2_factOfStall_39 : decode cX2_factOfStall 39 = .ok (.iload_n 1, 1) := by decide +kernel
theorem dX2_factOfStall_40 : decode cX2_factOfStall 40 = .ok (.iaload, 1) := by decide +kernel
theorem dX2_factOfStall_41 : decode cX2_factOfStall 41 = .ok (.ireturn, 1) := by decide +kernel
theorem dX2_factOfStall_42 : decode cX2_factOfStall 42 = .ok (.aload_n 0, 1) := by decide +kernel
theorem dX2_factOfStall_43 : decode cX2_factOfStall 43 = .ok (.getfield 18, 3) := by decide +kernel
theorem dX2_factOfStall_46 : decode cX2_factOfStall 46 = .ok (.iload_n 1, 1) := by decide +kernel
theorem dX2_factOfStall_47 : decode cX2_factOfStall 47 = .ok (.iaload, 1) := by decide +kernel
theorem dX2_factOfStall_48 : decode cX2_factOfStall 48 = .ok (.ireturn, 1) := by decide +kernel
theorem dX2_factOfStall_49 : decode cX2_factOfStall 49 = .ok (.aload_n 0, 1) := by decide +kernel
theorem dX2_factOfStall_50 : decode cX2_factOfStall 50 = .ok (.getfield 21, 3) := by decide +kernel
theorem dX2_factOfStall_53 : decode cX2_factOfStall 53 = .ok (.iload_n 1, 1) := by decide +kernel
theorem dX2_factOfStall_54 : decode cX2_factOfStall 54 = .ok (.iaload, 1) := by decide +kernel
theorem dX2_factOfStall_55 : decode cX2_factOfStall 55 = .ok (.ireturn, 1) := by decide +kernel
theorem dX2_spotsAndWants_0 : decode cX2_spotsAndWants 0 = .ok (.lconst 0, 1) := by decide +kernel
theorem dX2_spotsAndWants_1 : decode cX2_spotsAndWants 1 = .ok (.lstore_n 1, 1) := by decide +kernel
theorem dX2_spotsAndWants_2 : decode cX2_spotsAndWants 2 = .ok (.iconst 0, 1) := by decide +kernel
theorem dX2_spotsAndWants_3 : decode cX2_spotsAndWants 3 = .ok (.istore_n 3, 1) := by decide +kernel
theorem dX2_spotsAndWants_4 : decode cX2_spotsAndWants 4 = .ok (.iload_n 3, 1) := by decide +kernel
theorem dX2_spotsAndWants_5 : decode cX2_spotsAndWants 5 = .ok (.aload_n 0, 1) := by decide +kernel
theorem dX2_spotsAndWants_6 : decode cX2_spotsAndWants 6 = .ok (.getfield 52, 3) := by decide +kernel
theorem dX2_spotsAndWants_9 : decode cX2_spotsAndWants 9 = .ok (.if_icmp .ge 35, 3) := by decide +kernel
theorem dX2_spotsAndWants_12 : decode cX2_spotsAndWants 12 = .ok (.lload_n 1, 1) := by decide +kernel
theorem dX2_spotsAndWants_13 : decode cX2_spotsAndWants 13 = .ok (.ldc2_w 148, 3) := by decide +kernel
theorem dX2_spotsAndWants_16 : decode cX2_spotsAndWants 16 = .ok (.lmul, 1) := by decide +kernel
theorem dX2_spotsAndWants_17 : decode cX2_spotsAndWants 17 = .ok (.aload_n 0, 1) := by decide +kernel
theorem dX2_spotsAndWants_18 : decode cX2_spotsAndWants 18 = .ok (.getfield 27, 3) := by decide +kernel
theorem dX2_spotsAndWants_21 : decode cX2_spotsAndWants 21 = .ok (.iload_n 3, 1) := by decide +kernel
theorem dX2_spotsAndWants_22 : decode cX2_spotsAndWants 22 = .ok (.iaload, 1) := by decide +kernel
theorem dX2_spotsAndWants_23 : decode cX2_spotsAndWants 23 = .ok (.i2l, 1) := by decide +kernel
theorem dX2_spotsAndWants_24 : decode cX2_spotsAndWants 24 = .ok (.ladd, 1) := by decide +kernel
theorem dX2_spotsAndWants_25 : decode cX2_spotsAndWants 25 = .ok (.ldc2_w 150, 3) := by decide +kernel
theorem dX2_spotsAndWants_28 : decode cX2_spotsAndWants 28 = .ok (.lmul, 1) := by decide +kernel
theorem dX2_spotsAndWants_29 : decode cX2_spotsAndWants 29 = .ok (.aload_n 0, 1) := by decide +kernel
theorem dX2_spotsAndWants_30 : decode cX2_spotsAndWants 30 = .ok (.getfield 30, 3) := by decide +kernel
theorem dX2_spotsAndWants_33 : decode cX2_spotsAndWants 33 = .ok (.iload_n 3, 1) := by decide +kernel
theorem dX2_spotsAndWants_34 : decode cX2_spotsAndWants 34 = .ok (.iaload, 1) := by decide +kernel
theorem dX2_spotsAndWants_35 : decode cX2_spotsAndWants 35 = .ok (.i2l, 1) := by decide +kernel
theorem dX2_spotsAndWants_36 : decode cX2_spotsAndWants 36 = .ok (.ladd, 1) := by decide +kernel
theorem dX2_spotsAndWants_37 : decode cX2_spotsAndWants 37 = .ok (.lstore_n 1, 1) := by decide +kernel
theorem dX2_spotsAndWants_38 : decode cX2_spotsAndWants 38 = .ok (.iinc 3 1, 3) := by decide +kernel
theorem dX2_spotsAndWants_41 : decode cX2_spotsAndWants 41 = .ok (.goto (-37), 3) := by decide +kernel
theorem dX2_spotsAndWants_44 : decode cX2_spotsAndWants 44 = .ok (.lload_n 1, 1) := by decide +kernel
theorem dX2_spotsAndWants_45 : decode cX2_spotsAndWants 45 = .ok (.lreturn, 1) := by decide +kernel
theorem dX2_digestOn_0 : decode cX2_digestOn 0 = .ok (.iconst 0, 1) := by decide +kernel
theorem dX2_digestOn_1 : decode cX2_digestOn 1 = .ok (.istore_n 3, 1) := by decide +kernel
theorem dX2_digestOn_2 : decode cX2_digestOn 2 = .ok (.iload_n 3, 1) := by decide +kernel
theorem dX2_digestOn_3 : decode cX2_digestOn 3 = .ok (.aload_n 0, 1) := by decide +kernel
theorem dX2_digestOn_4 : decode cX2_digestOn 4 = .ok (.getfield 52, 3) := by decide +kernel
theorem dX2_digestOn_7 : decode cX2_digestOn 7 = .ok (.if_icmp .ge 39, 3) := by decide +kernel
theorem dX2_digestOn_10 : decode cX2_digestOn 10 = .ok (.iconst 0, 1) := by decide +kernel
theorem dX2_digestOn_11 : decode cX2_digestOn 11 = .ok (.istore 4, 2) := by decide +kernel
theorem dX2_digestOn_13 : decode cX2_digestOn 13 = .ok (.iload 4, 2) := by decide +kernel
theorem dX2_digestOn_15 : decode cX2_digestOn 15 = .ok (.iconst 4, 1) := by decide +kernel
theorem dX2_digestOn_16 : decode cX2_digestOn 16 = .ok (.if_icmp .ge 24, 3) := by decide +kernel
theorem dX2_digestOn_19 : decode cX2_digestOn 19 = .ok (.ldc2_w 152, 3) := by decide +kernel
theorem dX2_digestOn_22 : decode cX2_digestOn 22 = .ok (.lload_n 1, 1) := by decide +kernel
theorem dX2_digestOn_23 : decode cX2_digestOn 23 = .ok (.lmul, 1) := by decide +kernel
theorem dX2_digestOn_24 : decode cX2_digestOn 24 = .ok (.aload_n 0, 1) := by decide +kernel
theorem dX2_digestOn_25 : decode cX2_digestOn 25 = .ok (.iload_n 3, 1) := by decide +kernel
theorem dX2_digestOn_26 : decode cX2_digestOn 26 = .ok (.iload 4, 2) := by decide +kernel
theorem dX2_digestOn_28 : decode cX2_digestOn 28 = .ok (.invokevirtual 154, 3) := by decide +kernel
theorem dX2_digestOn_31 : decode cX2_digestOn 31 = .ok (.i2l, 1) := by decide +kernel
theorem dX2_digestOn_32 : decode cX2_digestOn 32 = .ok (.ladd, 1) := by decide +kernel
theorem dX2_digestOn_33 : decode cX2_digestOn 33 = .ok (.lstore_n 1, 1) := by decide +kernel
theorem dX2_digestOn_34 : decode cX2_digestOn 34 = .ok (.iinc 4 1, 3) := by decide +kernel
theorem dX2_digestOn_37 : decode cX2_digestOn 37 = .ok (.goto (-24), 3) := by decide +kernel
theorem dX2_digestOn_40 : decode cX2_digestOn 40 = .ok (.iinc 3 1, 3) := by decide +kernel
theorem dX2_digestOn_43 : decode cX2_digestOn 43 = .ok (.goto (-41), 3) := by decide +kernel
theorem dX2_digestOn_46 : decode cX2_digestOn 46 = .ok (.iconst 0, 1) := by decide +kernel
theorem dX2_digestOn_47 : decode cX2_digestOn 47 = .ok (.istore_n 3, 1) := by decide +kernel
theorem dX2_digestOn_48 : decode cX2_digestOn 48 = .ok (.iload_n 3, 1) := by decide +kernel
theorem dX2_digestOn_49 : decode cX2_digestOn 49 = .ok (.aload_n 0, 1) := by decide +kernel
theorem dX2_digestOn_50 : decode cX2_digestOn 50 = .ok (.getfield 49, 3) := by decide +kernel
theorem dX2_digestOn_53 : decode cX2_digestOn 53 = .ok (.if_icmp .ge 39, 3) := by decide +kernel
theorem dX2_digestOn_56 : decode cX2_digestOn 56 = .ok (.iconst 0, 1) := by decide +kernel
theorem dX2_digestOn_57 : decode cX2_digestOn 57 = .ok (.istore 4, 2) := by decide +kernel
theorem dX2_digestOn_59 : decode cX2_digestOn 59 = .ok (.iload 4, 2) := by decide +kernel
theorem dX2_digestOn_61 : decode cX2_digestOn 61 = .ok (.iconst 4, 1) := by decide +kernel
theorem dX2_digestOn_62 : decode cX2_digestOn 62 = .ok (.if_icmp .ge 24, 3) := by decide +kernel
theorem dX2_digestOn_65 : decode cX2_digestOn 65 = .ok (.ldc2_w 152, 3) := by decide +kernel
theorem dX2_digestOn_68 : decode cX2_digestOn 68 = .ok (.lload_n 1, 1) := by decide +kernel
theorem dX2_digestOn_69 : decode cX2_digestOn 69 = .ok (.lmul, 1) := by decide +kernel
theorem dX2_digestOn_70 : decode cX2_digestOn 70 = .ok (.aload_n 0, 1) := by decide +kernel
theorem dX2_digestOn_71 : decode cX2_digestOn 71 = .ok (.iload_n 3, 1) := by decide +kernel
theorem dX2_digestOn_72 : decode cX2_digestOn 72 = .ok (.iload 4, 2) := by decide +kernel
theorem dX2_digestOn_74 : decode cX2_digestOn 74 = .ok (.invokevirtual 157, 3) := by decide +kernel
theorem dX2_digestOn_77 : decode cX2_digestOn 77 = .ok (.i2l, 1) := by decide +kernel
theorem dX2_digestOn_78 : decode cX2_digestOn 78 = .ok (.ladd, 1) := by decide +kernel
theorem dX2_digestOn_79 : decode cX2_digestOn 79 = .ok (.lstore_n 1, 1) := by decide +kernel
theorem dX2_digestOn_80 : decode cX2_digestOn 80 = .ok (.iinc 4 1, 3) := by decide +kernel
theorem dX2_digestOn_83 : decode cX2_digestOn 83 = .ok (.goto (-24), 3) := by decide +kernel
theorem dX2_digestOn_86 : decode cX2_digestOn 86 = .ok (.iinc 3 1, 3) := by decide +kernel
theorem dX2_digestOn_89 : decode cX2_digestOn 89 = .ok (.goto (-41), 3) := by decide +kernel
theorem dX2_digestOn_92 : decode cX2_digestOn 92 = .ok (.lload_n 1, 1) := by decide +kernel
theorem dX2_digestOn_93 : decode cX2_digestOn 93 = .ok (.lreturn, 1) := by decide +kernel
theorem dX3_init_0 : decode cX3_init 0 = .ok (.aload_n 0, 1) := by decide +kernel
theorem dX3_init_1 : decode cX3_init 1 = .ok (.invokespecial 3, 3) := by decide +kernel
theorem dX3_init_4 : decode cX3_init 4 = .ok (.aload_n 0, 1) := by decide +kernel
theorem dX3_init_5 : decode cX3_init 5 = .ok (.new 9, 3) := by decide +kernel
theorem dX3_init_8 : decode cX3_init 8 = .ok (.dup, 1) := by decide +kernel
theorem dX3_init_9 : decode cX3_init 9 = .ok (.invokespecial 11, 3) := by decide +kernel
theorem dX3_init_12 : decode cX3_init 12 = .ok (.putfield 12, 3) := by decide +kernel
theorem dX3_init_15 : decode cX3_init 15 = .ok (.aload_n 0, 1) := by decide +kernel
theorem dX3_init_16 : decode cX3_init 16 = .ok (.new 18, 3) := by decide +kernel
theorem dX3_init_19 : decode cX3_init 19 = .ok (.dup, 1) := by decide +kernel
theorem dX3_init_20 : decode cX3_init 20 = .ok (.iconst 0, 1) := by decide +kernel
theorem dX3_init_21 : decode cX3_init 21 = .ok (.invokespecial 20, 3) := by decide +kernel
theorem dX3_init_24 : decode cX3_init 24 = .ok (.putfield 23, 3) := by decide +kernel
theorem dX3_init_27 : decode cX3_init 27 = .ok (.return_, 1) := by decide +kernel
theorem dX3_read_0 : decode cX3_read 0 = .ok (.aload_n 0, 1) := by decide +kernel
theorem dX3_read_1 : decode cX3_read 1 = .ok (.aload_n 1, 1) := by decide +kernel
theorem dX3_read_2 : decode cX3_read 2 = .ok (.putfield 23, 3) := by decide +kernel
theorem dX3_read_5 : decode cX3_read 5 = .ok (.aload_n 0, 1) := by decide +kernel
theorem dX3_read_6 : decode cX3_read 6 = .ok (.iconst 0, 1) := by decide +kernel
theorem dX3_read_7 : decode cX3_read 7 = .ok (.putfield 27, 3) := by decide +kernel
theorem dX3_read_10 : decode cX3_read 10 = .ok (.aload_n 0, 1) := by decide +kernel
theorem dX3_read_11 : decode cX3_read 11 = .ok (.bipush (-9), 2) := by decide +kernel
theorem dX3_read_13 : decode cX3_read 13 = .ok (.putfield 31, 3) := by decide +kernel
theorem dX3_read_16 : decode cX3_read 16 = .ok (.aload_n 0, 1) := by decide +kernel
theorem dX3_read_17 : decode cX3_read 17 = .ok (.getfield 12, 3) := by decide +kernel
theorem dX3_read_20 : decode cX3_read 20 = .ok (.invokevirtual 34, 3) := by decide +kernel
theorem dX3_read_23 : decode cX3_read 23 = .ok (.aload_n 0, 1) := by decide +kernel
theorem dX3_read_24 : decode cX3_read 24 = .ok (.invokevirtual 37, 3) := by decide +kernel
theorem dX3_read_27 : decode cX3_read 27 = .ok (.aload_n 0, 1) := by decide +kernel
theorem dX3_read_28 : decode cX3_read 28 = .ok (.bipush 103, 2) := by decide +kernel
theorem dX3_read_30 : decode cX3_read 30 = .ok (.bipush 103, 2) := by decide +kernel
theorem dX3_read_32 : decode cX3_read 32 = .ok (.invokevirtual 40, 3) := by decide +kernel
theorem dX3_read_35 : decode cX3_read 35 = .ok (.pop, 1) := by decide +kernel
theorem dX3_read_36 : decode cX3_read 36 = .ok (.aload_n 0, 1) := by decide +kernel
theorem dX3_read_37 : decode cX3_read 37 = .ok (.getfield 12, 3) := by decide +kernel
theorem dX3_read_40 : decode cX3_read 40 = .ok (.iconst 1, 1) := by decide +kernel
theorem dX3_read_41 : decode cX3_read 41 = .ok (.aload_n 0, 1) := by decide +kernel
theorem dX3_read_42 : decode cX3_read 42 = .ok (.bipush 49, 2) := by decide +kernel
theorem dX3_read_44 : decode cX3_read 44 = .ok (.bipush 52, 2) := by decide +kernel
theorem dX3_read_46 : decode cX3_read 46 = .ok (.invokevirtual 40, 3) := by decide +kernel
theorem dX3_read_49 : decode cX3_read 49 = .ok (.iadd, 1) := by decide +kernel
theorem dX3_read_50 : decode cX3_read 50 = .ok (.putfield 44, 3) := by decide +kernel
theorem dX3_read_53 : decode cX3_read 53 = .ok (.aload_n 0, 1) := by decide +kernel
theorem dX3_read_54 : decode cX3_read 54 = .ok (.invokevirtual 37, 3) := by decide +kernel
theorem dX3_read_57 : decode cX3_read 57 = .ok (.iconst 0, 1) := by decide +kernel
theorem dX3_read_58 : decode cX3_read 58 = .ok (.istore_n 2, 1) := by decide +kernel
theorem dX3_read_59 : decode cX3_read 59 = .ok (.iload_n 2, 1) := by decide +kernel
theorem dX3_read_60 : decode cX3_read 60 = .ok (.bipush 80, 2) := by decide +kernel
theorem dX3_read_62 : decode cX3_read 62 = .ok (.if_icmp .ge 40, 3) := by decide +kernel
theorem dX3_read_65 : decode cX3_read 65 = .ok (.aload_n 0, 1) := by decide +kernel
theorem dX3_read_66 : decode cX3_read 66 = .ok (.getfield 31, 3) := by decide +kernel
theorem dX3_read_69 : decode cX3_read 69 = .ok (.bipush (-9), 2) := by decide +kernel
theorem dX3_read_71 : decode cX3_read 71 = .ok (.if_icmp .ne 31, 3) := by decide +kernel
theorem dX3_read_74 : decode cX3_read 74 = .ok (.aload_n 0, 1) := by decide +kernel
theorem dX3_read_75 : decode cX3_read 75 = .ok (.getfield 23, 3) := by decide +kernel
theorem dX3_read_78 : decode cX3_read 78 = .ok (.aload_n 0, 1) := by decide +kernel
theorem dX3_read_79 : decode cX3_read 79 = .ok (.getfield 27, 3) := by decide +kernel
theorem dX3_read_82 : decode cX3_read 82 = .ok (.invokevirtual 47, 3) := by decide +kernel
theorem dX3_read_85 : decode cX3_read 85 = .ok (.ifCond .eq 17, 3) := by decide +kernel
theorem dX3_read_88 : decode cX3_read 88 = .ok (.aload_n 0, 1) := by decide +kernel
theorem dX3_read_89 : decode cX3_read 89 = .ok (.invokevirtual 51, 3) := by decide +kernel
theorem dX3_read_92 : decode cX3_read 92 = .ok (.aload_n 0, 1) := by decide +kernel
theorem dX3_read_93 : decode cX3_read 93 = .ok (.invokevirtual 37, 3) := by decide +kernel
theorem dX3_read_96 : decode cX3_read 96 = .ok (.iinc 2 1, 3) := by decide +kernel
theorem dX3_read_99 : decode cX3_read 99 = .ok (.goto (-40), 3) := by decide +kernel
theorem dX3_read_102 : decode cX3_read 102 = .ok (.aload_n 0, 1) := by decide +kernel
theorem dX3_read_103 : decode cX3_read 103 = .ok (.getfield 31, 3) := by decide +kernel
theorem dX3_read_106 : decode cX3_read 106 = .ok (.ireturn, 1) := by decide +kernel
theorem dX3_skipBlanks_0 : decode cX3_skipBlanks 0 = .ok (.iconst 0, 1) := by decide +kernel
theorem dX3_skipBlanks_1 : decode cX3_skipBlanks 1 = .ok (.istore_n 1, 1) := by decide +kernel
theorem dX3_skipBlanks_2 : decode cX3_skipBlanks 2 = .ok (.iload_n 1, 1) := by decide +kernel
theorem dX3_skipBlanks_3 : decode cX3_skipBlanks 3 = .ok (.bipush 80, 2) := by decide +kernel
theorem dX3_skipBlanks_5 : decode cX3_skipBlanks 5 = .ok (.if_icmp .ge 35, 3) := by decide +kernel
theorem dX3_skipBlanks_8 : decode cX3_skipBlanks 8 = .ok (.aload_n 0, 1) := by decide +kernel
theorem dX3_skipBlanks_9 : decode cX3_skipBlanks 9 = .ok (.getfield 23, 3) := by decide +kernel
theorem dX3_skipBlanks_12 : decode cX3_skipBlanks 12 = .ok (.aload_n 0, 1) := by decide +kernel
theorem dX3_skipBlanks_13 : decode cX3_skipBlanks 13 = .ok (.getfield 27, 3) := by decide +kernel
theorem dX3_skipBlanks_16 : decode cX3_skipBlanks 16 = .ok (.invokevirtual 54, 3) := by decide +kernel
theorem dX3_skipBlanks_19 : decode cX3_skipBlanks 19 = .ok (.bipush 32, 2) := by decide +kernel
theorem dX3_skipBlanks_21 : decode cX3_skipBlanks 21 = .ok (.if_icmp .ne 19, 3) := by decide +kernel
theorem dX3_skipBlanks_24 : decode cX3_skipBlanks 24 = .ok (.aload_n 0, 1) := by decide +kernel
theorem dX3_skipBlanks_25 : decode cX3_skipBlanks 25 = .ok (.dup, 1) := by decide +kernel
theorem dX3_skipBlanks_26 : decode cX3_skipBlanks 26 = .ok (.getfield 27, 3) := by decide +kernel
theorem dX3_skipBlanks_29 : decode cX3_skipBlanks 29 = .ok (.iconst 1, 1) := by decide +kernel
theorem dX3_skipBlanks_30 : decode cX3_skipBlanks 30 = .ok (.iadd, 1) := by decide +kernel
theorem dX3_skipBlanks_31 : decode cX3_skipBlanks 31 = .ok (.putfield 27, 3) := by decide +kernel
theorem dX3_skipBlanks_34 : decode cX3_skipBlanks 34 = .ok (.iinc 1 1, 3) := by decide +kernel
theorem dX3_skipBlanks_37 : decode cX3_skipBlanks 37 = .ok (.goto (-35), 3) := by decide +kernel
theorem dX3_skipBlanks_40 : decode cX3_skipBlanks 40 = .ok (.return_, 1) := by decide +kernel
theorem dX3_take_0 : decode cX3_take 0 = .ok (.aload_n 0, 1) := by decide +kernel
theorem dX3_take_1 : decode cX3_take 1 = .ok (.getfield 23, 3) := by decide +kernel
theorem dX3_take_4 : decode cX3_take 4 = .ok (.aload_n 0, 1) := by decide +kernel
theorem dX3_take_5 : decode cX3_take 5 = .ok (.getfield 27, 3) := by decide +kernel
theorem dX3_take_8 : decode cX3_take 8 = .ok (.invokevirtual 54, 3) := by decide +kernel
theorem dX3_take_11 : decode cX3_take 11 = .ok (.istore_n 3, 1) := by decide +kernel
theorem dX3_take_12 : decode cX3_take 12 = .ok (.aload_n 0, 1) := by decide +kernel
theorem dX3_take_13 : decode cX3_take 13 = .ok (.getfield 31, 3) := by decide +kernel
theorem dX3_take_16 : decode cX3_take 16 = .ok (.bipush (-9), 2) := by decide +kernel
theorem dX3_take_18 : decode cX3_take 18 = .ok (.if_icmp .ne 21, 3) := by decide +kernel
theorem dX3_take_21 : decode cX3_take 21 = .ok (.iload_n 3, 1) := by decide +kernel
theorem dX3_take_22 : decode cX3_take 22 = .ok (.iload_n 1, 1) := by decide +kernel
theorem dX3_take_23 : decode cX3_take 23 = .ok (.if_icmp .lt 8, 3) := by decide +kernel
theorem dX3_take_26 : decode cX3_take 26 = .ok (.iload_n 3, 1) := by decide +kernel
theorem dX3_take_27 : decode cX3_take 27 = .ok (.iload_n 2, 1) := by decide +kernel
theorem dX3_take_28 : decode cX3_take 28 = .ok (.if_icmp .le 11, 3) := by decide +kernel
theorem dX3_take_31 : decode cX3_take 31 = .ok (.aload_n 0, 1) := by decide +kernel
theorem dX3_take_32 : decode cX3_take 32 = .ok (.aload_n 0, 1) := by decide +kernel
theorem dX3_take_33 : decode cX3_take 33 = .ok (.getfield 27, 3) := by decide +kernel
theorem dX3_take_36 : decode cX3_take 36 = .ok (.putfield 31, 3) := by decide +kernel
theorem dX3_take_39 : decode cX3_take 39 = .ok (.aload_n 0, 1) := by decide +kernel
theorem dX3_take_40 : decode cX3_take 40 = .ok (.getfield 31, 3) := by decide +kernel
theorem dX3_take_43 : decode cX3_take 43 = .ok (.bipush (-9), 2) := by decide +kernel
theorem dX3_take_45 : decode cX3_take 45 = .ok (.if_icmp .eq 5, 3) := by decide +kernel
theorem dX3_take_48 : decode cX3_take 48 = .ok (.iconst 0, 1) := by decide +kernel
theorem dX3_take_49 : decode cX3_take 49 = .ok (.ireturn, 1) := by decide +kernel
theorem dX3_take_50 : decode cX3_take 50 = .ok (.aload_n 0, 1) := by decide +kernel
theorem dX3_take_51 : decode cX3_take 51 = .ok (.dup, 1) := by decide +kernel
theorem dX3_take_52 : decode cX3_take 52 = .ok (.getfield 27, 3) := by decide +kernel
theorem dX3_take_55 : decode cX3_take 55 = .ok (.iconst 1, 1) := by decide +kernel
theorem dX3_take_56 : decode cX3_take 56 = .ok (.iadd, 1) := by decide +kernel
theorem dX3_take_57 : decode cX3_take 57 = .ok (.putfield 27, 3) := by decide +kernel
theorem dX3_take_60 : decode cX3_take 60 = .ok (.iload_n 3, 1) := by decide +kernel
theorem dX3_take_61 : decode cX3_take 61 = .ok (.iload_n 1, 1) := by decide +kernel
theorem dX3_take_62 : decode cX3_take 62 = .ok (.isub, 1) := by decide +kernel
theorem dX3_take_63 : decode cX3_take 63 = .ok (.ireturn, 1) := by decide +kernel
theorem dX3_readItem_0 : decode cX3_readItem 0 = .ok (.aload_n 0, 1) := by decide +kernel
theorem dX3_readItem_1 : decode cX3_readItem 1 = .ok (.getfield 23, 3) := by decide +kernel
theorem dX3_readItem_4 : decode cX3_readItem 4 = .ok (.aload_n 0, 1) := by decide +kernel
theorem dX3_readItem_5 : decode cX3_readItem 5 = .ok (.getfield 27, 3) := by decide +kernel
theorem dX3_readItem_8 : decode cX3_readItem 8 = .ok (.invokevirtual 54, 3) := by decide +kernel
theorem dX3_readItem_11 : decode cX3_readItem 11 = .ok (.istore_n 1, 1) := by decide +kernel
theorem dX3_readItem_12 : decode cX3_readItem 12 = .ok (.iload_n 1, 1) := by decide +kernel
theorem dX3_readItem_13 : decode cX3_readItem 13 = .ok (.invokestatic 58, 3) := by decide +kernel
theorem dX3_readItem_16 : decode cX3_readItem 16 = .ok (.istore_n 2, 1) := by decide +kernel
theorem dX3_readItem_17 : decode cX3_readItem 17 = .ok (.iload_n 1, 1) := by decide +kernel
theorem dX3_readItem_18 : decode cX3_readItem 18 = .ok (.bipush 111, 2) := by decide +kernel
theorem dX3_readItem_20 : decode cX3_readItem 20 = .ok (.if_icmp .ne 32, 3) := by decide +kernel
theorem dX3_readItem_23 : decode cX3_readItem 23 = .ok (.aload_n 0, 1) := by decide +kernel
theorem dX3_readItem_24 : decode cX3_readItem 24 = .ok (.getfield 12, 3) := by decide +kernel
theorem dX3_readItem_27 : decode cX3_readItem 27 = .ok (.getfield 61, 3) := by decide +kernel
theorem dX3_readItem_30 : decode cX3_readItem 30 = .ok (.ifCond .ne 22, 3) := by decide +kernel
theorem dX3_readItem_33 : decode cX3_readItem 33 = .ok (.aload_n 0, 1) := by decide +kernel
theorem dX3_readItem_34 : decode cX3_readItem 34 = .ok (.getfield 12, 3) := by decide +kernel
theorem dX3_readItem_37 : decode cX3_readItem 37 = .ok (.getfield 64, 3) := by decide +kernel
theorem dX3_readItem_40 : decode cX3_readItem 40 = .ok (.bipush 6, 2) := by decide +kernel
theorem dX3_readItem_42 : decode cX3_readItem 42 = .ok (.if_icmp .ge 10, 3) := by decide +kernel
theorem dX3_readItem_45 : decode cX3_readItem 45 = .ok (.aload_n 0, 1) := by decide +kernel
theorem dX3_readItem_46 : decode cX3_readItem 46 = .ok (.invokevirtual 67, 3) := by decide +kernel
theorem dX3_readItem_49 : decode cX3_readItem 49 = .ok (.goto 37, 3) := by decide +kernel
theorem dX3_readItem_52 : decode cX3_readItem 52 = .ok (.iload_n 2, 1) := by decide +kernel
theorem dX3_readItem_53 : decode cX3_readItem 53 = .ok (.bipush (-9), 2) := by decide +kernel
theorem dX3_readItem_55 : decode cX3_readItem 55 = .ok (.if_icmp .eq 23, 3) := by decide +kernel
theorem dX3_readItem_58 : decode cX3_readItem 58 = .ok (.aload_n 0, 1) := by decide +kernel
theorem dX3_readItem_59 : decode cX3_readItem 59 = .ok (.getfield 12, 3) := by decide +kernel
theorem dX3_readItem_62 : decode cX3_readItem 62 = .ok (.getfield 61, 3) := by decide +kernel
theorem dX3_readItem_65 : decode cX3_readItem 65 = .ok (.bipush 6, 2) := by decide +kernel
theorem dX3_readItem_67 : decode cX3_readItem 67 = .ok (.if_icmp .ge 11, 3) := by decide +kernel
theorem dX3_readItem_70 : decode cX3_readItem 70 = .ok (.aload_n 0, 1) := by decide +kernel
theorem dX3_readItem_71 : decode cX3_readItem 71 = .ok (.iload_n 2, 1) := by decide +kernel
theorem dX3_readItem_72 : decode cX3_readItem 72 = .ok (.invokevirtual 70, 3) := by decide +kernel
theorem dX3_readItem_75 : decode cX3_readItem 75 = .ok (.goto 11, 3) := by decide +kernel
theorem dX3_readItem_78 : decode cX3_readItem 78 = .ok (.aload_n 0, 1) := by decide +kernel
theorem dX3_readItem_79 : decode cX3_readItem 79 = .ok (.aload_n 0, 1) := by decide +kernel
theorem dX3_readItem_80 : decode cX3_readItem 80 = .ok (.getfield 27, 3) := by decide +kernel
theorem dX3_readItem_83 : decode cX3_readItem 83 = .ok (.putfield 31, 3) := by decide +kernel
theorem dX3_readItem_86 : decode cX3_readItem 86 = .ok (.return_, 1) := by decide +kernel
theorem dX3_kindOf_0 : decode cX3_kindOf 0 = .ok (.iconst 0, 1) := by decide +kernel
theorem dX3_kindOf_1 : decode cX3_kindOf 1 = .ok (.istore_n 1, 1) := by decide +kernel
theorem dX3_kindOf_2 : decode cX3_kindOf 2 = .ok (.iload_n 1, 1) := by decide +kernel
theorem dX3_kindOf_3 : decode cX3_kindOf 3 = .ok (.getstatic 73, 3) := by decide +kernel
theorem dX3_kindOf_6 : decode cX3_kindOf 6 = .ok (.arraylength, 1) := by decide +kernel
theorem dX3_kindOf_7 : decode cX3_kindOf 7 = .ok (.if_icmp .ge 20, 3) := by decide +kernel
theorem dX3_kindOf_10 : decode cX3_kindOf 10 = .ok (.getstatic 73, 3) := by decide +kernel
theorem dX3_kindOf_13 : decode cX3_kindOf 13 = .ok (.iload_n 1, 1) := by decide +kernel
theorem dX3_kindOf_14 : decode cX3_kindOf 14 = .ok (.iaload, 1) := by decide +kernel
theorem dX3_kindOf_15 : decode cX3_kindOf 15 = .ok (.iload_n 0, 1) := by decide +kernel
theorem dX3_kindOf_16 : decode cX3_kindOf 16 = .ok (.if_icmp .ne 5, 3) := by decide +kernel
theorem dX3_kindOf_19 : decode cX3_kindOf 19 = .ok (.iload_n 1, 1) := by decide +kernel
theorem dX3_kindOf_20 : decode cX3_kindOf 20 = .ok (.ireturn, 1) := by decide +kernel
theorem dX3_kindOf_21 : decode cX3_kindOf 21 = .ok (.iinc 1 1, 3) := by decide +kernel
theorem dX3_kindOf_24 : decode cX3_kindOf 24 = .ok (.goto (-22), 3) := by decide +kernel
theorem dX3_kindOf_27 : decode cX3_kindOf 27 = .ok (.bipush (-9), 2) := by decide +kernel
theorem dX3_kindOf_29 : decode cX3_kindOf 29 = .ok (.ireturn, 1) := by decide +kernel
theorem dX3_readStall_0 : decode cX3_readStall 0 = .ok (.aload_n 0, 1) := by decide +kernel
theorem dX3_readStall_1 : decode cX3_readStall 1 = .ok (.dup, 1) := by decide +kernel
theorem dX3_readStall_2 : decode cX3_readStall 2 = .ok (.getfield 27, 3) := by decide +kernel
theorem dX3_readStall_5 : decode cX3_readStall 5 = .ok (.iconst 1, 1) := by decide +kernel
theorem dX3_readStall_6 : decode cX3_readStall 6 = .ok (.iadd, 1) := by decide +kernel
theorem dX3_readStall_7 : decode cX3_readStall 7 = .ok (.putfield 27, 3) := by decide +kernel
theorem dX3_readStall_10 : decode cX3_readStall 10 = .ok (.aload_n 0, 1) := by decide +kernel
theorem dX3_readStall_11 : decode cX3_readStall 11 = .ok (.bipush 65, 2) := by decide +kernel
theorem dX3_readStall_13 : decode cX3_readStall 13 = .ok (.bipush 84, 2) := by decide +kernel
theorem dX3_readStall_15 : decode cX3_readStall 15 = .ok (.invokevirtual 40, 3) := by decide +kernel
theorem dX3_readStall_18 : decode cX3_readStall 18 = .ok (.istore_n 1, 1) := by decide +kernel
theorem dX3_readStall_19 : decode cX3_readStall 19 = .ok (.aload_n 0, 1) := by decide +kernel
theorem dX3_readStall_20 : decode cX3_readStall 20 = .ok (.bipush 48, 2) := by decide +kernel
theorem dX3_readStall_22 : decode cX3_readStall 22 = .ok (.bipush 51, 2) := by decide +kernel
theorem dX3_readStall_24 : decode cX3_readStall 24 = .ok (.invokevirtual 40, 3) := by decide +kernel
theorem dX3_readStall_27 : decode cX3_readStall 27 = .ok (.istore_n 2, 1) := by decide +kernel
theorem dX3_readStall_28 : decode cX3_readStall 28 = .ok (.aload_n 0, 1) := by decide +kernel
theorem dX3_readStall_29 : decode cX3_readStall 29 = .ok (.bipush 48, 2) := by decide +kernel
theorem dX3_readStall_31 : decode cX3_readStall 31 = .ok (.bipush 57, 2) := by decide +kernel
theorem dX3_readStall_33 : decode cX3_readStall 33 = .ok (.invokevirtual 40, 3) := by decide +kernel
theorem dX3_readStall_36 : decode cX3_readStall 36 = .ok (.istore_n 3, 1) := by decide +kernel
theorem dX3_readStall_37 : decode cX3_readStall 37 = .ok (.aload_n 0, 1) := by decide +kernel
theorem dX3_readStall_38 : decode cX3_readStall 38 = .ok (.getfield 31, 3) := by decide +kernel
theorem dX3_readStall_41 : decode cX3_readStall 41 = .ok (.bipush (-9), 2) := by decide +kernel
theorem dX3_readStall_43 : decode cX3_readStall 43 = .ok (.if_icmp .ne 13, 3) := by decide +kernel
theorem dX3_readStall_46 : decode cX3_readStall 46 = .ok (.aload_n 0, 1) := by decide +kernel
theorem dX3_readStall_47 : decode cX3_readStall 47 = .ok (.getfield 12, 3) := by decide +kernel
theorem dX3_readStall_50 : decode cX3_readStall 50 = .ok (.iload_n 1, 1) := by decide +kernel
theorem dX3_readStall_51 : decode cX3_readStall 51 = .ok (.iload_n 2, 1) := by decide +kernel
theorem dX3_readStall_52 : decode cX3_readStall 52 = .ok (.iload_n 3, 1) := by decide +kernel
theorem dX3_readStall_53 : decode cX3_readStall 53 = .ok (.invokevirtual 77, 3) := by decide +kernel
theorem dX3_readStall_56 : decode cX3_readStall 56 = .ok (.return_, 1) := by decide +kernel
theorem dX3_readBuyer_0 : decode cX3_readBuyer 0 = .ok (.aload_n 0, 1) := by decide +kernel
theorem dX3_readBuyer_1 : decode cX3_readBuyer 1 = .ok (.dup, 1) := by decide +kernel
theorem dX3_readBuyer_2 : decode cX3_readBuyer 2 = .ok (.getfield 27, 3) := by decide +kernel
theorem dX3_readBuyer_5 : decode cX3_readBuyer 5 = .ok (.iconst 1, 1) := by decide +kernel
theorem dX3_readBuyer_6 : decode cX3_readBuyer 6 = .ok (.iadd, 1) := by decide +kernel
theorem dX3_readBuyer_7 : decode cX3_readBuyer 7 = .ok (.putfield 27, 3) := by decide +kernel
theorem dX3_readBuyer_10 : decode cX3_readBuyer 10 = .ok (.aload_n 0, 1) := by decide +kernel
theorem dX3_readBuyer_11 : decode cX3_readBuyer 11 = .ok (.bipush 65, 2) := by decide +kernel
theorem dX3_readBuyer_13 : decode cX3_readBuyer 13 = .ok (.bipush 84, 2) := by decide +kernel
theorem dX3_readBuyer_15 : decode cX3_readBuyer 15 = .ok (.invokevirtual 40, 3) := by decide +kernel
theorem dX3_readBuyer_18 : decode cX3_readBuyer 18 = .ok (.istore_n 2, 1) := by decide +kernel
theorem dX3_readBuyer_19 : decode cX3_readBuyer 19 = .ok (.aload_n 0, 1) := by decide +kernel
theorem dX3_readBuyer_20 : decode cX3_readBuyer 20 = .ok (.getfield 31, 3) := by decide +kernel
theorem dX3_readBuyer_23 : decode cX3_readBuyer 23 = .ok (.bipush (-9), 2) := by decide +kernel
theorem dX3_readBuyer_25 : decode cX3_readBuyer 25 = .ok (.if_icmp .ne 25, 3) := by decide +kernel
theorem dX3_readBuyer_28 : decode cX3_readBuyer 28 = .ok (.aload_n 0, 1) := by decide +kernel
theorem dX3_readBuyer_29 : decode cX3_readBuyer 29 = .ok (.getfield 12, 3) := by decide +kernel
theorem dX3_readBuyer_32 : decode cX3_readBuyer 32 = .ok (.iload_n 1, 1) := by decide +kernel
theorem dX3_readBuyer_33 : decode cX3_readBuyer 33 = .ok (.iload_n 2, 1) := by decide +kernel
theorem dX3_readBuyer_34 : decode cX3_readBuyer 34 = .ok (.invokevirtual 81, 3) := by decide +kernel
theorem dX3_readBuyer_37 : decode cX3_readBuyer 37 = .ok (.ifCond .ne 13, 3) := by decide +kernel
theorem dX3_readBuyer_40 : decode cX3_readBuyer 40 = .ok (.aload_n 0, 1) := by decide +kernel
theorem dX3_readBuyer_41 : decode cX3_readBuyer 41 = .ok (.aload_n 0, 1) := by decide +kernel
theorem dX3_readBuyer_42 : decode cX3_readBuyer 42 = .ok (.getfield 27, 3) := by decide +kernel
theorem dX3_readBuyer_45 : decode cX3_readBuyer 45 = .ok (.iconst 1, 1) := by decide +kernel
theorem dX3_readBuyer_46 : decode cX3_readBuyer 46 = .ok (.isub, 1) := by decide +kernel
theorem dX3_readBuyer_47 : decode cX3_readBuyer 47 = .ok (.putfield 31, 3) := by decide +kernel
theorem dX3_readBuyer_50 : decode cX3_readBuyer 50 = .ok (.aload_n 0, 1) := by decide +kernel
theorem dX3_readBuyer_51 : decode cX3_readBuyer 51 = .ok (.invokevirtual 85, 3) := by decide +kernel
theorem dX3_readBuyer_54 : decode cX3_readBuyer 54 = .ok (.istore_n 3, 1) := by decide +kernel
theorem dX3_readBuyer_55 : decode cX3_readBuyer 55 = .ok (.aload_n 0, 1) := by decide +kernel
theorem dX3_readBuyer_56 : decode cX3_readBuyer 56 = .ok (.getfield 31, 3) := by decide +kernel
theorem dX3_readBuyer_59 : decode cX3_readBuyer 59 = .ok (.bipush (-9), 2) := by decide +kernel
theorem dX3_readBuyer_61 : decode cX3_readBuyer 61 = .ok (.if_icmp .ne 13, 3) := by decide +kernel
theorem dX3_readBuyer_64 : decode cX3_readBuyer 64 = .ok (.aload_n 0, 1) := by decide +kernel
theorem dX3_readBuyer_65 : decode cX3_readBuyer 65 = .ok (.getfield 12, 3) := by decide +kernel
theorem dX3_readBuyer_68 : decode cX3_readBuyer 68 = .ok (.iload_n 1, 1) := by decide +kernel
theorem dX3_readBuyer_69 : decode cX3_readBuyer 69 = .ok (.iload_n 2, 1) := by decide +kernel
theorem dX3_readBuyer_70 : decode cX3_readBuyer 70 = .ok (.iload_n 3, 1) := by decide +kernel
theorem dX3_readBuyer_71 : decode cX3_readBuyer 71 = .ok (.invokevirtual 89, 3) := by decide +kernel
theorem dX3_readBuyer_74 : decode cX3_readBuyer 74 = .ok (.return_, 1) := by decide +kernel
theorem dX3_takeWant_0 : decode cX3_takeWant 0 = .ok (.aload_n 0, 1) := by decide +kernel
theorem dX3_takeWant_1 : decode cX3_takeWant 1 = .ok (.getfield 23, 3) := by decide +kernel
theorem dX3_takeWant_4 : decode cX3_takeWant 4 = .ok (.aload_n 0, 1) := by decide +kernel
theorem dX3_takeWant_5 : decode cX3_takeWant 5 = .ok (.getfield 27, 3) := by decide +kernel
theorem dX3_takeWant_8 : decode cX3_takeWant 8 = .ok (.invokevirtual 54, 3) := by decide +kernel
theorem dX3_takeWant_11 : decode cX3_takeWant 11 = .ok (.bipush 45, 2) := by decide +kernel
theorem dX3_takeWant_13 : decode cX3_takeWant 13 = .ok (.if_icmp .ne 14, 3) := by decide +kernel
theorem dX3_takeWant_16 : decode cX3_takeWant 16 = .ok (.aload_n 0, 1) := by decide +kernel
theorem dX3_takeWant_17 : decode cX3_takeWant 17 = .ok (.bipush 45, 2) := by decide +kernel
theorem dX3_takeWant_19 : decode cX3_takeWant 19 = .ok (.bipush 45, 2) := by decide +kernel
theorem dX3_takeWant_21 : decode cX3_takeWant 21 = .ok (.invokevirtual 40, 3) := by decide +kernel
theorem dX3_takeWant_24 : decode cX3_takeWant 24 = .ok (.pop, 1) := by decide +kernel
theorem dX3_takeWant_25 : decode cX3_takeWant 25 = .ok (.iconst 4, 1) := by decide +kernel
theorem dX3_takeWant_26 : decode cX3_takeWant 26 = .ok (.ireturn, 1) := by decide +kernel
theorem dX3_takeWant_27 : decode cX3_takeWant 27 = .ok (.aload_n 0, 1) := by decide +kernel
theorem dX3_takeWant_28 : decode cX3_takeWant 28 = .ok (.bipush 48, 2) := by decide +kernel
theorem dX3_takeWant_30 : decode cX3_takeWant 30 = .ok (.bipush 51, 2) := by decide +kernel
theorem dX3_takeWant_32 : decode cX3_takeWant 32 = .ok (.invokevirtual 40, 3) := by decide +kernel
theorem dX3_takeWant_35 : decode cX3_takeWant 35 = .ok (.ireturn, 1) := by decide +kernel
theorem dX4_init_0 : decode cX4_init 0 = .ok (.aload_n 0, 1) := by decide +kernel
theorem dX4_init_1 : decode cX4_init 1 = .ok (.invokespecial 3, 3) := by decide +kernel
theorem dX4_init_4 : decode cX4_init 4 = .ok (.aload_n 0, 1) := by decide +kernel
theorem dX4_init_5 : decode cX4_init 5 = .ok (.iconst (-1), 1) := by decide +kernel
theorem dX4_init_6 : decode cX4_init 6 = .ok (.putfield 11, 3) := by decide +kernel
theorem dX4_init_9 : decode cX4_init 9 = .ok (.aload_n 0, 1) := by decide +kernel
theorem dX4_init_10 : decode cX4_init 10 = .ok (.iload_n 1, 1) := by decide +kernel
theorem dX4_init_11 : decode cX4_init 11 = .ok (.newarray .int, 2) := by decide +kernel
theorem dX4_init_13 : decode cX4_init 13 = .ok (.putfield 15, 3) := by decide +kernel
theorem dX4_init_16 : decode cX4_init 16 = .ok (.return_, 1) := by decide +kernel
theorem dX4_size_0 : decode cX4_size 0 = .ok (.aload_n 0, 1) := by decide +kernel
theorem dX4_size_1 : decode cX4_size 1 = .ok (.getfield 11, 3) := by decide +kernel
theorem dX4_size_4 : decode cX4_size 4 = .ok (.ireturn, 1) := by decide +kernel
theorem dX4_isThere_0 : decode cX4_isThere 0 = .ok (.aload_n 0, 1) := by decide +kernel
theorem dX4_isThere_1 : decode cX4_isThere 1 = .ok (.getfield 11, 3) := by decide +kernel
theorem dX4_isThere_4 : decode cX4_isThere 4 = .ok (.iconst (-1), 1) := by decide +kernel
theorem dX4_isThere_5 : decode cX4_isThere 5 = .ok (.if_icmp .eq 7, 3) := by decide +kernel
theorem dX4_isThere_8 : decode cX4_isThere 8 = .ok (.iconst 1, 1) := by decide +kernel
theorem dX4_isThere_9 : decode cX4_isThere 9 = .ok (.goto 4, 3) := by decide +kernel
theorem dX4_isThere_12 : decode cX4_isThere 12 = .ok (.iconst 0, 1) := by decide +kernel
theorem dX4_isThere_13 : decode cX4_isThere 13 = .ok (.ireturn, 1) := by decide +kernel
theorem dX4_has_0 : decode cX4_has 0 = .ok (.iload_n 1, 1) := by decide +kernel
theorem dX4_has_1 : decode cX4_has 1 = .ok (.ifCond .lt 15, 3) := by decide +kernel
theorem dX4_has_4 : decode cX4_has 4 = .ok (.iload_n 1, 1) := by decide +kernel
theorem dX4_has_5 : decode cX4_has 5 = .ok (.aload_n 0, 1) := by decide +kernel
theorem dX4_has_6 : decode cX4_has 6 = .ok (.getfield 11, 3) := by decide +kernel
theorem dX4_has_9 : decode cX4_has 9 = .ok (.if_icmp .ge 7, 3) := by decide +kernel
theorem dX4_has_12 : decode cX4_has 12 = .ok (.iconst 1, 1) := by decide +kernel
theorem dX4_has_13 : decode cX4_has 13 = .ok (.goto 4, 3) := by decide +kernel
theorem dX4_has_16 : decode cX4_has 16 = .ok (.iconst 0, 1) := by decide +kernel
theorem dX4_has_17 : decode cX4_has 17 = .ok (.ireturn, 1) := by decide +kernel
theorem dX4_hasPart_0 : decode cX4_hasPart 0 = .ok (.iload_n 1, 1) := by decide +kernel
theorem dX4_hasPart_1 : decode cX4_hasPart 1 = .ok (.aload_n 0, 1) := by decide +kernel
theorem dX4_hasPart_2 : decode cX4_hasPart 2 = .ok (.getfield 11, 3) := by decide +kernel
theorem dX4_hasPart_5 : decode cX4_hasPart 5 = .ok (.invokestatic 19, 3) := by decide +kernel
theorem dX4_hasPart_8 : decode cX4_hasPart 8 = .ok (.ifCond .eq 20, 3) := by decide +kernel
theorem dX4_hasPart_11 : decode cX4_hasPart 11 = .ok (.iload_n 2, 1) := by decide +kernel
theorem dX4_hasPart_12 : decode cX4_hasPart 12 = .ok (.aload_n 0, 1) := by decide +kernel
theorem dX4_hasPart_13 : decode cX4_hasPart 13 = .ok (.getfield 11, 3) := by decide +kernel
theorem dX4_hasPart_16 : decode cX4_hasPart 16 = .ok (.iload_n 1, 1) := by decide +kernel
theorem dX4_hasPart_17 : decode cX4_hasPart 17 = .ok (.isub, 1) := by decide +kernel
theorem dX4_hasPart_18 : decode cX4_hasPart 18 = .ok (.invokestatic 19, 3) := by decide +kernel
theorem dX4_hasPart_21 : decode cX4_hasPart 21 = .ok (.ifCond .eq 7, 3) := by decide +kernel
theorem dX4_hasPart_24 : decode cX4_hasPart 24 = .ok (.iconst 1, 1) := by decide +kernel
theorem dX4_hasPart_25 : decode cX4_hasPart 25 = .ok (.goto 4, 3) := by decide +kernel
theorem dX4_hasPart_28 : decode cX4_hasPart 28 = .ok (.iconst 0, 1) := by decide +kernel
theorem dX4_hasPart_29 : decode cX4_hasPart 29 = .ok (.ireturn, 1) := by decide +kernel
theorem dX4_renew_0 : decode cX4_renew 0 = .ok (.aload_n 0, 1) := by decide +kernel
theorem dX4_renew_1 : decode cX4_renew 1 = .ok (.iload_n 1, 1) := by decide +kernel
theorem dX4_renew_2 : decode cX4_renew 2 = .ok (.aload_n 0, 1) := by decide +kernel
theorem dX4_renew_3 : decode cX4_renew 3 = .ok (.getfield 15, 3) := by decide +kernel
theorem dX4_renew_6 : decode cX4_renew 6 = .ok (.arraylength, 1) := by decide +kernel
theorem dX4_renew_7 : decode cX4_renew 7 = .ok (.invokestatic 19, 3) := by decide +kernel
theorem dX4_renew_10 : decode cX4_renew 10 = .ok (.ifCond .eq 7, 3) := by decide +kernel
theorem dX4_renew_13 : decode cX4_renew 13 = .ok (.iload_n 1, 1) := by decide +kernel
theorem dX4_renew_14 : decode cX4_renew 14 = .ok (.goto 4, 3) := by decide +kernel
theorem dX4_renew_17 : decode cX4_renew 17 = .ok (.iconst 0, 1) := by decide +kernel
theorem dX4_renew_18 : decode cX4_renew 18 = .ok (.putfield 11, 3) := by decide +kernel
theorem dX4_renew_21 : decode cX4_renew 21 = .ok (.iconst 0, 1) := by decide +kernel
theorem dX4_renew_22 : decode cX4_renew 22 = .ok (.istore_n 3, 1) := by decide +kernel
theorem dX4_renew_23 : decode cX4_renew 23 = .ok (.iload_n 3, 1) := by decide +kernel
theorem dX4_renew_24 : decode cX4_renew 24 = .ok (.aload_n 0, 1) := by decide +kernel
theorem dX4_renew_25 : decode cX4_renew 25 = .ok (.getfield 11, 3) := by decide +kernel
theorem dX4_renew_28 : decode cX4_renew 28 = .ok (.if_icmp .ge 16, 3) := by decide +kernel
theorem dX4_renew_31 : decode cX4_renew 31 = .ok (.aload_n 0, 1) := by decide +kernel
theorem dX4_renew_32 : decode cX4_renew 32 = .ok (.getfield 15, 3) := by decide +kernel
theorem dX4_renew_35 : decode cX4_renew 35 = .ok (.iload_n 3, 1) := by decide +kernel
theorem dX4_renew_36 : decode cX4_renew 36 = .ok (.iload_n 2, 1) := by decide +kernel
theorem dX4_renew_37 : decode cX4_renew 37 = .ok (.iastore, 1) := by decide +kernel
theorem dX4_renew_38 : decode cX4_renew 38 = .ok (.iinc 3 1, 3) := by decide +kernel
theorem dX4_renew_41 : decode cX4_renew 41 = .ok (.goto (-18), 3) := by decide +kernel
theorem dX4_renew_44 : decode cX4_renew 44 = .ok (.return_, 1) := by decide +kernel
theorem dX4_remove_0 : decode cX4_remove 0 = .ok (.aload_n 0, 1) := by decide +kernel
theorem dX4_remove_1 : decode cX4_remove 1 = .ok (.iconst (-1), 1) := by decide +kernel
theorem dX4_remove_2 : decode cX4_remove 2 = .ok (.putfield 11, 3) := by decide +kernel
theorem dX4_remove_5 : decode cX4_remove 5 = .ok (.return_, 1) := by decide +kernel
theorem dX4_get_0 : decode cX4_get 0 = .ok (.iload_n 1, 1) := by decide +kernel
theorem dX4_get_1 : decode cX4_get 1 = .ok (.ifCond .lt 20, 3) := by decide +kernel
theorem dX4_get_4 : decode cX4_get 4 = .ok (.iload_n 1, 1) := by decide +kernel
theorem dX4_get_5 : decode cX4_get 5 = .ok (.aload_n 0, 1) := by decide +kernel
theorem dX4_get_6 : decode cX4_get 6 = .ok (.getfield 11, 3) := by decide +kernel
theorem dX4_get_9 : decode cX4_get 9 = .ok (.if_icmp .ge 12, 3) := by decide +kernel
theorem dX4_get_12 : decode cX4_get 12 = .ok (.aload_n 0, 1) := by decide +kernel
theorem dX4_get_13 : decode cX4_get 13 = .ok (.getfield 15, 3) := by decide +kernel
theorem dX4_get_16 : decode cX4_get 16 = .ok (.iload_n 1, 1) := by decide +kernel
theorem dX4_get_17 : decode cX4_get 17 = .ok (.iaload, 1) := by decide +kernel
theorem dX4_get_18 : decode cX4_get 18 = .ok (.goto 6, 3) := by decide +kernel
theorem dX4_get_21 : decode cX4_get 21 = .ok (.sipush (-1000), 3) := by decide +kernel
theorem dX4_get_24 : decode cX4_get 24 = .ok (.ireturn, 1) := by decide +kernel
theorem dX4_exchange_0 : decode cX4_exchange 0 = .ok (.aload_n 0, 1) := by decide +kernel
theorem dX4_exchange_1 : decode cX4_exchange 1 = .ok (.iload_n 1, 1) := by decide +kernel
theorem dX4_exchange_2 : decode cX4_exchange 2 = .ok (.invokevirtual 23, 3) := by decide +kernel
theorem dX4_exchange_5 : decode cX4_exchange 5 = .ok (.istore_n 3, 1) := by decide +kernel
theorem dX4_exchange_6 : decode cX4_exchange 6 = .ok (.aload_n 0, 1) := by decide +kernel
theorem dX4_exchange_7 : decode cX4_exchange 7 = .ok (.iload_n 1, 1) := by decide +kernel
theorem dX4_exchange_8 : decode cX4_exchange 8 = .ok (.invokevirtual 27, 3) := by decide +kernel
theorem dX4_exchange_11 : decode cX4_exchange 11 = .ok (.ifCond .eq 10, 3) := by decide +kernel
theorem dX4_exchange_14 : decode cX4_exchange 14 = .ok (.aload_n 0, 1) := by decide +kernel
theorem dX4_exchange_15 : decode cX4_exchange 15 = .ok (.getfield 15, 3) := by decide +kernel
theorem dX4_exchange_18 : decode cX4_exchange 18 = .ok (.iload_n 1, 1) := by decide +kernel
theorem dX4_exchange_19 : decode cX4_exchange 19 = .ok (.iload_n 2, 1) := by decide +kernel
theorem dX4_exchange_20 : decode cX4_exchange 20 = .ok (.iastore, 1) := by decide +kernel
theorem dX4_exchange_21 : decode cX4_exchange 21 = .ok (.iload_n 3, 1) := by decide +kernel
theorem dX4_exchange_22 : decode cX4_exchange 22 = .ok (.ireturn, 1) := by decide +kernel
theorem dX4_takePart_0 : decode cX4_takePart 0 = .ok (.aload_n 1, 1) := by decide +kernel
theorem dX4_takePart_1 : decode cX4_takePart 1 = .ok (.iload_n 2, 1) := by decide +kernel
theorem dX4_takePart_2 : decode cX4_takePart 2 = .ok (.iload 4, 2) := by decide +kernel
theorem dX4_takePart_4 : decode cX4_takePart 4 = .ok (.invokevirtual 31, 3) := by decide +kernel
theorem dX4_takePart_7 : decode cX4_takePart 7 = .ok (.ifCond .eq 28, 3) := by decide +kernel
theorem dX4_takePart_10 : decode cX4_takePart 10 = .ok (.aload_n 0, 1) := by decide +kernel
theorem dX4_takePart_11 : decode cX4_takePart 11 = .ok (.iload_n 3, 1) := by decide +kernel
theorem dX4_takePart_12 : decode cX4_takePart 12 = .ok (.iload 4, 2) := by decide +kernel
theorem dX4_takePart_14 : decode cX4_takePart 14 = .ok (.invokevirtual 31, 3) := by decide +kernel
theorem dX4_takePart_17 : decode cX4_takePart 17 = .ok (.ifCond .eq 18, 3) := by decide +kernel
theorem dX4_takePart_20 : decode cX4_takePart 20 = .ok (.aload_n 1, 1) := by decide +kernel
theorem dX4_takePart_21 : decode cX4_takePart 21 = .ok (.getfield 15, 3) := by decide +kernel
theorem dX4_takePart_24 : decode cX4_takePart 24 = .ok (.iload_n 2, 1) := by decide +kernel
theorem dX4_takePart_25 : decode cX4_takePart 25 = .ok (.aload_n 0, 1) := by decide +kernel
theorem dX4_takePart_26 : decode cX4_takePart 26 = .ok (.getfield 15, 3) := by decide +kernel
theorem dX4_takePart_29 : decode cX4_takePart 29 = .ok (.iload_n 3, 1) := by decide +kernel
theorem dX4_takePart_30 : decode cX4_takePart 30 = .ok (.iload 4, 2) := by decide +kernel
theorem dX4_takePart_32 : decode cX4_takePart 32 = .ok (.invokestatic 34, 3) := by decide +kernel
theorem dX4_takePart_35 : decode cX4_takePart 35 = .ok (.return_, 1) := by decide +kernel
theorem dX4_sum_0 : decode cX4_sum 0 = .ok (.lconst 0, 1) := by decide +kernel
theorem dX4_sum_1 : decode cX4_sum 1 = .ok (.lstore_n 1, 1) := by decide +kernel
theorem dX4_sum_2 : decode cX4_sum 2 = .ok (.iconst 0, 1) := by decide +kernel
theorem dX4_sum_3 : decode cX4_sum 3 = .ok (.istore_n 3, 1) := by decide +kernel
theorem dX4_sum_4 : decode cX4_sum 4 = .ok (.iload_n 3, 1) := by decide +kernel
theorem dX4_sum_5 : decode cX4_sum 5 = .ok (.aload_n 0, 1) := by decide +kernel
theorem dX4_sum_6 : decode cX4_sum 6 = .ok (.getfield 11, 3) := by decide +kernel
theorem dX4_sum_9 : decode cX4_sum 9 = .ok (.if_icmp .ge 19, 3) := by decide +kernel
theorem dX4_sum_12 : decode cX4_sum 12 = .ok (.lload_n 1, 1) := by decide +kernel
theorem dX4_sum_13 : decode cX4_sum 13 = .ok (.aload_n 0, 1) := by decide +kernel
theorem dX4_sum_14 : decode cX4_sum 14 = .ok (.getfield 15, 3) := by decide +kernel
theorem dX4_sum_17 : decode cX4_sum 17 = .ok (.iload_n 3, 1) := by decide +kernel
theorem dX4_sum_18 : decode cX4_sum 18 = .ok (.iaload, 1) := by decide +kernel
theorem dX4_sum_19 : decode cX4_sum 19 = .ok (.i2l, 1) := by decide +kernel
theorem dX4_sum_20 : decode cX4_sum 20 = .ok (.ladd, 1) := by decide +kernel
theorem dX4_sum_21 : decode cX4_sum 21 = .ok (.lstore_n 1, 1) := by decide +kernel
theorem dX4_sum_22 : decode cX4_sum 22 = .ok (.iinc 3 1, 3) := by decide +kernel
theorem dX4_sum_25 : decode cX4_sum 25 = .ok (.goto (-21), 3) := by decide +kernel
theorem dX4_sum_28 : decode cX4_sum 28 = .ok (.lload_n 1, 1) := by decide +kernel
theorem dX4_sum_29 : decode cX4_sum 29 = .ok (.lreturn, 1) := by decide +kernel
theorem dX4_digestOn_0 : decode cX4_digestOn 0 = .ok (.ldc2_w 40, 3) := by decide +kernel
theorem dX4_digestOn_3 : decode cX4_digestOn 3 = .ok (.lload_n 1, 1) := by decide +kernel
theorem dX4_digestOn_4 : decode cX4_digestOn 4 = .ok (.lmul, 1) := by decide +kernel
theorem dX4_digestOn_5 : decode cX4_digestOn 5 = .ok (.aload_n 0, 1) := by decide +kernel
theorem dX4_digestOn_6 : decode cX4_digestOn 6 = .ok (.getfield 11, 3) := by decide +kernel
theorem dX4_digestOn_9 : decode cX4_digestOn 9 = .ok (.i2l, 1) := by decide +kernel
theorem dX4_digestOn_10 : decode cX4_digestOn 10 = .ok (.ladd, 1) := by decide +kernel
theorem dX4_digestOn_11 : decode cX4_digestOn 11 = .ok (.lstore_n 1, 1) := by decide +kernel
theorem dX4_digestOn_12 : decode cX4_digestOn 12 = .ok (.iconst 0, 1) := by decide +kernel
theorem dX4_digestOn_13 : decode cX4_digestOn 13 = .ok (.istore_n 3, 1) := by decide +kernel
theorem dX4_digestOn_14 : decode cX4_digestOn 14 = .ok (.iload_n 3, 1) := by decide +kernel
theorem dX4_digestOn_15 : decode cX4_digestOn 15 = .ok (.aload_n 0, 1) := by decide +kernel
theorem dX4_digestOn_16 : decode cX4_digestOn 16 = .ok (.getfield 11, 3) := by decide +kernel
theorem dX4_digestOn_19 : decode cX4_digestOn 19 = .ok (.if_icmp .ge 23, 3) := by decide +kernel
theorem dX4_digestOn_22 : decode cX4_digestOn 22 = .ok (.ldc2_w 40, 3) := by decide +kernel
theorem dX4_digestOn_25 : decode cX4_digestOn 25 = .ok (.lload_n 1, 1) := by decide +kernel
theorem dX4_digestOn_26 : decode cX4_digestOn 26 = .ok (.lmul, 1) := by decide +kernel
theorem dX4_digestOn_27 : decode cX4_digestOn 27 = .ok (.aload_n 0, 1) := by decide +kernel
theorem dX4_digestOn_28 : decode cX4_digestOn 28 = .ok (.getfield 15, 3) := by decide +kernel
theorem dX4_digestOn_31 : decode cX4_digestOn 31 = .ok (.iload_n 3, 1) := by decide +kernel
theorem dX4_digestOn_32 : decode cX4_digestOn 32 = .ok (.iaload, 1) := by decide +kernel
theorem dX4_digestOn_33 : decode cX4_digestOn 33 = .ok (.i2l, 1) := by decide +kernel
theorem dX4_digestOn_34 : decode cX4_digestOn 34 = .ok (.ladd, 1) := by decide +kernel
theorem dX4_digestOn_35 : decode cX4_digestOn 35 = .ok (.lstore_n 1, 1) := by decide +kernel
theorem dX4_digestOn_36 : decode cX4_digestOn 36 = .ok (.iinc 3 1, 3) := by decide +kernel
theorem dX4_digestOn_39 : decode cX4_digestOn 39 = .ok (.goto (-25), 3) := by decide +kernel
theorem dX4_digestOn_42 : decode cX4_digestOn 42 = .ok (.lload_n 1, 1) := by decide +kernel
theorem dX4_digestOn_43 : decode cX4_digestOn 43 = .ok (.lreturn, 1) := by decide +kernel
theorem dX5_init_0 : decode cX5_init 0 = .ok (.aload_n 0, 1) := by decide +kernel
theorem dX5_init_1 : decode cX5_init 1 = .ok (.invokespecial 3, 3) := by decide +kernel
theorem dX5_init_4 : decode cX5_init 4 = .ok (.aload_n 0, 1) := by decide +kernel
theorem dX5_init_5 : decode cX5_init 5 = .ok (.new 9, 3) := by decide +kernel
theorem dX5_init_8 : decode cX5_init 8 = .ok (.dup, 1) := by decide +kernel
theorem dX5_init_9 : decode cX5_init 9 = .ok (.invokespecial 11, 3) := by decide +kernel
theorem dX5_init_12 : decode cX5_init 12 = .ok (.putfield 12, 3) := by decide +kernel
theorem dX5_init_15 : decode cX5_init 15 = .ok (.aload_n 0, 1) := by decide +kernel
theorem dX5_init_16 : decode cX5_init 16 = .ok (.bipush 6, 2) := by decide +kernel
theorem dX5_init_18 : decode cX5_init 18 = .ok (.newarray .int, 2) := by decide +kernel
theorem dX5_init_20 : decode cX5_init 20 = .ok (.putfield 18, 3) := by decide +kernel
theorem dX5_init_23 : decode cX5_init 23 = .ok (.return_, 1) := by decide +kernel
theorem dX5_seek_0 : decode cX5_seek 0 = .ok (.aload_n 0, 1) := by decide +kernel
theorem dX5_seek_1 : decode cX5_seek 1 = .ok (.iconst 0, 1) := by decide +kernel
theorem dX5_seek_2 : decode cX5_seek 2 = .ok (.putfield 22, 3) := by decide +kernel
theorem dX5_seek_5 : decode cX5_seek 5 = .ok (.aload_n 0, 1) := by decide +kernel
theorem dX5_seek_6 : decode cX5_seek 6 = .ok (.bipush (-9), 2) := by decide +kernel
theorem dX5_seek_8 : decode cX5_seek 8 = .ok (.putfield 26, 3) := by decide +kernel
theorem dX5_seek_11 : decode cX5_seek 11 = .ok (.iconst 0, 1) := by decide +kernel
theorem dX5_seek_12 : decode cX5_seek 12 = .ok (.istore 5, 2) := by decide +kernel
theorem dX5_seek_14 : decode cX5_seek 14 = .ok (.iload 5, 2) := by decide +kernel
theorem dX5_seek_16 : decode cX5_seek 16 = .ok (.bipush 6, 2) := by decide +kernel
theorem dX5_seek_18 : decode cX5_seek 18 = .ok (.if_icmp .ge 17, 3) := by decide +kernel
theorem dX5_seek_21 : decode cX5_seek 21 = .ok (.aload_n 0, 1) := by decide +kernel
theorem dX5_seek_22 : decode cX5_seek 22 = .ok (.getfield 18, 3) := by decide +kernel
theorem dX5_seek_25 : decode cX5_seek 25 = .ok (.iload 5, 2) := by decide +kernel
theorem dX5_seek_27 : decode cX5_seek 27 = .ok (.iconst 0, 1) := by decide +kernel
theorem dX5_seek_28 : decode cX5_seek 28 = .ok (.iastore, 1) := by decide +kernel
theorem dX5_seek_29 : decode cX5_seek 29 = .ok (.iinc 5 1, 3) := by decide +kernel
theorem dX5_seek_32 : decode cX5_seek 32 = .ok (.goto (-18), 3) := by decide +kernel
theorem dX5_seek_35 : decode cX5_seek 35 = .ok (.aload_n 0, 1) := by decide +kernel
theorem dX5_seek_36 : decode cX5_seek 36 = .ok (.getfield 12, 3) := by decide +kernel
theorem dX5_seek_39 : decode cX5_seek 39 = .ok (.aload_n 1, 1) := by decide +kernel
theorem dX5_seek_40 : decode cX5_seek 40 = .ok (.invokevirtual 29, 3) := by decide +kernel
theorem dX5_seek_43 : decode cX5_seek 43 = .ok (.iload_n 2, 1) := by decide +kernel
theorem dX5_seek_44 : decode cX5_seek 44 = .ok (.invokestatic 33, 3) := by decide +kernel
theorem dX5_seek_47 : decode cX5_seek 47 = .ok (.istore 5, 2) := by decide +kernel
theorem dX5_seek_49 : decode cX5_seek 49 = .ok (.iconst 0, 1) := by decide +kernel
theorem dX5_seek_50 : decode cX5_seek 50 = .ok (.istore 6, 2) := by decide +kernel
theorem dX5_seek_52 : decode cX5_seek 52 = .ok (.iload 6, 2) := by decide +kernel
theorem dX5_seek_54 : decode cX5_seek 54 = .ok (.iload 5, 2) := by decide +kernel
theorem dX5_seek_56 : decode cX5_seek 56 = .ok (.if_icmp .ge 94, 3) := by decide +kernel
theorem dX5_seek_59 : decode cX5_seek 59 = .ok (.aload_n 0, 1) := by decide +kernel
theorem dX5_seek_60 : decode cX5_seek 60 = .ok (.getfield 12, 3) := by decide +kernel
theorem dX5_seek_63 : decode cX5_seek 63 = .ok (.aload_n 1, 1) := by decide +kernel
theorem dX5_seek_64 : decode cX5_seek 64 = .ok (.invokevirtual 37, 3) := by decide +kernel
theorem dX5_seek_67 : decode cX5_seek 67 = .ok (.aload_n 0, 1) := by decide +kernel
theorem dX5_seek_68 : decode cX5_seek 68 = .ok (.iload_n 2, 1) := by decide +kernel
theorem dX5_seek_69 : decode cX5_seek 69 = .ok (.iload 6, 2) := by decide +kernel
theorem dX5_seek_71 : decode cX5_seek 71 = .ok (.invokevirtual 40, 3) := by decide +kernel
theorem dX5_seek_74 : decode cX5_seek 74 = .ok (.iconst 0, 1) := by decide +kernel
theorem dX5_seek_75 : decode cX5_seek 75 = .ok (.istore 7, 2) := by decide +kernel
theorem dX5_seek_77 : decode cX5_seek 77 = .ok (.iload 7, 2) := by decide +kernel
theorem dX5_seek_79 : decode cX5_seek 79 = .ok (.iload_n 3, 1) := by decide +kernel
theorem dX5_seek_80 : decode cX5_seek 80 = .ok (.if_icmp .ge 18, 3) := by decide +kernel
theorem dX5_seek_83 : decode cX5_seek 83 = .ok (.aload_n 0, 1) := by decide +kernel
theorem dX5_seek_84 : decode cX5_seek 84 = .ok (.getfield 12, 3) := by decide +kernel
theorem dX5_seek_87 : decode cX5_seek 87 = .ok (.iconst 0, 1) := by decide +kernel
theorem dX5_seek_88 : decode cX5_seek 88 = .ok (.invokevirtual 44, 3) := by decide +kernel
theorem dX5_seek_91 : decode cX5_seek 91 = .ok (.pop, 1) := by decide +kernel
theorem dX5_seek_92 : decode cX5_seek 92 = .ok (.iinc 7 1, 3) := by decide +kernel
theorem dX5_seek_95 : decode cX5_seek 95 = .ok (.goto (-18), 3) := by decide +kernel
theorem dX5_seek_98 : decode cX5_seek 98 = .ok (.aload_n 0, 1) := by decide +kernel
theorem dX5_seek_99 : decode cX5_seek 99 = .ok (.aload 4, 2) := by decide +kernel
theorem dX5_seek_101 : decode cX5_seek 101 = .ok (.invokevirtual 47, 3) := by decide +kernel
theorem dX5_seek_104 : decode cX5_seek 104 = .ok (.ifCond .eq 40, 3) := by decide +kernel
theorem dX5_seek_107 : decode cX5_seek 107 = .ok (.aload_n 0, 1) := by decide +kernel
theorem dX5_seek_108 : decode cX5_seek 108 = .ok (.aload_n 0, 1) := by decide +kernel
theorem dX5_seek_109 : decode cX5_seek 109 = .ok (.getfield 22, 3) := by decide +kernel
theorem dX5_seek_112 : decode cX5_seek 112 = .ok (.ifCond .ne 8, 3) := by decide +kernel
theorem dX5_seek_115 : decode cX5_seek 115 = .ok (.iload 6, 2) := by decide +kernel
theorem dX5_seek_117 : decode cX5_seek 117 = .ok (.goto 7, 3) := by decide +kernel
theorem dX5_seek_120 : decode cX5_seek 120 = .ok (.aload_n 0, 1) := by decide +kernel
theorem dX5_seek_121 : decode cX5_seek 121 = .ok (.getfield 26, 3) := by decide +kernel
theorem dX5_seek_124 : decode cX5_seek 124 = .ok (.putfield 26, 3) := by decide +kernel
theorem dX5_seek_127 : decode cX5_seek 127 = .ok (.aload_n 0, 1) := by decide +kernel
theorem dX5_seek_128 : decode cX5_seek 128 = .ok (.dup, 1) := by decide +kernel
theorem dX5_seek_129 : decode cX5_seek 129 = .ok (.getfield 22, 3) := by decide +kernel
theorem dX5_seek_132 : decode cX5_seek 132 = .ok (.iconst 1, 1) := by decide +kernel
theorem dX5_seek_133 : decode cX5_seek 133 = .ok (.iadd, 1) := by decide +kernel
theorem dX5_seek_134 : decode cX5_seek 134 = .ok (.putfield 22, 3) := by decide +kernel
theorem dX5_seek_137 : decode cX5_seek 137 = .ok (.aload_n 0, 1) := by decide +kernel
theorem dX5_seek_138 : decode cX5_seek 138 = .ok (.iload_n 2, 1) := by decide +kernel
theorem dX5_seek_139 : decode cX5_seek 139 = .ok (.iload 6, 2) := by decide +kernel
theorem dX5_seek_141 : decode cX5_seek 141 = .ok (.invokevirtual 51, 3) := by decide +kernel
theorem dX5_seek_144 : decode cX5_seek 144 = .ok (.iinc 6 1, 3) := by decide +kernel
theorem dX5_seek_147 : decode cX5_seek 147 = .ok (.goto (-95), 3) := by decide +kernel
theorem dX5_seek_150 : decode cX5_seek 150 = .ok (.return_, 1) := by decide +kernel
theorem dX5_howManyWays_0 : decode cX5_howManyWays 0 = .ok (.iconst 1, 1) := by decide +kernel
theorem dX5_howManyWays_1 : decode cX5_howManyWays 1 = .ok (.istore_n 1, 1) := by decide +kernel
theorem dX5_howManyWays_2 : decode cX5_howManyWays 2 = .ok (.iconst 0, 1) := by decide +kernel
theorem dX5_howManyWays_3 : decode cX5_howManyWays 3 = .ok (.istore_n 2, 1) := by decide +kernel
theorem dX5_howManyWays_4 : decode cX5_howManyWays 4 = .ok (.iload_n 2, 1) := by decide +kernel
theorem dX5_howManyWays_5 : decode cX5_howManyWays 5 = .ok (.bipush 6, 2) := by decide +kernel
theorem dX5_howManyWays_7 : decode cX5_howManyWays 7 = .ok (.if_icmp .ge 25, 3) := by decide +kernel
theorem dX5_howManyWays_10 : decode cX5_howManyWays 10 = .ok (.iload_n 1, 1) := by decide +kernel
theorem dX5_howManyWays_11 : decode cX5_howManyWays 11 = .ok (.iload_n 0, 1) := by decide +kernel
theorem dX5_howManyWays_12 : decode cX5_howManyWays 12 = .ok (.iload_n 2, 1) := by decide +kernel
theorem dX5_howManyWays_13 : decode cX5_howManyWays 13 = .ok (.invokestatic 54, 3) := by decide +kernel
theorem dX5_howManyWays_16 : decode cX5_howManyWays 16 = .ok (.ifCond .eq 7, 3) := by decide +kernel
theorem dX5_howManyWays_19 : decode cX5_howManyWays 19 = .ok (.iconst 5, 1) := by decide +kernel
theorem dX5_howManyWays_20 : decode cX5_howManyWays 20 = .ok (.goto 4, 3) := by decide +kernel
theorem dX5_howManyWays_23 : decode cX5_howManyWays 23 = .ok (.iconst 1, 1) := by decide +kernel
theorem dX5_howManyWays_24 : decode cX5_howManyWays 24 = .ok (.imul, 1) := by decide +kernel
theorem dX5_howManyWays_25 : decode cX5_howManyWays 25 = .ok (.istore_n 1, 1) := by decide +kernel
theorem dX5_howManyWays_26 : decode cX5_howManyWays 26 = .ok (.iinc 2 1, 3) := by decide +kernel
theorem dX5_howManyWays_29 : decode cX5_howManyWays 29 = .ok (.goto (-25), 3) := by decide +kernel
theorem dX5_howManyWays_32 : decode cX5_howManyWays 32 = .ok (.iload_n 1, 1) := by decide +kernel
theorem dX5_howManyWays_33 : decode cX5_howManyWays 33 = .ok (.ireturn, 1) := by decide +kernel
theorem dX5_giveWants_0 : decode cX5_giveWants 0 = .ok (.iconst 5, 1) := by decide +kernel
theorem dX5_giveWants_1 : decode cX5_giveWants 1 = .ok (.istore_n 3, 1) := by decide +kernel
theorem dX5_giveWants_2 : decode cX5_giveWants 2 = .ok (.iload_n 3, 1) := by decide +kernel
theorem dX5_giveWants_3 : decode cX5_giveWants 3 = .ok (.ifCond .lt 33, 3) := by decide +kernel
theorem dX5_giveWants_6 : decode cX5_giveWants 6 = .ok (.iload_n 1, 1) := by decide +kernel
theorem dX5_giveWants_7 : decode cX5_giveWants 7 = .ok (.iload_n 3, 1) := by decide +kernel
theorem dX5_giveWants_8 : decode cX5_giveWants 8 = .ok (.invokestatic 54, 3) := by decide +kernel
theorem dX5_giveWants_11 : decode cX5_giveWants 11 = .ok (.ifCond .eq 19, 3) := by decide +kernel
theorem dX5_giveWants_14 : decode cX5_giveWants 14 = .ok (.aload_n 0, 1) := by decide +kernel
theorem dX5_giveWants_15 : decode cX5_giveWants 15 = .ok (.getfield 12, 3) := by decide +kernel
theorem dX5_giveWants_18 : decode cX5_giveWants 18 = .ok (.getfield 58, 3) := by decide +kernel
theorem dX5_giveWants_21 : decode cX5_giveWants 21 = .ok (.iload_n 3, 1) := by decide +kernel
theorem dX5_giveWants_22 : decode cX5_giveWants 22 = .ok (.iload_n 2, 1) := by decide +kernel
theorem dX5_giveWants_23 : decode cX5_giveWants 23 = .ok (.iconst 5, 1) := by decide +kernel
theorem dX5_giveWants_24 : decode cX5_giveWants 24 = .ok (.irem, 1) := by decide +kernel
theorem dX5_giveWants_25 : decode cX5_giveWants 25 = .ok (.iastore, 1) := by decide +kernel
theorem dX5_giveWants_26 : decode cX5_giveWants 26 = .ok (.iload_n 2, 1) := by decide +kernel
theorem dX5_giveWants_27 : decode cX5_giveWants 27 = .ok (.iconst 5, 1) := by decide +kernel
theorem dX5_giveWants_28 : decode cX5_giveWants 28 = .ok (.idiv, 1) := by decide +kernel
theorem dX5_giveWants_29 : decode cX5_giveWants 29 = .ok (.istore_n 2, 1) := by decide +kernel
theorem dX5_giveWants_30 : decode cX5_giveWants 30 = .ok (.iinc 3 (-1), 3) := by decide +kernel
theorem dX5_giveWants_33 : decode cX5_giveWants 33 = .ok (.goto (-31), 3) := by decide +kernel
theorem dX5_giveWants_36 : decode cX5_giveWants 36 = .ok (.return_, 1) := by decide +kernel
theorem dX5_noteWants_0 : decode cX5_noteWants 0 = .ok (.iconst 5, 1) := by decide +kernel
theorem dX5_noteWants_1 : decode cX5_noteWants 1 = .ok (.istore_n 3, 1) := by decide +kernel
theorem dX5_noteWants_2 : decode cX5_noteWants 2 = .ok (.iload_n 3, 1) := by decide +kernel
theorem dX5_noteWants_3 : decode cX5_noteWants 3 = .ok (.ifCond .lt 35, 3) := by decide +kernel
theorem dX5_noteWants_6 : decode cX5_noteWants 6 = .ok (.iload_n 1, 1) := by decide +kernel
theorem dX5_noteWants_7 : decode cX5_noteWants 7 = .ok (.iload_n 3, 1) := by decide +kernel
theorem dX5_noteWants_8 : decode cX5_noteWants 8 = .ok (.invokestatic 54, 3) := by decide +kernel
theorem dX5_noteWants_11 : decode cX5_noteWants 11 = .ok (.ifCond .eq 21, 3) := by decide +kernel
theorem dX5_noteWants_14 : decode cX5_noteWants 14 = .ok (.aload_n 0, 1) := by decide +kernel
theorem dX5_noteWants_15 : decode cX5_noteWants 15 = .ok (.getfield 18, 3) := by decide +kernel
theorem dX5_noteWants_18 : decode cX5_noteWants 18 = .ok (.iload_n 3, 1) := by decide +kernel
theorem dX5_noteWants_19 : decode cX5_noteWants 19 = .ok (.dup2, 1) := by decide +kernel
theorem dX5_noteWants_20 : decode cX5_noteWants 20 = .ok (.iaload, 1) := by decide +kernel
theorem dX5_noteWants_21 : decode cX5_noteWants 21 = .ok (.iconst 1, 1) := by decide +kernel
theorem dX5_noteWants_22 : decode cX5_noteWants 22 = .ok (.iload_n 2, 1) := by decide +kernel
theorem dX5_noteWants_23 : decode cX5_noteWants 23 = .ok (.iconst 5, 1) := by decide +kernel
theorem dX5_noteWants_24 : decode cX5_noteWants 24 = .ok (.irem, 1) := by decide +kernel
theorem dX5_noteWants_25 : decode cX5_noteWants 25 = .ok (.ishl, 1) := by decide +kernel
theorem dX5_noteWants_26 : decode cX5_noteWants 26 = .ok (.ior, 1) := by decide +kernel
theorem dX5_noteWants_27 : decode cX5_noteWants 27 = .ok (.iastore, 1) := by decide +kernel
theorem dX5_noteWants_28 : decode cX5_noteWants 28 = .ok (.iload_n 2, 1) := by decide +kernel
theorem dX5_noteWants_29 : decode cX5_noteWants 29 = .ok (.iconst 5, 1) := by decide +kernel
theorem dX5_noteWants_30 : decode cX5_noteWants 30 = .ok (.idiv, 1) := by decide +kernel
theorem dX5_noteWants_31 : decode cX5_noteWants 31 = .ok (.istore_n 2, 1) := by decide +kernel
theorem dX5_noteWants_32 : decode cX5_noteWants 32 = .ok (.iinc 3 (-1), 3) := by decide +kernel
theorem dX5_noteWants_35 : decode cX5_noteWants 35 = .ok (.goto (-33), 3) := by decide +kernel
theorem dX5_noteWants_38 : decode cX5_noteWants 38 = .ok (.return_, 1) := by decide +kernel
theorem dX5_isAsSeen_0 : decode cX5_isAsSeen 0 = .ok (.iconst 0, 1) := by decide +kernel
theorem dX5_isAsSeen_1 : decode cX5_isAsSeen 1 = .ok (.istore_n 2, 1) := by decide +kernel
theorem dX5_isAsSeen_2 : decode cX5_isAsSeen 2 = .ok (.iload_n 2, 1) := by decide +kernel
theorem dX5_isAsSeen_3 : decode cX5_isAsSeen 3 = .ok (.aload_n 0, 1) := by decide +kernel
theorem dX5_isAsSeen_4 : decode cX5_isAsSeen 4 = .ok (.getfield 12, 3) := by decide +kernel
theorem dX5_isAsSeen_7 : decode cX5_isAsSeen 7 = .ok (.getfield 61, 3) := by decide +kernel
theorem dX5_isAsSeen_10 : decode cX5_isAsSeen 10 = .ok (.if_icmp .ge 38, 3) := by decide +kernel
theorem dX5_isAsSeen_13 : decode cX5_isAsSeen 13 = .ok (.aload_n 1, 1) := by decide +kernel
theorem dX5_isAsSeen_14 : decode cX5_isAsSeen 14 = .ok (.iload_n 2, 1) := by decide +kernel
theorem dX5_isAsSeen_15 : decode cX5_isAsSeen 15 = .ok (.invokevirtual 64, 3) := by decide +kernel
theorem dX5_isAsSeen_18 : decode cX5_isAsSeen 18 = .ok (.bipush (-9), 2) := by decide +kernel
theorem dX5_isAsSeen_20 : decode cX5_isAsSeen 20 = .ok (.if_icmp .eq 22, 3) := by decide +kernel
theorem dX5_isAsSeen_23 : decode cX5_isAsSeen 23 = .ok (.aload_n 1, 1) := by decide +kernel
theorem dX5_isAsSeen_24 : decode cX5_isAsSeen 24 = .ok (.iload_n 2, 1) := by decide +kernel
theorem dX5_isAsSeen_25 : decode cX5_isAsSeen 25 = .ok (.invokevirtual 64, 3) := by decide +kernel
theorem dX5_isAsSeen_28 : decode cX5_isAsSeen 28 = .ok (.aload_n 0, 1) := by decide +kernel
theorem dX5_isAsSeen_29 : decode cX5_isAsSeen 29 = .ok (.getfield 12, 3) := by decide +kernel
theorem dX5_isAsSeen_32 : decode cX5_isAsSeen 32 = .ok (.getfield 69, 3) := by decide +kernel
theorem dX5_isAsSeen_35 : decode cX5_isAsSeen 35 = .ok (.iload_n 2, 1) := by decide +kernel
theorem dX5_isAsSeen_36 : decode cX5_isAsSeen 36 = .ok (.iaload, 1) := by decide +kernel
theorem dX5_isAsSeen_37 : decode cX5_isAsSeen 37 = .ok (.if_icmp .eq 5, 3) := by decide +kernel
theorem dX5_isAsSeen_40 : decode cX5_isAsSeen 40 = .ok (.iconst 0, 1) := by decide +kernel
theorem dX5_isAsSeen_41 : decode cX5_isAsSeen 41 = .ok (.ireturn, 1) := by decide +kernel
theorem dX5_isAsSeen_42 : decode cX5_isAsSeen 42 = .ok (.iinc 2 1, 3) := by decide +kernel
theorem dX5_isAsSeen_45 : decode cX5_isAsSeen 45 = .ok (.goto (-43), 3) := by decide +kernel
theorem dX5_isAsSeen_48 : decode cX5_isAsSeen 48 = .ok (.iconst 1, 1) := by decide +kernel
theorem dX5_isAsSeen_49 : decode cX5_isAsSeen 49 = .ok (.ireturn, 1) := by decide +kernel
theorem dX6_init_0 : decode cX6_init 0 = .ok (.aload_n 0, 1) := by decide +kernel
theorem dX6_init_1 : decode cX6_init 1 = .ok (.invokespecial 1, 3) := by decide +kernel
theorem dX6_init_4 : decode cX6_init 4 = .ok (.aload_n 0, 1) := by decide +kernel
theorem dX6_init_5 : decode cX6_init 5 = .ok (.bipush 6, 2) := by decide +kernel
theorem dX6_init_7 : decode cX6_init 7 = .ok (.anewarray 9, 3) := by decide +kernel
theorem dX6_init_10 : decode cX6_init 10 = .ok (.putfield 11, 3) := by decide +kernel
theorem dX6_init_13 : decode cX6_init 13 = .ok (.aload_n 0, 1) := by decide +kernel
theorem dX6_init_14 : decode cX6_init 14 = .ok (.iconst 4, 1) := by decide +kernel
theorem dX6_init_15 : decode cX6_init 15 = .ok (.anewarray 9, 3) := by decide +kernel
theorem dX6_init_18 : decode cX6_init 18 = .ok (.putfield 15, 3) := by decide +kernel
theorem dX6_init_21 : decode cX6_init 21 = .ok (.aload_n 0, 1) := by decide +kernel
theorem dX6_init_22 : decode cX6_init 22 = .ok (.new 18, 3) := by decide +kernel
theorem dX6_init_25 : decode cX6_init 25 = .ok (.dup, 1) := by decide +kernel
theorem dX6_init_26 : decode cX6_init 26 = .ok (.invokespecial 20, 3) := by decide +kernel
theorem dX6_init_29 : decode cX6_init 29 = .ok (.putfield 21, 3) := by decide +kernel
theorem dX6_init_32 : decode cX6_init 32 = .ok (.aload_n 0, 1) := by decide +kernel
theorem dX6_init_33 : decode cX6_init 33 = .ok (.iconst 3, 1) := by decide +kernel
theorem dX6_init_34 : decode cX6_init 34 = .ok (.anewarray 18, 3) := by decide +kernel
theorem dX6_init_37 : decode cX6_init 37 = .ok (.putfield 25, 3) := by decide +kernel
theorem dX6_init_40 : decode cX6_init 40 = .ok (.aload_n 0, 1) := by decide +kernel
theorem dX6_init_41 : decode cX6_init 41 = .ok (.new 29, 3) := by decide +kernel
theorem dX6_init_44 : decode cX6_init 44 = .ok (.dup, 1) := by decide +kernel
theorem dX6_init_45 : decode cX6_init 45 = .ok (.invokespecial 31, 3) := by decide +kernel
theorem dX6_init_48 : decode cX6_init 48 = .ok (.putfield 32, 3) := by decide +kernel
theorem dX6_init_51 : decode cX6_init 51 = .ok (.aload_n 0, 1) := by decide +kernel
theorem dX6_init_52 : decode cX6_init 52 = .ok (.new 36, 3) := by decide +kernel
theorem dX6_init_55 : decode cX6_init 55 = .ok (.dup, 1) := by decide +kernel
theorem dX6_init_56 : decode cX6_init 56 = .ok (.invokespecial 38, 3) := by decide +kernel
theorem dX6_init_59 : decode cX6_init 59 = .ok (.putfield 39, 3) := by decide +kernel
theorem dX6_init_62 : decode cX6_init 62 = .ok (.aload_n 0, 1) := by decide +kernel
theorem dX6_init_63 : decode cX6_init 63 = .ok (.new 43, 3) := by decide +kernel
theorem dX6_init_66 : decode cX6_init 66 = .ok (.dup, 1) := by decide +kernel
theorem dX6_init_67 : decode cX6_init 67 = .ok (.invokespecial 45, 3) := by decide +kernel
theorem dX6_init_70 : decode cX6_init 70 = .ok (.putfield 46, 3) := by decide +kernel
theorem dX6_init_73 : decode cX6_init 73 = .ok (.aload_n 0, 1) := by decide +kernel
theorem dX6_init_74 : decode cX6_init 74 = .ok (.new 50, 3) := by decide +kernel
theorem dX6_init_77 : decode cX6_init 77 = .ok (.dup, 1) := by decide +kernel
theorem dX6_init_78 : decode cX6_init 78 = .ok (.invokespecial 52, 3) := by decide +kernel
theorem dX6_init_81 : decode cX6_init 81 = .ok (.putfield 53, 3) := by decide +kernel
theorem dX6_init_84 : decode cX6_init 84 = .ok (.aload_n 0, 1) := by decide +kernel
theorem dX6_init_85 : decode cX6_init 85 = .ok (.bipush 6, 2) := by decide +kernel
theorem dX6_init_87 : decode cX6_init 87 = .ok (.newarray .int, 2) := by decide +kernel
theorem dX6_init_89 : decode cX6_init 89 = .ok (.putfield 57, 3) := by decide +kernel
theorem dX6_init_92 : decode cX6_init 92 = .ok (.iconst 0, 1) := by decide +kernel
theorem dX6_init_93 : decode cX6_init 93 = .ok (.istore_n 1, 1) := by decide +kernel
theorem dX6_init_94 : decode cX6_init 94 = .ok (.iload_n 1, 1) := by decide +kernel
theorem dX6_init_95 : decode cX6_init 95 = .ok (.bipush 6, 2) := by decide +kernel
theorem dX6_init_97 : decode cX6_init 97 = .ok (.if_icmp .ge 24, 3) := by decide +kernel
theorem dX6_init_100 : decode cX6_init 100 = .ok (.aload_n 0, 1) := by decide +kernel
theorem dX6_init_101 : decode cX6_init 101 = .ok (.getfield 11, 3) := by decide +kernel
theorem dX6_init_104 : decode cX6_init 104 = .ok (.iload_n 1, 1) := by decide +kernel
theorem dX6_init_105 : decode cX6_init 105 = .ok (.new 9, 3) := by decide +kernel
theorem dX6_init_108 : decode cX6_init 108 = .ok (.dup, 1) := by decide +kernel
theorem dX6_init_109 : decode cX6_init 109 = .ok (.bipush 40, 2) := by decide +kernel
theorem dX6_init_111 : decode cX6_init 111 = .ok (.invokespecial 61, 3) := by decide +kernel
theorem dX6_init_114 : decode cX6_init 114 = .ok (.aastore, 1) := by decide +kernel
theorem dX6_init_115 : decode cX6_init 115 = .ok (.iinc 1 1, 3) := by decide +kernel
theorem dX6_init_118 : decode cX6_init 118 = .ok (.goto (-24), 3) := by decide +kernel
theorem dX6_init_121 : decode cX6_init 121 = .ok (.iconst 0, 1) := by decide +kernel
theorem dX6_init_122 : decode cX6_init 122 = .ok (.istore_n 1, 1) := by decide +kernel
theorem dX6_init_123 : decode cX6_init 123 = .ok (.iload_n 1, 1) := by decide +kernel
theorem dX6_init_124 : decode cX6_init 124 = .ok (.iconst 4, 1) := by decide +kernel
theorem dX6_init_125 : decode cX6_init 125 = .ok (.if_icmp .ge 24, 3) := by decide +kernel
theorem dX6_init_128 : decode cX6_init 128 = .ok (.aload_n 0, 1) := by decide +kernel
theorem dX6_init_129 : decode cX6_init 129 = .ok (.getfield 15, 3) := by decide +kernel
theorem dX6_init_132 : decode cX6_init 132 = .ok (.iload_n 1, 1) := by decide +kernel
theorem dX6_init_133 : decode cX6_init 133 = .ok (.new 9, 3) := by decide +kernel
theorem dX6_init_136 : decode cX6_init 136 = .ok (.dup, 1) := by decide +kernel
theorem dX6_init_137 : decode cX6_init 137 = .ok (.bipush 80, 2) := by decide +kernel
theorem dX6_init_139 : decode cX6_init 139 = .ok (.invokespecial 61, 3) := by decide +kernel
theorem dX6_init_142 : decode cX6_init 142 = .ok (.aastore, 1) := by decide +kernel
theorem dX6_init_143 : decode cX6_init 143 = .ok (.iinc 1 1, 3) := by decide +kernel
theorem dX6_init_146 : decode cX6_init 146 = .ok (.goto (-23), 3) := by decide +kernel
theorem dX6_init_149 : decode cX6_init 149 = .ok (.iconst 0, 1) := by decide +kernel
theorem dX6_init_150 : decode cX6_init 150 = .ok (.istore_n 1, 1) := by decide +kernel
theorem dX6_init_151 : decode cX6_init 151 = .ok (.iload_n 1, 1) := by decide +kernel
theorem dX6_init_152 : decode cX6_init 152 = .ok (.iconst 3, 1) := by decide +kernel
theorem dX6_init_153 : decode cX6_init 153 = .ok (.if_icmp .ge 22, 3) := by decide +kernel
theorem dX6_init_156 : decode cX6_init 156 = .ok (.aload_n 0, 1) := by decide +kernel
theorem dX6_init_157 : decode cX6_init 157 = .ok (.getfield 25, 3) := by decide +kernel
theorem dX6_init_160 : decode cX6_init 160 = .ok (.iload_n 1, 1) := by decide +kernel
theorem dX6_init_161 : decode cX6_init 161 = .ok (.new 18, 3) := by decide +kernel
theorem dX6_init_164 : decode cX6_init 164 = .ok (.dup, 1) := by decide +kernel
theorem dX6_init_165 : decode cX6_init 165 = .ok (.invokespecial 20, 3) := by decide +kernel
theorem dX6_init_168 : decode cX6_init 168 = .ok (.aastore, 1) := by decide +kernel
theorem dX6_init_169 : decode cX6_init 169 = .ok (.iinc 1 1, 3) := by decide +kernel
theorem dX6_init_172 : decode cX6_init 172 = .ok (.goto (-21), 3) := by decide +kernel
theorem dX6_init_175 : decode cX6_init 175 = .ok (.return_, 1) := by decide +kernel
theorem dX6_row_0 : decode cX6_row 0 = .ok (.iload_n 1, 1) := by decide +kernel
theorem dX6_row_1 : decode cX6_row 1 = .ok (.bipush 6, 2) := by decide +kernel
theorem dX6_row_3 : decode cX6_row 3 = .ok (.invokestatic 64, 3) := by decide +kernel
theorem dX6_row_6 : decode cX6_row 6 = .ok (.ifCond .eq 9, 3) := by decide +kernel
theorem dX6_row_9 : decode cX6_row 9 = .ok (.iload_n 2, 1) := by decide +kernel
theorem dX6_row_10 : decode cX6_row 10 = .ok (.bipush 40, 2) := by decide +kernel
theorem dX6_row_12 : decode cX6_row 12 = .ok (.if_icmp .le 5, 3) := by decide +kernel
theorem dX6_row_15 : decode cX6_row 15 = .ok (.iconst (-1), 1) := by decide +kernel
theorem dX6_row_16 : decode cX6_row 16 = .ok (.ireturn, 1) := by decide +kernel
theorem dX6_row_17 : decode cX6_row 17 = .ok (.iload_n 2, 1) := by decide +kernel
theorem dX6_row_18 : decode cX6_row 18 = .ok (.ifCond .ge 9, 3) := by decide +kernel
theorem dX6_row_21 : decode cX6_row 21 = .ok (.aload_n 0, 1) := by decide +kernel
theorem dX6_row_22 : decode cX6_row 22 = .ok (.iconst 5, 1) := by decide +kernel
theorem dX6_row_23 : decode cX6_row 23 = .ok (.invokevirtual 68, 3) := by decide +kernel
theorem dX6_row_26 : decode cX6_row 26 = .ok (.ireturn, 1) := by decide +kernel
theorem dX6_row_27 : decode cX6_row 27 = .ok (.aload_n 0, 1) := by decide +kernel
theorem dX6_row_28 : decode cX6_row 28 = .ok (.getfield 11, 3) := by decide +kernel
theorem dX6_row_31 : decode cX6_row 31 = .ok (.iload_n 1, 1) := by decide +kernel
theorem dX6_row_32 : decode cX6_row 32 = .ok (.aaload, 1) := by decide +kernel
theorem dX6_row_33 : decode cX6_row 33 = .ok (.iload_n 2, 1) := by decide +kernel
theorem dX6_row_34 : decode cX6_row 34 = .ok (.iconst 0, 1) := by decide +kernel
theorem dX6_row_35 : decode cX6_row 35 = .ok (.invokevirtual 72, 3) := by decide +kernel
theorem dX6_row_38 : decode cX6_row 38 = .ok (.iload_n 2, 1) := by decide +kernel
theorem dX6_row_39 : decode cX6_row 39 = .ok (.ireturn, 1) := by decide +kernel
theorem dX6_lay_0 : decode cX6_lay 0 = .ok (.iload_n 1, 1) := by decide +kernel
theorem dX6_lay_1 : decode cX6_lay 1 = .ok (.bipush 6, 2) := by decide +kernel
theorem dX6_lay_3 : decode cX6_lay 3 = .ok (.invokestatic 64, 3) := by decide +kernel
theorem dX6_lay_6 : decode cX6_lay 6 = .ok (.ifCond .ne 5, 3) := by decide +kernel
theorem dX6_lay_9 : decode cX6_lay 9 = .ok (.iconst (-1), 1) := by decide +kernel
theorem dX6_lay_10 : decode cX6_lay 10 = .ok (.ireturn, 1) := by decide +kernel
theorem dX6_lay_11 : decode cX6_lay 11 = .ok (.aload_n 0, 1) := by decide +kernel
theorem dX6_lay_12 : decode cX6_lay 12 = .ok (.aload_n 0, 1) := by decide +kernel
theorem dX6_lay_13 : decode cX6_lay 13 = .ok (.getfield 11, 3) := by decide +kernel
theorem dX6_lay_16 : decode cX6_lay 16 = .ok (.iload_n 1, 1) := by decide +kernel
theorem dX6_lay_17 : decode cX6_lay 17 = .ok (.aaload, 1) := by decide +kernel
theorem dX6_lay_18 : decode cX6_lay 18 = .ok (.iload_n 2, 1) := by decide +kernel
theorem dX6_lay_19 : decode cX6_lay 19 = .ok (.invokevirtual 76, 3) := by decide +kernel
theorem dX6_lay_22 : decode cX6_lay 22 = .ok (.istore 4, 2) := by decide +kernel
theorem dX6_lay_24 : decode cX6_lay 24 = .ok (.iload 4, 2) := by decide +kernel
theorem dX6_lay_26 : decode cX6_lay 26 = .ok (.ifCond .eq 10, 3) := by decide +kernel
theorem dX6_lay_29 : decode cX6_lay 29 = .ok (.aload_n 0, 1) := by decide +kernel
theorem dX6_lay_30 : decode cX6_lay 30 = .ok (.iload 4, 2) := by decide +kernel
theorem dX6_lay_32 : decode cX6_lay 32 = .ok (.invokevirtual 68, 3) := by decide +kernel
theorem dX6_lay_35 : decode cX6_lay 35 = .ok (.ireturn, 1) := by decide +kernel
theorem dX6_lay_36 : decode cX6_lay 36 = .ok (.aload_n 0, 1) := by decide +kernel
theorem dX6_lay_37 : decode cX6_lay 37 = .ok (.aload_n 0, 1) := by decide +kernel
theorem dX6_lay_38 : decode cX6_lay 38 = .ok (.getfield 11, 3) := by decide +kernel
theorem dX6_lay_41 : decode cX6_lay 41 = .ok (.iload_n 1, 1) := by decide +kernel
theorem dX6_lay_42 : decode cX6_lay 42 = .ok (.aaload, 1) := by decide +kernel
theorem dX6_lay_43 : decode cX6_lay 43 = .ok (.iload_n 2, 1) := by decide +kernel
theorem dX6_lay_44 : decode cX6_lay 44 = .ok (.iload_n 3, 1) := by decide +kernel
theorem dX6_lay_45 : decode cX6_lay 45 = .ok (.invokevirtual 80, 3) := by decide +kernel
theorem dX6_lay_48 : decode cX6_lay 48 = .ok (.invokevirtual 84, 3) := by decide +kernel
theorem dX6_lay_51 : decode cX6_lay 51 = .ok (.ireturn, 1) := by decide +kernel
theorem dX6_at_0 : decode cX6_at 0 = .ok (.iload_n 1, 1) := by decide +kernel
theorem dX6_at_1 : decode cX6_at 1 = .ok (.bipush 6, 2) := by decide +kernel
theorem dX6_at_3 : decode cX6_at 3 = .ok (.invokestatic 64, 3) := by decide +kernel
theorem dX6_at_6 : decode cX6_at 6 = .ok (.ifCond .ne 5, 3) := by decide +kernel
theorem dX6_at_9 : decode cX6_at 9 = .ok (.iconst (-1), 1) := by decide +kernel
theorem dX6_at_10 : decode cX6_at 10 = .ok (.ireturn, 1) := by decide +kernel
theorem dX6_at_11 : decode cX6_at 11 = .ok (.aload_n 0, 1) := by decide +kernel
theorem dX6_at_12 : decode cX6_at 12 = .ok (.aload_n 0, 1) := by decide +kernel
theorem dX6_at_13 : decode cX6_at 13 = .ok (.getfield 11, 3) := by decide +kernel
theorem dX6_at_16 : decode cX6_at 16 = .ok (.iload_n 1, 1) := by decide +kernel
theorem dX6_at_17 : decode cX6_at 17 = .ok (.aaload, 1) := by decide +kernel
theorem dX6_at_18 : decode cX6_at 18 = .ok (.iload_n 2, 1) := by decide +kernel
theorem dX6_at_19 : decode cX6_at 19 = .ok (.invokevirtual 76, 3) := by decide +kernel
theorem dX6_at_22 : decode cX6_at 22 = .ok (.istore_n 3, 1) := by decide +kernel
theorem dX6_at_23 : decode cX6_at 23 = .ok (.iload_n 3, 1) := by decide +kernel
theorem dX6_at_24 : decode cX6_at 24 = .ok (.ifCond .eq 9, 3) := by decide +kernel
theorem dX6_at_27 : decode cX6_at 27 = .ok (.aload_n 0, 1) := by decide +kernel
theorem dX6_at_28 : decode cX6_at 28 = .ok (.iload_n 3, 1) := by decide +kernel
theorem dX6_at_29 : decode cX6_at 29 = .ok (.invokevirtual 68, 3) := by decide +kernel
theorem dX6_at_32 : decode cX6_at 32 = .ok (.ireturn, 1) := by decide +kernel
theorem dX6_at_33 : decode cX6_at 33 = .ok (.aload_n 0, 1) := by decide +kernel
theorem dX6_at_34 : decode cX6_at 34 = .ok (.aload_n 0, 1) := by decide +kernel
theorem dX6_at_35 : decode cX6_at 35 = .ok (.getfield 11, 3) := by decide +kernel
theorem dX6_at_38 : decode cX6_at 38 = .ok (.iload_n 1, 1) := by decide +kernel
theorem dX6_at_39 : decode cX6_at 39 = .ok (.aaload, 1) := by decide +kernel
theorem dX6_at_40 : decode cX6_at 40 = .ok (.iload_n 2, 1) := by decide +kernel
theorem dX6_at_41 : decode cX6_at 41 = .ok (.invokevirtual 87, 3) := by decide +kernel
theorem dX6_at_44 : decode cX6_at 44 = .ok (.invokevirtual 84, 3) := by decide +kernel
theorem dX6_at_47 : decode cX6_at 47 = .ok (.ireturn, 1) := by decide +kernel
theorem dX6_tear_0 : decode cX6_tear 0 = .ok (.iload_n 1, 1) := by decide +kernel
theorem dX6_tear_1 : decode cX6_tear 1 = .ok (.bipush 6, 2) := by decide +kernel
theorem dX6_tear_3 : decode cX6_tear 3 = .ok (.invokestatic 64, 3) := by decide +kernel
theorem dX6_tear_6 : decode cX6_tear 6 = .ok (.ifCond .ne 5, 3) := by decide +kernel
theorem dX6_tear_9 : decode cX6_tear 9 = .ok (.iconst (-1), 1) := by decide +kernel
theorem dX6_tear_10 : decode cX6_tear 10 = .ok (.ireturn, 1) := by decide +kernel
theorem dX6_tear_11 : decode cX6_tear 11 = .ok (.aload_n 0, 1) := by decide +kernel
theorem dX6_tear_12 : decode cX6_tear 12 = .ok (.getfield 11, 3) := by decide +kernel
theorem dX6_tear_15 : decode cX6_tear 15 = .ok (.iload_n 1, 1) := by decide +kernel
theorem dX6_tear_16 : decode cX6_tear 16 = .ok (.aaload, 1) := by decide +kernel
theorem dX6_tear_17 : decode cX6_tear 17 = .ok (.invokevirtual 90, 3) := by decide +kernel
theorem dX6_tear_20 : decode cX6_tear 20 = .ok (.ifCond .ne 9, 3) := by decide +kernel
theorem dX6_tear_23 : decode cX6_tear 23 = .ok (.aload_n 0, 1) := by decide +kernel
theorem dX6_tear_24 : decode cX6_tear 24 = .ok (.iconst 1, 1) := by decide +kernel
theorem dX6_tear_25 : decode cX6_tear 25 = .ok (.invokevirtual 68, 3) := by decide +kernel
theorem dX6_tear_28 : decode cX6_tear 28 = .ok (.ireturn, 1) := by decide +kernel
theorem dX6_tear_29 : decode cX6_tear 29 = .ok (.aload_n 0, 1) := by decide +kernel
theorem dX6_tear_30 : decode cX6_tear 30 = .ok (.getfield 11, 3) := by decide +kernel
theorem dX6_tear_33 : decode cX6_tear 33 = .ok (.iload_n 1, 1) := by decide +kernel
theorem dX6_tear_34 : decode cX6_tear 34 = .ok (.aaload, 1) := by decide +kernel
theorem dX6_tear_35 : decode cX6_tear 35 = .ok (.invokevirtual 94, 3) := by decide +kernel
theorem dX6_tear_38 : decode cX6_tear 38 = .ok (.iconst 1, 1) := by decide +kernel
theorem dX6_tear_39 : decode cX6_tear 39 = .ok (.ireturn, 1) := by decide +kernel
theorem dX6_copy_0 : decode cX6_copy 0 = .ok (.iload_n 1, 1) := by decide +kernel
theorem dX6_copy_1 : decode cX6_copy 1 = .ok (.bipush 6, 2) := by decide +kernel
theorem dX6_copy_3 : decode cX6_copy 3 = .ok (.invokestatic 64, 3) := by decide +kernel
theorem dX6_copy_6 : decode cX6_copy 6 = .ok (.ifCond .eq 12, 3) := by decide +kernel
theorem dX6_copy_9 : decode cX6_copy 9 = .ok (.iload_n 3, 1) := by decide +kernel
theorem dX6_copy_10 : decode cX6_copy 10 = .ok (.bipush 6, 2) := by decide +kernel
theorem dX6_copy_12 : decode cX6_copy 12 = .ok (.invokestatic 64, 3) := by decide +kernel
theorem dX6_copy_15 : decode cX6_copy 15 = .ok (.ifCond .ne 5, 3) := by decide +kernel
theorem dX6_copy_18 : decode cX6_copy 18 = .ok (.iconst (-1), 1) := by decide +kernel
theorem dX6_copy_19 : decode cX6_copy 19 = .ok (.ireturn, 1) := by decide +kernel
theorem dX6_copy_20 : decode cX6_copy 20 = .ok (.iload 5, 2) := by decide +kernel
theorem dX6_copy_22 : decode cX6_copy 22 = .ok (.ifCond .ge 9, 3) := by decide +kernel
theorem dX6_copy_25 : decode cX6_copy 25 = .ok (.aload_n 0, 1) := by decide +kernel
theorem dX6_copy_26 : decode cX6_copy 26 = .ok (.iconst 5, 1) := by decide +kernel
theorem dX6_copy_27 : decode cX6_copy 27 = .ok (.invokevirtual 68, 3) := by decide +kernel
theorem dX6_copy_30 : decode cX6_copy 30 = .ok (.ireturn, 1) := by decide +kernel
theorem dX6_copy_31 : decode cX6_copy 31 = .ok (.aload_n 0, 1) := by decide +kernel
theorem dX6_copy_32 : decode cX6_copy 32 = .ok (.getfield 11, 3) := by decide +kernel
theorem dX6_copy_35 : decode cX6_copy 35 = .ok (.iload_n 1, 1) := by decide +kernel
theorem dX6_copy_36 : decode cX6_copy 36 = .ok (.aaload, 1) := by decide +kernel
theorem dX6_copy_37 : decode cX6_copy 37 = .ok (.invokevirtual 90, 3) := by decide +kernel
theorem dX6_copy_40 : decode cX6_copy 40 = .ok (.ifCond .eq 15, 3) := by decide +kernel
theorem dX6_copy_43 : decode cX6_copy 43 = .ok (.aload_n 0, 1) := by decide +kernel
theorem dX6_copy_44 : decode cX6_copy 44 = .ok (.getfield 11, 3) := by decide +kernel
theorem dX6_copy_47 : decode cX6_copy 47 = .ok (.iload_n 3, 1) := by decide +kernel
theorem dX6_copy_48 : decode cX6_copy 48 = .ok (.aaload, 1) := by decide +kernel
theorem dX6_copy_49 : decode cX6_copy 49 = .ok (.invokevirtual 90, 3) := by decide +kernel
theorem dX6_copy_52 : decode cX6_copy 52 = .ok (.ifCond .ne 9, 3) := by decide +kernel
theorem dX6_copy_55 : decode cX6_copy 55 = .ok (.aload_n 0, 1) := by decide +kernel
theorem dX6_copy_56 : decode cX6_copy 56 = .ok (.iconst 1, 1) := by decide +kernel
theorem dX6_copy_57 : decode cX6_copy 57 = .ok (.invokevirtual 68, 3) := by decide +kernel
theorem dX6_copy_60 : decode cX6_copy 60 = .ok (.ireturn, 1) := by decide +kernel
theorem dX6_copy_61 : decode cX6_copy 61 = .ok (.aload_n 0, 1) := by decide +kernel
theorem dX6_copy_62 : decode cX6_copy 62 = .ok (.getfield 11, 3) := by decide +kernel
theorem dX6_copy_65 : decode cX6_copy 65 = .ok (.iload_n 1, 1) := by decide +kernel
theorem dX6_copy_66 : decode cX6_copy 66 = .ok (.aaload, 1) := by decide +kernel
theorem dX6_copy_67 : decode cX6_copy 67 = .ok (.iload_n 2, 1) := by decide +kernel
theorem dX6_copy_68 : decode cX6_copy 68 = .ok (.iload 5, 2) := by decide +kernel
theorem dX6_copy_70 : decode cX6_copy 70 = .ok (.invokevirtual 97, 3) := by decide +kernel
theorem dX6_copy_73 : decode cX6_copy 73 = .ok (.ifCond .eq 19, 3) := by decide +kernel
theorem dX6_copy_76 : decode cX6_copy 76 = .ok (.aload_n 0, 1) := by decide +kernel
theorem dX6_copy_77 : decode cX6_copy 77 = .ok (.getfield 11, 3) := by decide +kernel
theorem dX6_copy_80 : decode cX6_copy 80 = .ok (.iload_n 3, 1) := by decide +kernel
theorem dX6_copy_81 : decode cX6_copy 81 = .ok (.aaload, 1) := by decide +kernel
theorem dX6_copy_82 : decode cX6_copy 82 = .ok (.iload 4, 2) := by decide +kernel
theorem dX6_copy_84 : decode cX6_copy 84 = .ok (.iload 5, 2) := by decide +kernel
theorem dX6_copy_86 : decode cX6_copy 86 = .ok (.invokevirtual 97, 3) := by decide +kernel
theorem dX6_copy_89 : decode cX6_copy 89 = .ok (.ifCond .ne 9, 3) := by decide +kernel
theorem dX6_copy_92 : decode cX6_copy 92 = .ok (.aload_n 0, 1) := by decide +kernel
theorem dX6_copy_93 : decode cX6_copy 93 = .ok (.iconst 2, 1) := by decide +kernel
theorem dX6_copy_94 : decode cX6_copy 94 = .ok (.invokevirtual 68, 3) := by decide +kernel
theorem dX6_copy_97 : decode cX6_copy 97 = .ok (.ireturn, 1) := by decide +kernel
theorem dX6_copy_98 : decode cX6_copy 98 = .ok (.aload_n 0, 1) := by decide +kernel
theorem dX6_copy_99 : decode cX6_copy 99 = .ok (.getfield 11, 3) := by decide +kernel
theorem dX6_copy_102 : decode cX6_copy 102 = .ok (.iload_n 3, 1) := by decide +kernel
theorem dX6_copy_103 : decode cX6_copy 103 = .ok (.aaload, 1) := by decide +kernel
theorem dX6_copy_104 : decode cX6_copy 104 = .ok (.aload_n 0, 1) := by decide +kernel
theorem dX6_copy_105 : decode cX6_copy 105 = .ok (.getfield 11, 3) := by decide +kernel
theorem dX6_copy_108 : decode cX6_copy 108 = .ok (.iload_n 1, 1) := by decide +kernel
theorem dX6_copy_109 : decode cX6_copy 109 = .ok (.aaload, 1) := by decide +kernel
theorem dX6_copy_110 : decode cX6_copy 110 = .ok (.iload_n 2, 1) := by decide +kernel
theorem dX6_copy_111 : decode cX6_copy 111 = .ok (.iload 4, 2) := by decide +kernel
theorem dX6_copy_113 : decode cX6_copy 113 = .ok (.iload 5, 2) := by decide +kernel
theorem dX6_copy_115 : decode cX6_copy 115 = .ok (.invokevirtual 100, 3) := by decide +kernel
theorem dX6_copy_118 : decode cX6_copy 118 = .ok (.iconst 1, 1) := by decide +kernel
theorem dX6_copy_119 : decode cX6_copy 119 = .ok (.ireturn, 1) := by decide +kernel
theorem dX6_mean_0 : decode cX6_mean 0 = .ok (.iload_n 1, 1) := by decide +kernel
theorem dX6_mean_1 : decode cX6_mean 1 = .ok (.bipush 6, 2) := by decide +kernel
theorem dX6_mean_3 : decode cX6_mean 3 = .ok (.invokestatic 64, 3) := by decide +kernel
theorem dX6_mean_6 : decode cX6_mean 6 = .ok (.ifCond .ne 5, 3) := by decide +kernel
theorem dX6_mean_9 : decode cX6_mean 9 = .ok (.iconst (-1), 1) := by decide +kernel
theorem dX6_mean_10 : decode cX6_mean 10 = .ok (.ireturn, 1) := by decide +kernel
theorem dX6_mean_11 : decode cX6_mean 11 = .ok (.aload_n 0, 1) := by decide +kernel
theorem dX6_mean_12 : decode cX6_mean 12 = .ok (.getfield 11, 3) := by decide +kernel
theorem dX6_mean_15 : decode cX6_mean 15 = .ok (.iload_n 1, 1) := by decide +kernel
theorem dX6_mean_16 : decode cX6_mean 16 = .ok (.aaload, 1) := by decide +kernel
theorem dX6_mean_17 : decode cX6_mean 17 = .ok (.invokevirtual 104, 3) := by decide +kernel
theorem dX6_mean_20 : decode cX6_mean 20 = .ok (.istore_n 2, 1) := by decide +kernel
theorem dX6_mean_21 : decode cX6_mean 21 = .ok (.iload_n 2, 1) := by decide +kernel
theorem dX6_mean_22 : decode cX6_mean 22 = .ok (.ifCond .ge 9, 3) := by decide +kernel
theorem dX6_mean_25 : decode cX6_mean 25 = .ok (.aload_n 0, 1) := by decide +kernel
theorem dX6_mean_26 : decode cX6_mean 26 = .ok (.iconst 1, 1) := by decide +kernel
theorem dX6_mean_27 : decode cX6_mean 27 = .ok (.invokevirtual 68, 3) := by decide +kernel
theorem dX6_mean_30 : decode cX6_mean 30 = .ok (.ireturn, 1) := by decide +kernel
theorem dX6_mean_31 : decode cX6_mean 31 = .ok (.iload_n 2, 1) := by decide +kernel
theorem dX6_mean_32 : decode cX6_mean 32 = .ok (.ifCond .ne 9, 3) := by decide +kernel
theorem dX6_mean_35 : decode cX6_mean 35 = .ok (.aload_n 0, 1) := by decide +kernel
theorem dX6_mean_36 : decode cX6_mean 36 = .ok (.iconst 4, 1) := by decide +kernel
theorem dX6_mean_37 : decode cX6_mean 37 = .ok (.invokevirtual 68, 3) := by decide +kernel
theorem dX6_mean_40 : decode cX6_mean 40 = .ok (.ireturn, 1) := by decide +kernel
theorem dX6_mean_41 : decode cX6_mean 41 = .ok (.aload_n 0, 1) := by decide +kernel
theorem dX6_mean_42 : decode cX6_mean 42 = .ok (.aload_n 0, 1) := by decide +kernel
theorem dX6_mean_43 : decode cX6_mean 43 = .ok (.getfield 11, 3) := by decide +kernel
theorem dX6_mean_46 : decode cX6_mean 46 = .ok (.iload_n 1, 1) := by decide +kernel
theorem dX6_mean_47 : decode cX6_mean 47 = .ok (.aaload, 1) := by decide +kernel
theorem dX6_mean_48 : decode cX6_mean 48 = .ok (.invokevirtual 108, 3) := by decide +kernel
theorem dX6_mean_51 : decode cX6_mean 51 = .ok (.iload_n 2, 1) := by decide +kernel
theorem dX6_mean_52 : decode cX6_mean 52 = .ok (.i2l, 1) := by decide +kernel
theorem dX6_mean_53 : decode cX6_mean 53 = .ok (.ldiv, 1) := by decide +kernel
theorem dX6_mean_54 : decode cX6_mean 54 = .ok (.l2i, 1) := by decide +kernel
theorem dX6_mean_55 : decode cX6_mean 55 = .ok (.invokevirtual 84, 3) := by decide +kernel
theorem dX6_mean_58 : decode cX6_mean 58 = .ok (.ireturn, 1) := by decide +kernel
theorem dX6_text_0 : decode cX6_text 0 = .ok (.iload_n 1, 1) := by decide +kernel
theorem dX6_text_1 : decode cX6_text 1 = .ok (.iconst 4, 1) := by decide +kernel
theorem dX6_text_2 : decode cX6_text 2 = .ok (.invokestatic 64, 3) := by decide +kernel
theorem dX6_text_5 : decode cX6_text 5 = .ok (.ifCond .eq 9, 3) := by decide +kernel
theorem dX6_text_8 : decode cX6_text 8 = .ok (.iload_n 2, 1) := by decide +kernel
theorem dX6_text_9 : decode cX6_text 9 = .ok (.bipush 80, 2) := by decide +kernel
theorem dX6_text_11 : decode cX6_text 11 = .ok (.if_icmp .le 5, 3) := by decide +kernel
theorem dX6_text_14 : decode cX6_text 14 = .ok (.iconst (-1), 1) := by decide +kernel
theorem dX6_text_15 : decode cX6_text 15 = .ok (.ireturn, 1) := by decide +kernel
theorem dX6_text_16 : decode cX6_text 16 = .ok (.iload_n 2, 1) := by decide +kernel
theorem dX6_text_17 : decode cX6_text 17 = .ok (.ifCond .ge 9, 3) := by decide +kernel
theorem dX6_text_20 : decode cX6_text 20 = .ok (.aload_n 0, 1) := by decide +kernel
theorem dX6_text_21 : decode cX6_text 21 = .ok (.iconst 5, 1) := by decide +kernel
theorem dX6_text_22 : decode cX6_text 22 = .ok (.invokevirtual 68, 3) := by decide +kernel
theorem dX6_text_25 : decode cX6_text 25 = .ok (.ireturn, 1) := by decide +kernel
theorem dX6_text_26 : decode cX6_text 26 = .ok (.aload_n 0, 1) := by decide +kernel
theorem dX6_text_27 : decode cX6_text 27 = .ok (.getfield 15, 3) := by decide +kernel
theorem dX6_text_30 : decode cX6_text 30 = .ok (.iload_n 1, 1) := by decide +kernel
theorem dX6_text_31 : decode cX6_text 31 = .ok (.aaload, 1) := by decide +kernel
theorem dX6_text_32 : decode cX6_text 32 = .ok (.iload_n 2, 1) := by decide +kernel
theorem dX6_text_33 : decode cX6_text 33 = .ok (.bipush 32, 2) := by decide +kernel
theorem dX6_text_35 : decode cX6_text 35 = .ok (.invokevirtual 72, 3) := by decide +kernel
theorem dX6_text_38 : decode cX6_text 38 = .ok (.iload_n 2, 1) := by decide +kernel
theorem dX6_text_39 : decode cX6_text 39 = .ok (.ireturn, 1) := by decide +kernel
theorem dX6_put_0 : decode cX6_put 0 = .ok (.iload_n 1, 1) := by decide +kernel
theorem dX6_put_1 : decode cX6_put 1 = .ok (.iconst 4, 1) := by decide +kernel
theorem dX6_put_2 : decode cX6_put 2 = .ok (.invokestatic 64, 3) := by decide +kernel
theorem dX6_put_5 : decode cX6_put 5 = .ok (.ifCond .ne 5, 3) := by decide +kernel
theorem dX6_put_8 : decode cX6_put 8 = .ok (.iconst (-1), 1) := by decide +kernel
theorem dX6_put_9 : decode cX6_put 9 = .ok (.ireturn, 1) := by decide +kernel
theorem dX6_put_10 : decode cX6_put 10 = .ok (.aload_n 0, 1) := by decide +kernel
theorem dX6_put_11 : decode cX6_put 11 = .ok (.aload_n 0, 1) := by decide +kernel
theorem dX6_put_12 : decode cX6_put 12 = .ok (.getfield 15, 3) := by decide +kernel
theorem dX6_put_15 : decode cX6_put 15 = .ok (.iload_n 1, 1) := by decide +kernel
theorem dX6_put_16 : decode cX6_put 16 = .ok (.aaload, 1) := by decide +kernel
theorem dX6_put_17 : decode cX6_put 17 = .ok (.iload_n 2, 1) := by decide +kernel
theorem dX6_put_18 : decode cX6_put 18 = .ok (.invokevirtual 76, 3) := by decide +kernel
theorem dX6_put_21 : decode cX6_put 21 = .ok (.istore 4, 2) := by decide +kernel
theorem dX6_put_23 : decode cX6_put 23 = .ok (.iload 4, 2) := by decide +kernel
theorem dX6_put_25 : decode cX6_put 25 = .ok (.ifCond .eq 10, 3) := by decide +kernel
theorem dX6_put_28 : decode cX6_put 28 = .ok (.aload_n 0, 1) := by decide +kernel
theorem dX6_put_29 : decode cX6_put 29 = .ok (.iload 4, 2) := by decide +kernel
theorem dX6_put_31 : decode cX6_put 31 = .ok (.invokevirtual 68, 3) := by decide +kernel
theorem dX6_put_34 : decode cX6_put 34 = .ok (.ireturn, 1) := by decide +kernel
theorem dX6_put_35 : decode cX6_put 35 = .ok (.sipush 1000, 3) := by decide +kernel
theorem dX6_put_38 : decode cX6_put 38 = .ok (.aload_n 0, 1) := by decide +kernel
theorem dX6_put_39 : decode cX6_put 39 = .ok (.getfield 15, 3) := by decide +kernel
theorem dX6_put_42 : decode cX6_put 42 = .ok (.iload_n 1, 1) := by decide +kernel
theorem dX6_put_43 : decode cX6_put 43 = .ok (.aaload, 1) := by decide +kernel
theorem dX6_put_44 : decode cX6_put 44 = .ok (.iload_n 2, 1) := by decide +kernel
theorem dX6_put_45 : decode cX6_put 45 = .ok (.iload_n 3, 1) := by decide +kernel
theorem dX6_put_46 : decode cX6_put 46 = .ok (.i2b, 1) := by decide +kernel
theorem dX6_put_47 : decode cX6_put 47 = .ok (.invokevirtual 80, 3) := by decide +kernel
theorem dX6_put_50 : decode cX6_put 50 = .ok (.iadd, 1) := by decide +kernel
theorem dX6_put_51 : decode cX6_put 51 = .ok (.ireturn, 1) := by decide +kernel
theorem dX6_fault_0 : decode cX6_fault 0 = .ok (.iload_n 1, 1) := by decide +kernel
theorem dX6_fault_1 : decode cX6_fault 1 = .ok (.iconst 4, 1) := by decide +kernel
theorem dX6_fault_2 : decode cX6_fault 2 = .ok (.invokestatic 64, 3) := by decide +kernel
theorem dX6_fault_5 : decode cX6_fault 5 = .ok (.ifCond .ne 5, 3) := by decide +kernel
theorem dX6_fault_8 : decode cX6_fault 8 = .ok (.iconst (-1), 1) := by decide +kernel
theorem dX6_fault_9 : decode cX6_fault 9 = .ok (.ireturn, 1) := by decide +kernel
theorem dX6_fault_10 : decode cX6_fault 10 = .ok (.aload_n 0, 1) := by decide +kernel
theorem dX6_fault_11 : decode cX6_fault 11 = .ok (.getfield 15, 3) := by decide +kernel
theorem dX6_fault_14 : decode cX6_fault 14 = .ok (.iload_n 1, 1) := by decide +kernel
theorem dX6_fault_15 : decode cX6_fault 15 = .ok (.aaload, 1) := by decide +kernel
theorem dX6_fault_16 : decode cX6_fault 16 = .ok (.invokevirtual 90, 3) := by decide +kernel
theorem dX6_fault_19 : decode cX6_fault 19 = .ok (.ifCond .ne 9, 3) := by decide +kernel
theorem dX6_fault_22 : decode cX6_fault 22 = .ok (.aload_n 0, 1) := by decide +kernel
theorem dX6_fault_23 : decode cX6_fault 23 = .ok (.iconst 1, 1) := by decide +kernel
theorem dX6_fault_24 : decode cX6_fault 24 = .ok (.invokevirtual 68, 3) := by decide +kernel
theorem dX6_fault_27 : decode cX6_fault 27 = .ok (.ireturn, 1) := by decide +kernel
theorem dX6_fault_28 : decode cX6_fault 28 = .ok (.aload_n 0, 1) := by decide +kernel
theorem dX6_fault_29 : decode cX6_fault 29 = .ok (.getfield 39, 3) := by decide +kernel
theorem dX6_fault_32 : decode cX6_fault 32 = .ok (.aload_n 0, 1) := by decide +kernel
theorem dX6_fault_33 : decode cX6_fault 33 = .ok (.getfield 15, 3) := by decide +kernel
theorem dX6_fault_36 : decode cX6_fault 36 = .ok (.iload_n 1, 1) := by decide +kernel
theorem dX6_fault_37 : decode cX6_fault 37 = .ok (.aaload, 1) := by decide +kernel
theorem dX6_fault_38 : decode cX6_fault 38 = .ok (.invokevirtual 112, 3) := by decide +kernel
theorem dX6_fault_41 : decode cX6_fault 41 = .ok (.ireturn, 1) := by decide +kernel
theorem dX6_market_0 : decode cX6_market 0 = .ok (.iload_n 1, 1) := by decide +kernel
theorem dX6_market_1 : decode cX6_market 1 = .ok (.iconst 4, 1) := by decide +kernel
theorem dX6_market_2 : decode cX6_market 2 = .ok (.invokestatic 64, 3) := by decide +kernel
theorem dX6_market_5 : decode cX6_market 5 = .ok (.ifCond .ne 5, 3) := by decide +kernel
theorem dX6_market_8 : decode cX6_market 8 = .ok (.iconst (-1), 1) := by decide +kernel
theorem dX6_market_9 : decode cX6_market 9 = .ok (.ireturn, 1) := by decide +kernel
theorem dX6_market_10 : decode cX6_market 10 = .ok (.aload_n 0, 1) := by decide +kernel
theorem dX6_market_11 : decode cX6_market 11 = .ok (.getfield 15, 3) := by decide +kernel
theorem dX6_market_14 : decode cX6_market 14 = .ok (.iload_n 1, 1) := by decide +kernel
theorem dX6_market_15 : decode cX6_market 15 = .ok (.aaload, 1) := by decide +kernel
theorem dX6_market_16 : decode cX6_market 16 = .ok (.invokevirtual 90, 3) := by decide +kernel
theorem dX6_market_19 : decode cX6_market 19 = .ok (.ifCond .ne 9, 3) := by decide +kernel
theorem dX6_market_22 : decode cX6_market 22 = .ok (.aload_n 0, 1) := by decide +kernel
theorem dX6_market_23 : decode cX6_market 23 = .ok (.iconst 1, 1) := by decide +kernel
theorem dX6_market_24 : decode cX6_market 24 = .ok (.invokevirtual 68, 3) := by decide +kernel
theorem dX6_market_27 : decode cX6_market 27 = .ok (.ireturn, 1) := by decide +kernel
theorem dX6_market_28 : decode cX6_market 28 = .ok (.aload_n 0, 1) := by decide +kernel
theorem dX6_market_29 : decode cX6_market 29 = .ok (.getfield 39, 3) := by decide +kernel
theorem dX6_market_32 : decode cX6_market 32 = .ok (.aload_n 0, 1) := by decide +kernel
theorem dX6_market_33 : decode cX6_market 33 = .ok (.getfield 15, 3) := by decide +kernel
theorem dX6_market_36 : decode cX6_market 36 = .ok (.iload_n 1, 1) := by decide +kernel
theorem dX6_market_37 : decode cX6_market 37 = .ok (.aaload, 1) := by decide +kernel
theorem dX6_market_38 : decode cX6_market 38 = .ok (.invokevirtual 112, 3) := by decide +kernel
theorem dX6_market_41 : decode cX6_market 41 = .ok (.bipush (-9), 2) := by decide +kernel
theorem dX6_market_43 : decode cX6_market 43 = .ok (.if_icmp .eq 6, 3) := by decide +kernel
theorem dX6_market_46 : decode cX6_market 46 = .ok (.bipush (-4), 2) := by decide +kernel
theorem dX6_market_48 : decode cX6_market 48 = .ok (.ireturn, 1) := by decide +kernel
theorem dX6_market_49 : decode cX6_market 49 = .ok (.aload_n 0, 1) := by decide +kernel
theorem dX6_market_50 : decode cX6_market 50 = .ok (.getfield 21, 3) := by decide +kernel
theorem dX6_market_53 : decode cX6_market 53 = .ok (.aload_n 0, 1) := by decide +kernel
theorem dX6_market_54 : decode cX6_market 54 = .ok (.getfield 39, 3) := by decide +kernel
theorem dX6_market_57 : decode cX6_market 57 = .ok (.getfield 116, 3) := by decide +kernel
theorem dX6_market_60 : decode cX6_market 60 = .ok (.invokevirtual 119, 3) := by decide +kernel
theorem dX6_market_63 : decode cX6_market 63 = .ok (.aload_n 0, 1) := by decide +kernel
theorem dX6_market_64 : decode cX6_market 64 = .ok (.getfield 21, 3) := by decide +kernel
theorem dX6_market_67 : decode cX6_market 67 = .ok (.invokevirtual 123, 3) := by decide +kernel
theorem dX6_market_70 : decode cX6_market 70 = .ok (.aload_n 0, 1) := by decide +kernel
theorem dX6_market_71 : decode cX6_market 71 = .ok (.getfield 32, 3) := by decide +kernel
theorem dX6_market_74 : decode cX6_market 74 = .ok (.aload_n 0, 1) := by decide +kernel
theorem dX6_market_75 : decode cX6_market 75 = .ok (.getfield 21, 3) := by decide +kernel
theorem dX6_market_78 : decode cX6_market 78 = .ok (.getfield 126, 3) := by decide +kernel
theorem dX6_market_81 : decode cX6_market 81 = .ok (.invokevirtual 130, 3) := by decide +kernel
theorem dX6_market_84 : decode cX6_market 84 = .ok (.iconst 0, 1) := by decide +kernel
theorem dX6_market_85 : decode cX6_market 85 = .ok (.istore_n 2, 1) := by decide +kernel
theorem dX6_market_86 : decode cX6_market 86 = .ok (.iload_n 2, 1) := by decide +kernel
theorem dX6_market_87 : decode cX6_market 87 = .ok (.iconst 3, 1) := by decide +kernel
theorem dX6_market_88 : decode cX6_market 88 = .ok (.if_icmp .ge 18, 3) := by decide +kernel
theorem dX6_market_91 : decode cX6_market 91 = .ok (.aload_n 0, 1) := by decide +kernel
theorem dX6_market_92 : decode cX6_market 92 = .ok (.getfield 25, 3) := by decide +kernel
theorem dX6_market_95 : decode cX6_market 95 = .ok (.iload_n 2, 1) := by decide +kernel
theorem dX6_market_96 : decode cX6_market 96 = .ok (.aaload, 1) := by decide +kernel
theorem dX6_market_97 : decode cX6_market 97 = .ok (.invokevirtual 133, 3) := by decide +kernel
theorem dX6_market_100 : decode cX6_market 100 = .ok (.iinc 2 1, 3) := by decide +kernel
theorem dX6_market_103 : decode cX6_market 103 = .ok (.goto (-17), 3) := by decide +kernel
theorem dX6_market_106 : decode cX6_market 106 = .ok (.aload_n 0, 1) := by decide +kernel
theorem dX6_market_107 : decode cX6_market 107 = .ok (.getfield 21, 3) := by decide +kernel
theorem dX6_market_110 : decode cX6_market 110 = .ok (.getfield 136, 3) := by decide +kernel
theorem dX6_market_113 : decode cX6_market 113 = .ok (.ireturn, 1) := by decide +kernel
theorem dX6_buyer_0 : decode cX6_buyer 0 = .ok (.aload_n 0, 1) := by decide +kernel
theorem dX6_buyer_1 : decode cX6_buyer 1 = .ok (.iload_n 1, 1) := by decide +kernel
theorem dX6_buyer_2 : decode cX6_buyer 2 = .ok (.invokevirtual 139, 3) := by decide +kernel
theorem dX6_buyer_5 : decode cX6_buyer 5 = .ok (.ifCond .eq 11, 3) := by decide +kernel
theorem dX6_buyer_8 : decode cX6_buyer 8 = .ok (.iload_n 2, 1) := by decide +kernel
theorem dX6_buyer_9 : decode cX6_buyer 9 = .ok (.iconst 4, 1) := by decide +kernel
theorem dX6_buyer_10 : decode cX6_buyer 10 = .ok (.invokestatic 64, 3) := by decide +kernel
theorem dX6_buyer_13 : decode cX6_buyer 13 = .ok (.ifCond .ne 5, 3) := by decide +kernel
theorem dX6_buyer_16 : decode cX6_buyer 16 = .ok (.iconst (-1), 1) := by decide +kernel
theorem dX6_buyer_17 : decode cX6_buyer 17 = .ok (.ireturn, 1) := by decide +kernel
theorem dX6_buyer_18 : decode cX6_buyer 18 = .ok (.aload_n 0, 1) := by decide +kernel
theorem dX6_buyer_19 : decode cX6_buyer 19 = .ok (.aload_n 0, 1) := by decide +kernel
theorem dX6_buyer_20 : decode cX6_buyer 20 = .ok (.getfield 21, 3) := by decide +kernel
theorem dX6_buyer_23 : decode cX6_buyer 23 = .ok (.iload_n 1, 1) := by decide +kernel
theorem dX6_buyer_24 : decode cX6_buyer 24 = .ok (.iload_n 2, 1) := by decide +kernel
theorem dX6_buyer_25 : decode cX6_buyer 25 = .ok (.invokevirtual 143, 3) := by decide +kernel
theorem dX6_buyer_28 : decode cX6_buyer 28 = .ok (.invokevirtual 84, 3) := by decide +kernel
theorem dX6_buyer_31 : decode cX6_buyer 31 = .ok (.ireturn, 1) := by decide +kernel
theorem dX6_stall_0 : decode cX6_stall 0 = .ok (.aload_n 0, 1) := by decide +kernel
theorem dX6_stall_1 : decode cX6_stall 1 = .ok (.iload_n 1, 1) := by decide +kernel
theorem dX6_stall_2 : decode cX6_stall 2 = .ok (.invokevirtual 146, 3) := by decide +kernel
theorem dX6_stall_5 : decode cX6_stall 5 = .ok (.ifCond .eq 11, 3) := by decide +kernel
theorem dX6_stall_8 : decode cX6_stall 8 = .ok (.iload_n 2, 1) := by decide +kernel
theorem dX6_stall_9 : decode cX6_stall 9 = .ok (.iconst 4, 1) := by decide +kernel
theorem dX6_stall_10 : decode cX6_stall 10 = .ok (.invokestatic 64, 3) := by decide +kernel
theorem dX6_stall_13 : decode cX6_stall 13 = .ok (.ifCond .ne 5, 3) := by decide +kernel
theorem dX6_stall_16 : decode cX6_stall 16 = .ok (.iconst (-1), 1) := by decide +kernel
theorem dX6_stall_17 : decode cX6_stall 17 = .ok (.ireturn, 1) := by decide +kernel
theorem dX6_stall_18 : decode cX6_stall 18 = .ok (.aload_n 0, 1) := by decide +kernel
theorem dX6_stall_19 : decode cX6_stall 19 = .ok (.aload_n 0, 1) := by decide +kernel
theorem dX6_stall_20 : decode cX6_stall 20 = .ok (.getfield 21, 3) := by decide +kernel
theorem dX6_stall_23 : decode cX6_stall 23 = .ok (.iload_n 1, 1) := by decide +kernel
theorem dX6_stall_24 : decode cX6_stall 24 = .ok (.iload_n 2, 1) := by decide +kernel
theorem dX6_stall_25 : decode cX6_stall 25 = .ok (.invokevirtual 149, 3) := by decide +kernel
theorem dX6_stall_28 : decode cX6_stall 28 = .ok (.invokevirtual 84, 3) := by decide +kernel
theorem dX6_stall_31 : decode cX6_stall 31 = .ok (.ireturn, 1) := by decide +kernel
theorem dX6_mark_0 : decode cX6_mark 0 = .ok (.aload_n 0, 1) := by decide +kernel
theorem dX6_mark_1 : decode cX6_mark 1 = .ok (.iload_n 1, 1) := by decide +kernel
theorem dX6_mark_2 : decode cX6_mark 2 = .ok (.invokevirtual 139, 3) := by decide +kernel
theorem dX6_mark_5 : decode cX6_mark 5 = .ok (.ifCond .eq 13, 3) := by decide +kernel
theorem dX6_mark_8 : decode cX6_mark 8 = .ok (.iload_n 2, 1) := by decide +kernel
theorem dX6_mark_9 : decode cX6_mark 9 = .ok (.iconst 1, 1) := by decide +kernel
theorem dX6_mark_10 : decode cX6_mark 10 = .ok (.if_icmp .lt 8, 3) := by decide +kernel
theorem dX6_mark_13 : decode cX6_mark 13 = .ok (.iload_n 2, 1) := by decide +kernel
theorem dX6_mark_14 : decode cX6_mark 14 = .ok (.iconst 5, 1) := by decide +kernel
theorem dX6_mark_15 : decode cX6_mark 15 = .ok (.if_icmp .le 5, 3) := by decide +kernel
theorem dX6_mark_18 : decode cX6_mark 18 = .ok (.iconst (-1), 1) := by decide +kernel
theorem dX6_mark_19 : decode cX6_mark 19 = .ok (.ireturn, 1) := by decide +kernel
theorem dX6_mark_20 : decode cX6_mark 20 = .ok (.aload_n 0, 1) := by decide +kernel
theorem dX6_mark_21 : decode cX6_mark 21 = .ok (.getfield 21, 3) := by decide +kernel
theorem dX6_mark_24 : decode cX6_mark 24 = .ok (.iload_n 1, 1) := by decide +kernel
theorem dX6_mark_25 : decode cX6_mark 25 = .ok (.iload_n 2, 1) := by decide +kernel
theorem dX6_mark_26 : decode cX6_mark 26 = .ok (.invokevirtual 152, 3) := by decide +kernel
theorem dX6_mark_29 : decode cX6_mark 29 = .ok (.ifCond .ne 9, 3) := by decide +kernel
theorem dX6_mark_32 : decode cX6_mark 32 = .ok (.aload_n 0, 1) := by decide +kernel
theorem dX6_mark_33 : decode cX6_mark 33 = .ok (.iconst 3, 1) := by decide +kernel
theorem dX6_mark_34 : decode cX6_mark 34 = .ok (.invokevirtual 68, 3) := by decide +kernel
theorem dX6_mark_37 : decode cX6_mark 37 = .ok (.ireturn, 1) := by decide +kernel
theorem dX6_mark_38 : decode cX6_mark 38 = .ok (.iload_n 2, 1) := by decide +kernel
theorem dX6_mark_39 : decode cX6_mark 39 = .ok (.tableswitch 75 1 4 #[29, 38, 47, 66], 29) := by decide +kernel
theorem dX6_mark_68 : decode cX6_mark 68 = .ok (.aload_n 0, 1) := by decide +kernel
theorem dX6_mark_69 : decode cX6_mark 69 = .ok (.getfield 21, 3) := by decide +kernel
theorem dX6_mark_72 : decode cX6_mark 72 = .ok (.iload_n 1, 1) := by decide +kernel
theorem dX6_mark_73 : decode cX6_mark 73 = .ok (.invokevirtual 155, 3) := by decide +kernel
theorem dX6_mark_76 : decode cX6_mark 76 = .ok (.ireturn, 1) := by decide +kernel
theorem dX6_mark_77 : decode cX6_mark 77 = .ok (.aload_n 0, 1) := by decide +kernel
theorem dX6_mark_78 : decode cX6_mark 78 = .ok (.getfield 21, 3) := by decide +kernel
theorem dX6_mark_81 : decode cX6_mark 81 = .ok (.iload_n 1, 1) := by decide +kernel
theorem dX6_mark_82 : decode cX6_mark 82 = .ok (.invokevirtual 158, 3) := by decide +kernel
theorem dX6_mark_85 : decode cX6_mark 85 = .ok (.ireturn, 1) := by decide +kernel
theorem dX6_mark_86 : decode cX6_mark 86 = .ok (.aload_n 0, 1) := by decide +kernel
theorem dX6_mark_87 : decode cX6_mark 87 = .ok (.getfield 21, 3) := by decide +kernel
theorem dX6_mark_90 : decode cX6_mark 90 = .ok (.aload_n 0, 1) := by decide +kernel
theorem dX6_mark_91 : decode cX6_mark 91 = .ok (.getfield 21, 3) := by decide +kernel
theorem dX6_mark_94 : decode cX6_mark 94 = .ok (.getfield 161, 3) := by decide +kernel
theorem dX6_mark_97 : decode cX6_mark 97 = .ok (.iload_n 1, 1) := by decide +kernel
theorem dX6_mark_98 : decode cX6_mark 98 = .ok (.iaload, 1) := by decide +kernel
theorem dX6_mark_99 : decode cX6_mark 99 = .ok (.bipush 8, 2) := by decide +kernel
theorem dX6_mark_101 : decode cX6_mark 101 = .ok (.invokevirtual 164, 3) := by decide +kernel
theorem dX6_mark_104 : decode cX6_mark 104 = .ok (.ireturn, 1) := by decide +kernel
theorem dX6_mark_105 : decode cX6_mark 105 = .ok (.aload_n 0, 1) := by decide +kernel
theorem dX6_mark_106 : decode cX6_mark 106 = .ok (.getfield 21, 3) := by decide +kernel
theorem dX6_mark_109 : decode cX6_mark 109 = .ok (.iload_n 1, 1) := by decide +kernel
theorem dX6_mark_110 : decode cX6_mark 110 = .ok (.invokevirtual 167, 3) := by decide +kernel
theorem dX6_mark_113 : decode cX6_mark 113 = .ok (.ireturn, 1) := by decide +kernel
theorem dX6_mark_114 : decode cX6_mark 114 = .ok (.aload_n 0, 1) := by decide +kernel
theorem dX6_mark_115 : decode cX6_mark 115 = .ok (.getfield 21, 3) := by decide +kernel
theorem dX6_mark_118 : decode cX6_mark 118 = .ok (.aload_n 0, 1) := by decide +kernel
theorem dX6_mark_119 : decode cX6_mark 119 = .ok (.getfield 21, 3) := by decide +kernel
theorem dX6_mark_122 : decode cX6_mark 122 = .ok (.getfield 161, 3) := by decide +kernel
theorem dX6_mark_125 : decode cX6_mark 125 = .ok (.iload_n 1, 1) := by decide +kernel
theorem dX6_mark_126 : decode cX6_mark 126 = .ok (.iaload, 1) := by decide +kernel
theorem dX6_mark_127 : decode cX6_mark 127 = .ok (.iconst 1, 1) := by decide +kernel
theorem dX6_mark_128 : decode cX6_mark 128 = .ok (.aload_n 0, 1) := by decide +kernel
theorem dX6_mark_129 : decode cX6_mark 129 = .ok (.getfield 21, 3) := by decide +kernel
theorem dX6_mark_132 : decode cX6_mark 132 = .ok (.getfield 170, 3) := by decide +kernel
theorem dX6_mark_135 : decode cX6_mark 135 = .ok (.iload_n 1, 1) := by decide +kernel
theorem dX6_mark_136 : decode cX6_mark 136 = .ok (.iaload, 1) := by decide +kernel
theorem dX6_mark_137 : decode cX6_mark 137 = .ok (.ishl, 1) := by decide +kernel
theorem dX6_mark_138 : decode cX6_mark 138 = .ok (.invokevirtual 164, 3) := by decide +kernel
theorem dX6_mark_141 : decode cX6_mark 141 = .ok (.ireturn, 1) := by decide +kernel
theorem dX6_want_0 : decode cX6_want 0 = .ok (.aload_n 0, 1) := by decide +kernel
theorem dX6_want_1 : decode cX6_want 1 = .ok (.iload_n 1, 1) := by decide +kernel
theorem dX6_want_2 : decode cX6_want 2 = .ok (.invokevirtual 139, 3) := by decide +kernel
theorem dX6_want_5 : decode cX6_want 5 = .ok (.ifCond .eq 11, 3) := by decide +kernel
theorem dX6_want_8 : decode cX6_want 8 = .ok (.iload_n 2, 1) := by decide +kernel
theorem dX6_want_9 : decode cX6_want 9 = .ok (.iconst 5, 1) := by decide +kernel
theorem dX6_want_10 : decode cX6_want 10 = .ok (.invokestatic 64, 3) := by decide +kernel
theorem dX6_want_13 : decode cX6_want 13 = .ok (.ifCond .ne 5, 3) := by decide +kernel
theorem dX6_want_16 : decode cX6_want 16 = .ok (.iconst (-1), 1) := by decide +kernel
theorem dX6_want_17 : decode cX6_want 17 = .ok (.ireturn, 1) := by decide +kernel
theorem dX6_want_18 : decode cX6_want 18 = .ok (.aload_n 0, 1) := by decide +kernel
theorem dX6_want_19 : decode cX6_want 19 = .ok (.getfield 21, 3) := by decide +kernel
theorem dX6_want_22 : decode cX6_want 22 = .ok (.getfield 170, 3) := by decide +kernel
theorem dX6_want_25 : decode cX6_want 25 = .ok (.iload_n 1, 1) := by decide +kernel
theorem dX6_want_26 : decode cX6_want 26 = .ok (.iaload, 1) := by decide +kernel
theorem dX6_want_27 : decode cX6_want 27 = .ok (.istore_n 3, 1) := by decide +kernel
theorem dX6_want_28 : decode cX6_want 28 = .ok (.aload_n 0, 1) := by decide +kernel
theorem dX6_want_29 : decode cX6_want 29 = .ok (.getfield 21, 3) := by decide +kernel
theorem dX6_want_32 : decode cX6_want 32 = .ok (.getfield 170, 3) := by decide +kernel
theorem dX6_want_35 : decode cX6_want 35 = .ok (.iload_n 1, 1) := by decide +kernel
theorem dX6_want_36 : decode cX6_want 36 = .ok (.iload_n 2, 1) := by decide +kernel
theorem dX6_want_37 : decode cX6_want 37 = .ok (.iastore, 1) := by decide +kernel
theorem dX6_want_38 : decode cX6_want 38 = .ok (.iload_n 3, 1) := by decide +kernel
theorem dX6_want_39 : decode cX6_want 39 = .ok (.ireturn, 1) := by decide +kernel
theorem dX6_price_0 : decode cX6_price 0 = .ok (.aload_n 0, 1) := by decide +kernel
theorem dX6_price_1 : decode cX6_price 1 = .ok (.iload_n 1, 1) := by decide +kernel
theorem dX6_price_2 : decode cX6_price 2 = .ok (.invokevirtual 146, 3) := by decide +kernel
theorem dX6_price_5 : decode cX6_price 5 = .ok (.ifCond .eq 13, 3) := by decide +kernel
theorem dX6_price_8 : decode cX6_price 8 = .ok (.iload_n 2, 1) := by decide +kernel
theorem dX6_price_9 : decode cX6_price 9 = .ok (.ifCond .lt 9, 3) := by decide +kernel
theorem dX6_price_12 : decode cX6_price 12 = .ok (.iload_n 2, 1) := by decide +kernel
theorem dX6_price_13 : decode cX6_price 13 = .ok (.bipush 99, 2) := by decide +kernel
theorem dX6_price_15 : decode cX6_price 15 = .ok (.if_icmp .le 5, 3) := by decide +kernel
theorem dX6_price_18 : decode cX6_price 18 = .ok (.iconst (-1), 1) := by decide +kernel
theorem dX6_price_19 : decode cX6_price 19 = .ok (.ireturn, 1) := by decide +kernel
theorem dX6_price_20 : decode cX6_price 20 = .ok (.aload_n 0, 1) := by decide +kernel
theorem dX6_price_21 : decode cX6_price 21 = .ok (.getfield 21, 3) := by decide +kernel
theorem dX6_price_24 : decode cX6_price 24 = .ok (.getfield 173, 3) := by decide +kernel
theorem dX6_price_27 : decode cX6_price 27 = .ok (.iload_n 1, 1) := by decide +kernel
theorem dX6_price_28 : decode cX6_price 28 = .ok (.iaload, 1) := by decide +kernel
theorem dX6_price_29 : decode cX6_price 29 = .ok (.istore_n 3, 1) := by decide +kernel
theorem dX6_price_30 : decode cX6_price 30 = .ok (.aload_n 0, 1) := by decide +kernel
theorem dX6_price_31 : decode cX6_price 31 = .ok (.getfield 21, 3) := by decide +kernel
theorem dX6_price_34 : decode cX6_price 34 = .ok (.getfield 173, 3) := by decide +kernel
theorem dX6_price_37 : decode cX6_price 37 = .ok (.iload_n 1, 1) := by decide +kernel
theorem dX6_price_38 : decode cX6_price 38 = .ok (.iload_n 2, 1) := by decide +kernel
theorem dX6_price_39 : decode cX6_price 39 = .ok (.iastore, 1) := by decide +kernel
theorem dX6_price_40 : decode cX6_price 40 = .ok (.iload_n 3, 1) := by decide +kernel
theorem dX6_price_41 : decode cX6_price 41 = .ok (.ireturn, 1) := by decide +kernel
theorem dX6_wish_0 : decode cX6_wish 0 = .ok (.aload_n 0, 1) := by decide +kernel
theorem dX6_wish_1 : decode cX6_wish 1 = .ok (.iload_n 1, 1) := by decide +kernel
theorem dX6_wish_2 : decode cX6_wish 2 = .ok (.invokevirtual 139, 3) := by decide +kernel
theorem dX6_wish_5 : decode cX6_wish 5 = .ok (.ifCond .ne 5, 3) := by decide +kernel
theorem dX6_wish_8 : decode cX6_wish 8 = .ok (.iconst (-1), 1) := by decide +kernel
theorem dX6_wish_9 : decode cX6_wish 9 = .ok (.ireturn, 1) := by decide +kernel
theorem dX6_wish_10 : decode cX6_wish 10 = .ok (.aload_n 0, 1) := by decide +kernel
theorem dX6_wish_11 : decode cX6_wish 11 = .ok (.aload_n 0, 1) := by decide +kernel
theorem dX6_wish_12 : decode cX6_wish 12 = .ok (.getfield 21, 3) := by decide +kernel
theorem dX6_wish_15 : decode cX6_wish 15 = .ok (.iload_n 1, 1) := by decide +kernel
theorem dX6_wish_16 : decode cX6_wish 16 = .ok (.invokevirtual 176, 3) := by decide +kernel
theorem dX6_wish_19 : decode cX6_wish 19 = .ok (.invokevirtual 84, 3) := by decide +kernel
theorem dX6_wish_22 : decode cX6_wish 22 = .ok (.ireturn, 1) := by decide +kernel
theorem dX6_minutes_0 : decode cX6_minutes 0 = .ok (.iload_n 1, 1) := by decide +kernel
theorem dX6_minutes_1 : decode cX6_minutes 1 = .ok (.bipush 20, 2) := by decide +kernel
theorem dX6_minutes_3 : decode cX6_minutes 3 = .ok (.invokestatic 179, 3) := by decide +kernel
theorem dX6_minutes_6 : decode cX6_minutes 6 = .ok (.ifCond .ne 5, 3) := by decide +kernel
theorem dX6_minutes_9 : decode cX6_minutes 9 = .ok (.iconst (-1), 1) := by decide +kernel
theorem dX6_minutes_10 : decode cX6_minutes 10 = .ok (.ireturn, 1) := by decide +kernel
theorem dX6_minutes_11 : decode cX6_minutes 11 = .ok (.aload_n 0, 1) := by decide +kernel
theorem dX6_minutes_12 : decode cX6_minutes 12 = .ok (.getfield 21, 3) := by decide +kernel
theorem dX6_minutes_15 : decode cX6_minutes 15 = .ok (.getfield 136, 3) := by decide +kernel
theorem dX6_minutes_18 : decode cX6_minutes 18 = .ok (.ifCond .ne 6, 3) := by decide +kernel
theorem dX6_minutes_21 : decode cX6_minutes 21 = .ok (.bipush (-4), 2) := by decide +kernel
theorem dX6_minutes_23 : decode cX6_minutes 23 = .ok (.ireturn, 1) := by decide +kernel
theorem dX6_minutes_24 : decode cX6_minutes 24 = .ok (.aload_n 0, 1) := by decide +kernel
theorem dX6_minutes_25 : decode cX6_minutes 25 = .ok (.getfield 21, 3) := by decide +kernel
theorem dX6_minutes_28 : decode cX6_minutes 28 = .ok (.getfield 126, 3) := by decide +kernel
theorem dX6_minutes_31 : decode cX6_minutes 31 = .ok (.iload_n 1, 1) := by decide +kernel
theorem dX6_minutes_32 : decode cX6_minutes 32 = .ok (.iadd, 1) := by decide +kernel
theorem dX6_minutes_33 : decode cX6_minutes 33 = .ok (.bipush 60, 2) := by decide +kernel
theorem dX6_minutes_35 : decode cX6_minutes 35 = .ok (.if_icmp .le 6, 3) := by decide +kernel
theorem dX6_minutes_38 : decode cX6_minutes 38 = .ok (.bipush (-2), 2) := by decide +kernel
theorem dX6_minutes_40 : decode cX6_minutes 40 = .ok (.ireturn, 1) := by decide +kernel
theorem dX6_minutes_41 : decode cX6_minutes 41 = .ok (.iconst 0, 1) := by decide +kernel
theorem dX6_minutes_42 : decode cX6_minutes 42 = .ok (.istore_n 2, 1) := by decide +kernel
theorem dX6_minutes_43 : decode cX6_minutes 43 = .ok (.iconst 0, 1) := by decide +kernel
theorem dX6_minutes_44 : decode cX6_minutes 44 = .ok (.istore_n 3, 1) := by decide +kernel
theorem dX6_minutes_45 : decode cX6_minutes 45 = .ok (.iload_n 3, 1) := by decide +kernel
theorem dX6_minutes_46 : decode cX6_minutes 46 = .ok (.iload_n 1, 1) := by decide +kernel
theorem dX6_minutes_47 : decode cX6_minutes 47 = .ok (.if_icmp .ge 31, 3) := by decide +kernel
theorem dX6_minutes_50 : decode cX6_minutes 50 = .ok (.aload_n 0, 1) := by decide +kernel
theorem dX6_minutes_51 : decode cX6_minutes 51 = .ok (.getfield 32, 3) := by decide +kernel
theorem dX6_minutes_54 : decode cX6_minutes 54 = .ok (.aload_n 0, 1) := by decide +kernel
theorem dX6_minutes_55 : decode cX6_minutes 55 = .ok (.getfield 21, 3) := by decide +kernel
theorem dX6_minutes_58 : decode cX6_minutes 58 = .ok (.invokevirtual 182, 3) := by decide +kernel
theorem dX6_minutes_61 : decode cX6_minutes 61 = .ok (.iload_n 2, 1) := by decide +kernel
theorem dX6_minutes_62 : decode cX6_minutes 62 = .ok (.aload_n 0, 1) := by decide +kernel
theorem dX6_minutes_63 : decode cX6_minutes 63 = .ok (.getfield 21, 3) := by decide +kernel
theorem dX6_minutes_66 : decode cX6_minutes 66 = .ok (.iconst 0, 1) := by decide +kernel
theorem dX6_minutes_67 : decode cX6_minutes 67 = .ok (.invokevirtual 185, 3) := by decide +kernel
theorem dX6_minutes_70 : decode cX6_minutes 70 = .ok (.iadd, 1) := by decide +kernel
theorem dX6_minutes_71 : decode cX6_minutes 71 = .ok (.istore_n 2, 1) := by decide +kernel
theorem dX6_minutes_72 : decode cX6_minutes 72 = .ok (.iinc 3 1, 3) := by decide +kernel
theorem dX6_minutes_75 : decode cX6_minutes 75 = .ok (.goto (-30), 3) := by decide +kernel
theorem dX6_minutes_78 : decode cX6_minutes 78 = .ok (.iload_n 2, 1) := by decide +kernel
theorem dX6_minutes_79 : decode cX6_minutes 79 = .ok (.ireturn, 1) := by decide +kernel
theorem dX6_undo_0 : decode cX6_undo 0 = .ok (.iload_n 1, 1) := by decide +kernel
theorem dX6_undo_1 : decode cX6_undo 1 = .ok (.aload_n 0, 1) := by decide +kernel
theorem dX6_undo_2 : decode cX6_undo 2 = .ok (.getfield 32, 3) := by decide +kernel
theorem dX6_undo_5 : decode cX6_undo 5 = .ok (.invokevirtual 188, 3) := by decide +kernel
theorem dX6_undo_8 : decode cX6_undo 8 = .ok (.if_icmp .lt 14, 3) := by decide +kernel
theorem dX6_undo_11 : decode cX6_undo 11 = .ok (.iload_n 1, 1) := by decide +kernel
theorem dX6_undo_12 : decode cX6_undo 12 = .ok (.aload_n 0, 1) := by decide +kernel
theorem dX6_undo_13 : decode cX6_undo 13 = .ok (.getfield 21, 3) := by decide +kernel
theorem dX6_undo_16 : decode cX6_undo 16 = .ok (.getfield 126, 3) := by decide +kernel
theorem dX6_undo_19 : decode cX6_undo 19 = .ok (.if_icmp .le 5, 3) := by decide +kernel
theorem dX6_undo_22 : decode cX6_undo 22 = .ok (.iconst (-1), 1) := by decide +kernel
theorem dX6_undo_23 : decode cX6_undo 23 = .ok (.ireturn, 1) := by decide +kernel
theorem dX6_undo_24 : decode cX6_undo 24 = .ok (.aload_n 0, 1) := by decide +kernel
theorem dX6_undo_25 : decode cX6_undo 25 = .ok (.getfield 21, 3) := by decide +kernel
theorem dX6_undo_28 : decode cX6_undo 28 = .ok (.getfield 126, 3) := by decide +kernel
theorem dX6_undo_31 : decode cX6_undo 31 = .ok (.iload_n 1, 1) := by decide +kernel
theorem dX6_undo_32 : decode cX6_undo 32 = .ok (.isub, 1) := by decide +kernel
theorem dX6_undo_33 : decode cX6_undo 33 = .ok (.istore_n 2, 1) := by decide +kernel
theorem dX6_undo_34 : decode cX6_undo 34 = .ok (.iload_n 2, 1) := by decide +kernel
theorem dX6_undo_35 : decode cX6_undo 35 = .ok (.ifCond .le 15, 3) := by decide +kernel
theorem dX6_undo_38 : decode cX6_undo 38 = .ok (.aload_n 0, 1) := by decide +kernel
theorem dX6_undo_39 : decode cX6_undo 39 = .ok (.getfield 32, 3) := by decide +kernel
theorem dX6_undo_42 : decode cX6_undo 42 = .ok (.aload_n 0, 1) := by decide +kernel
theorem dX6_undo_43 : decode cX6_undo 43 = .ok (.getfield 21, 3) := by decide +kernel
theorem dX6_undo_46 : decode cX6_undo 46 = .ok (.iload_n 1, 1) := by decide +kernel
theorem dX6_undo_47 : decode cX6_undo 47 = .ok (.invokevirtual 191, 3) := by decide +kernel
theorem dX6_undo_50 : decode cX6_undo 50 = .ok (.iload_n 2, 1) := by decide +kernel
theorem dX6_undo_51 : decode cX6_undo 51 = .ok (.ireturn, 1) := by decide +kernel
theorem dX6_turn_0 : decode cX6_turn 0 = .ok (.iload_n 1, 1) := by decide +kernel
theorem dX6_turn_1 : decode cX6_turn 1 = .ok (.ifCond .eq 10, 3) := by decide +kernel
theorem dX6_turn_4 : decode cX6_turn 4 = .ok (.iload_n 1, 1) := by decide +kernel
theorem dX6_turn_5 : decode cX6_turn 5 = .ok (.iconst 1, 1) := by decide +kernel
theorem dX6_turn_6 : decode cX6_turn 6 = .ok (.if_icmp .eq 5, 3) := by decide +kernel
theorem dX6_turn_9 : decode cX6_turn 9 = .ok (.iconst (-1), 1) := by decide +kernel
theorem dX6_turn_10 : decode cX6_turn 10 = .ok (.ireturn, 1) := by decide +kernel
theorem dX6_turn_11 : decode cX6_turn 11 = .ok (.aload_n 0, 1) := by decide +kernel
theorem dX6_turn_12 : decode cX6_turn 12 = .ok (.getfield 21, 3) := by decide +kernel
theorem dX6_turn_15 : decode cX6_turn 15 = .ok (.getfield 136, 3) := by decide +kernel
theorem dX6_turn_18 : decode cX6_turn 18 = .ok (.ifCond .ne 6, 3) := by decide +kernel
theorem dX6_turn_21 : decode cX6_turn 21 = .ok (.bipush (-4), 2) := by decide +kernel
theorem dX6_turn_23 : decode cX6_turn 23 = .ok (.ireturn, 1) := by decide +kernel
theorem dX6_turn_24 : decode cX6_turn 24 = .ok (.aload_n 0, 1) := by decide +kernel
theorem dX6_turn_25 : decode cX6_turn 25 = .ok (.getfield 21, 3) := by decide +kernel
theorem dX6_turn_28 : decode cX6_turn 28 = .ok (.iload_n 1, 1) := by decide +kernel
theorem dX6_turn_29 : decode cX6_turn 29 = .ok (.ifCond .ne 7, 3) := by decide +kernel
theorem dX6_turn_32 : decode cX6_turn 32 = .ok (.iconst (-1), 1) := by decide +kernel
theorem dX6_turn_33 : decode cX6_turn 33 = .ok (.goto 4, 3) := by decide +kernel
theorem dX6_turn_36 : decode cX6_turn 36 = .ok (.iconst 1, 1) := by decide +kernel
theorem dX6_turn_37 : decode cX6_turn 37 = .ok (.invokevirtual 195, 3) := by decide +kernel
theorem dX6_turn_40 : decode cX6_turn 40 = .ok (.ifCond .eq 7, 3) := by decide +kernel
theorem dX6_turn_43 : decode cX6_turn 43 = .ok (.iconst 1, 1) := by decide +kernel
theorem dX6_turn_44 : decode cX6_turn 44 = .ok (.goto 4, 3) := by decide +kernel
theorem dX6_turn_47 : decode cX6_turn 47 = .ok (.iconst 0, 1) := by decide +kernel
theorem dX6_turn_48 : decode cX6_turn 48 = .ok (.ireturn, 1) := by decide +kernel
theorem dX6_shade_0 : decode cX6_shade 0 = .ok (.aload_n 0, 1) := by decide +kernel
theorem dX6_shade_1 : decode cX6_shade 1 = .ok (.getfield 21, 3) := by decide +kernel
theorem dX6_shade_4 : decode cX6_shade 4 = .ok (.getfield 136, 3) := by decide +kernel
theorem dX6_shade_7 : decode cX6_shade 7 = .ok (.ifCond .ne 6, 3) := by decide +kernel
theorem dX6_shade_10 : decode cX6_shade 10 = .ok (.bipush (-4), 2) := by decide +kernel
theorem dX6_shade_12 : decode cX6_shade 12 = .ok (.ireturn, 1) := by decide +kernel
theorem dX6_shade_13 : decode cX6_shade 13 = .ok (.aload_n 0, 1) := by decide +kernel
theorem dX6_shade_14 : decode cX6_shade 14 = .ok (.aload_n 0, 1) := by decide +kernel
theorem dX6_shade_15 : decode cX6_shade 15 = .ok (.getfield 21, 3) := by decide +kernel
theorem dX6_shade_18 : decode cX6_shade 18 = .ok (.getfield 161, 3) := by decide +kernel
theorem dX6_shade_21 : decode cX6_shade 21 = .ok (.iconst 0, 1) := by decide +kernel
theorem dX6_shade_22 : decode cX6_shade 22 = .ok (.iaload, 1) := by decide +kernel
theorem dX6_shade_23 : decode cX6_shade 23 = .ok (.aload_n 0, 1) := by decide +kernel
theorem dX6_shade_24 : decode cX6_shade 24 = .ok (.getfield 21, 3) := by decide +kernel
theorem dX6_shade_27 : decode cX6_shade 27 = .ok (.invokevirtual 198, 3) := by decide +kernel
theorem dX6_shade_30 : decode cX6_shade 30 = .ok (.iadd, 1) := by decide +kernel
theorem dX6_shade_31 : decode cX6_shade 31 = .ok (.putfield 201, 3) := by decide +kernel
theorem dX6_shade_34 : decode cX6_shade 34 = .ok (.aload_n 0, 1) := by decide +kernel
theorem dX6_shade_35 : decode cX6_shade 35 = .ok (.getfield 21, 3) := by decide +kernel
theorem dX6_shade_38 : decode cX6_shade 38 = .ok (.invokevirtual 204, 3) := by decide +kernel
theorem dX6_shade_41 : decode cX6_shade 41 = .ok (.aload_n 0, 1) := by decide +kernel
theorem dX6_shade_42 : decode cX6_shade 42 = .ok (.getfield 21, 3) := by decide +kernel
theorem dX6_shade_45 : decode cX6_shade 45 = .ok (.getfield 161, 3) := by decide +kernel
theorem dX6_shade_48 : decode cX6_shade 48 = .ok (.iconst 0, 1) := by decide +kernel
theorem dX6_shade_49 : decode cX6_shade 49 = .ok (.iaload, 1) := by decide +kernel
theorem dX6_shade_50 : decode cX6_shade 50 = .ok (.isub, 1) := by decide +kernel
theorem dX6_shade_51 : decode cX6_shade 51 = .ok (.iconst 1, 1) := by decide +kernel
theorem dX6_shade_52 : decode cX6_shade 52 = .ok (.iadd, 1) := by decide +kernel
theorem dX6_shade_53 : decode cX6_shade 53 = .ok (.ireturn, 1) := by decide +kernel
theorem dX6_shaded_0 : decode cX6_shaded 0 = .ok (.aload_n 0, 1) := by decide +kernel
theorem dX6_shaded_1 : decode cX6_shaded 1 = .ok (.getfield 21, 3) := by decide +kernel
theorem dX6_shaded_4 : decode cX6_shaded 4 = .ok (.aload_n 0, 1) := by decide +kernel
theorem dX6_shaded_5 : decode cX6_shaded 5 = .ok (.getfield 21, 3) := by decide +kernel
theorem dX6_shaded_8 : decode cX6_shaded 8 = .ok (.invokevirtual 198, 3) := by decide +kernel
theorem dX6_shaded_11 : decode cX6_shaded 11 = .ok (.invokevirtual 207, 3) := by decide +kernel
theorem dX6_shaded_14 : decode cX6_shaded 14 = .ok (.ireturn, 1) := by decide +kernel
theorem dX6_keep_0 : decode cX6_keep 0 = .ok (.iload_n 1, 1) := by decide +kernel
theorem dX6_keep_1 : decode cX6_keep 1 = .ok (.iconst 3, 1) := by decide +kernel
theorem dX6_keep_2 : decode cX6_keep 2 = .ok (.invokestatic 64, 3) := by decide +kernel
theorem dX6_keep_5 : decode cX6_keep 5 = .ok (.ifCond .ne 5, 3) := by decide +kernel
theorem dX6_keep_8 : decode cX6_keep 8 = .ok (.iconst (-1), 1) := by decide +kernel
theorem dX6_keep_9 : decode cX6_keep 9 = .ok (.ireturn, 1) := by decide +kernel
theorem dX6_keep_10 : decode cX6_keep 10 = .ok (.aload_n 0, 1) := by decide +kernel
theorem dX6_keep_11 : decode cX6_keep 11 = .ok (.getfield 21, 3) := by decide +kernel
theorem dX6_keep_14 : decode cX6_keep 14 = .ok (.getfield 136, 3) := by decide +kernel
theorem dX6_keep_17 : decode cX6_keep 17 = .ok (.ifCond .ne 6, 3) := by decide +kernel
theorem dX6_keep_20 : decode cX6_keep 20 = .ok (.bipush (-4), 2) := by decide +kernel
theorem dX6_keep_22 : decode cX6_keep 22 = .ok (.ireturn, 1) := by decide +kernel
theorem dX6_keep_23 : decode cX6_keep 23 = .ok (.aload_n 0, 1) := by decide +kernel
theorem dX6_keep_24 : decode cX6_keep 24 = .ok (.getfield 25, 3) := by decide +kernel
theorem dX6_keep_27 : decode cX6_keep 27 = .ok (.iload_n 1, 1) := by decide +kernel
theorem dX6_keep_28 : decode cX6_keep 28 = .ok (.aaload, 1) := by decide +kernel
theorem dX6_keep_29 : decode cX6_keep 29 = .ok (.aload_n 0, 1) := by decide +kernel
theorem dX6_keep_30 : decode cX6_keep 30 = .ok (.getfield 21, 3) := by decide +kernel
theorem dX6_keep_33 : decode cX6_keep 33 = .ok (.invokevirtual 119, 3) := by decide +kernel
theorem dX6_keep_36 : decode cX6_keep 36 = .ok (.aload_n 0, 1) := by decide +kernel
theorem dX6_keep_37 : decode cX6_keep 37 = .ok (.getfield 21, 3) := by decide +kernel
theorem dX6_keep_40 : decode cX6_keep 40 = .ok (.getfield 126, 3) := by decide +kernel
theorem dX6_keep_43 : decode cX6_keep 43 = .ok (.ireturn, 1) := by decide +kernel
theorem dX6_on_0 : decode cX6_on 0 = .ok (.iload_n 1, 1) := by decide +kernel
theorem dX6_on_1 : decode cX6_on 1 = .ok (.iconst 3, 1) := by decide +kernel
theorem dX6_on_2 : decode cX6_on 2 = .ok (.invokestatic 64, 3) := by decide +kernel
theorem dX6_on_5 : decode cX6_on 5 = .ok (.ifCond .ne 5, 3) := by decide +kernel
theorem dX6_on_8 : decode cX6_on 8 = .ok (.iconst (-1), 1) := by decide +kernel
theorem dX6_on_9 : decode cX6_on 9 = .ok (.ireturn, 1) := by decide +kernel
theorem dX6_on_10 : decode cX6_on 10 = .ok (.aload_n 0, 1) := by decide +kernel
theorem dX6_on_11 : decode cX6_on 11 = .ok (.iload_n 1, 1) := by decide +kernel
theorem dX6_on_12 : decode cX6_on 12 = .ok (.invokevirtual 210, 3) := by decide +kernel
theorem dX6_on_15 : decode cX6_on 15 = .ok (.ifCond .ne 9, 3) := by decide +kernel
theorem dX6_on_18 : decode cX6_on 18 = .ok (.aload_n 0, 1) := by decide +kernel
theorem dX6_on_19 : decode cX6_on 19 = .ok (.iconst 1, 1) := by decide +kernel
theorem dX6_on_20 : decode cX6_on 20 = .ok (.invokevirtual 68, 3) := by decide +kernel
theorem dX6_on_23 : decode cX6_on 23 = .ok (.ireturn, 1) := by decide +kernel
theorem dX6_on_24 : decode cX6_on 24 = .ok (.aload_n 0, 1) := by decide +kernel
theorem dX6_on_25 : decode cX6_on 25 = .ok (.getfield 21, 3) := by decide +kernel
theorem dX6_on_28 : decode cX6_on 28 = .ok (.aload_n 0, 1) := by decide +kernel
theorem dX6_on_29 : decode cX6_on 29 = .ok (.getfield 25, 3) := by decide +kernel
theorem dX6_on_32 : decode cX6_on 32 = .ok (.iload_n 1, 1) := by decide +kernel
theorem dX6_on_33 : decode cX6_on 33 = .ok (.aaload, 1) := by decide +kernel
theorem dX6_on_34 : decode cX6_on 34 = .ok (.invokevirtual 119, 3) := by decide +kernel
theorem dX6_on_37 : decode cX6_on 37 = .ok (.aload_n 0, 1) := by decide +kernel
theorem dX6_on_38 : decode cX6_on 38 = .ok (.getfield 32, 3) := by decide +kernel
theorem dX6_on_41 : decode cX6_on 41 = .ok (.aload_n 0, 1) := by decide +kernel
theorem dX6_on_42 : decode cX6_on 42 = .ok (.getfield 21, 3) := by decide +kernel
theorem dX6_on_45 : decode cX6_on 45 = .ok (.getfield 126, 3) := by decide +kernel
theorem dX6_on_48 : decode cX6_on 48 = .ok (.invokevirtual 130, 3) := by decide +kernel
theorem dX6_on_51 : decode cX6_on 51 = .ok (.aload_n 0, 1) := by decide +kernel
theorem dX6_on_52 : decode cX6_on 52 = .ok (.getfield 21, 3) := by decide +kernel
theorem dX6_on_55 : decode cX6_on 55 = .ok (.getfield 126, 3) := by decide +kernel
theorem dX6_on_58 : decode cX6_on 58 = .ok (.ireturn, 1) := by decide +kernel
theorem dX6_when_0 : decode cX6_when 0 = .ok (.aload_n 0, 1) := by decide +kernel
theorem dX6_when_1 : decode cX6_when 1 = .ok (.iload_n 1, 1) := by decide +kernel
theorem dX6_when_2 : decode cX6_when 2 = .ok (.invokevirtual 139, 3) := by decide +kernel
theorem dX6_when_5 : decode cX6_when 5 = .ok (.ifCond .ne 5, 3) := by decide +kernel
theorem dX6_when_8 : decode cX6_when 8 = .ok (.iconst (-1), 1) := by decide +kernel
theorem dX6_when_9 : decode cX6_when 9 = .ok (.ireturn, 1) := by decide +kernel
theorem dX6_when_10 : decode cX6_when 10 = .ok (.aload_n 0, 1) := by decide +kernel
theorem dX6_when_11 : decode cX6_when 11 = .ok (.getfield 46, 3) := by decide +kernel
theorem dX6_when_14 : decode cX6_when 14 = .ok (.aload_n 0, 1) := by decide +kernel
theorem dX6_when_15 : decode cX6_when 15 = .ok (.getfield 21, 3) := by decide +kernel
theorem dX6_when_18 : decode cX6_when 18 = .ok (.iload_n 1, 1) := by decide +kernel
theorem dX6_when_19 : decode cX6_when 19 = .ok (.invokevirtual 213, 3) := by decide +kernel
theorem dX6_when_22 : decode cX6_when 22 = .ok (.istore_n 2, 1) := by decide +kernel
theorem dX6_when_23 : decode cX6_when 23 = .ok (.iload_n 2, 1) := by decide +kernel
theorem dX6_when_24 : decode cX6_when 24 = .ok (.bipush (-9), 2) := by decide +kernel
theorem dX6_when_26 : decode cX6_when 26 = .ok (.if_icmp .eq 14, 3) := by decide +kernel
theorem dX6_when_29 : decode cX6_when 29 = .ok (.aload_n 0, 1) := by decide +kernel
theorem dX6_when_30 : decode cX6_when 30 = .ok (.aload_n 0, 1) := by decide +kernel
theorem dX6_when_31 : decode cX6_when 31 = .ok (.getfield 46, 3) := by decide +kernel
theorem dX6_when_34 : decode cX6_when 34 = .ok (.getfield 217, 3) := by decide +kernel
theorem dX6_when_37 : decode cX6_when 37 = .ok (.putfield 201, 3) := by decide +kernel
theorem dX6_when_40 : decode cX6_when 40 = .ok (.iload_n 2, 1) := by decide +kernel
theorem dX6_when_41 : decode cX6_when 41 = .ok (.ireturn, 1) := by decide +kernel
theorem dX6_bought_0 : decode cX6_bought 0 = .ok (.iload_n 1, 1) := by decide +kernel
theorem dX6_bought_1 : decode cX6_bought 1 = .ok (.bipush 60, 2) := by decide +kernel
theorem dX6_bought_3 : decode cX6_bought 3 = .ok (.invokestatic 179, 3) := by decide +kernel
theorem dX6_bought_6 : decode cX6_bought 6 = .ok (.ifCond .ne 5, 3) := by decide +kernel
theorem dX6_bought_9 : decode cX6_bought 9 = .ok (.iconst (-1), 1) := by decide +kernel
theorem dX6_bought_10 : decode cX6_bought 10 = .ok (.ireturn, 1) := by decide +kernel
theorem dX6_bought_11 : decode cX6_bought 11 = .ok (.aload_n 0, 1) := by decide +kernel
theorem dX6_bought_12 : decode cX6_bought 12 = .ok (.getfield 46, 3) := by decide +kernel
theorem dX6_bought_15 : decode cX6_bought 15 = .ok (.aload_n 0, 1) := by decide +kernel
theorem dX6_bought_16 : decode cX6_bought 16 = .ok (.getfield 21, 3) := by decide +kernel
theorem dX6_bought_19 : decode cX6_bought 19 = .ok (.iload_n 1, 1) := by decide +kernel
theorem dX6_bought_20 : decode cX6_bought 20 = .ok (.invokevirtual 220, 3) := by decide +kernel
theorem dX6_bought_23 : decode cX6_bought 23 = .ok (.istore_n 2, 1) := by decide +kernel
theorem dX6_bought_24 : decode cX6_bought 24 = .ok (.aload_n 0, 1) := by decide +kernel
theorem dX6_bought_25 : decode cX6_bought 25 = .ok (.aload_n 0, 1) := by decide +kernel
theorem dX6_bought_26 : decode cX6_bought 26 = .ok (.getfield 46, 3) := by decide +kernel
theorem dX6_bought_29 : decode cX6_bought 29 = .ok (.getfield 217, 3) := by decide +kernel
theorem dX6_bought_32 : decode cX6_bought 32 = .ok (.putfield 201, 3) := by decide +kernel
theorem dX6_bought_35 : decode cX6_bought 35 = .ok (.iload_n 2, 1) := by decide +kernel
theorem dX6_bought_36 : decode cX6_bought 36 = .ok (.ireturn, 1) := by decide +kernel
theorem dX6_rest_0 : decode cX6_rest 0 = .ok (.aload_n 0, 1) := by decide +kernel
theorem dX6_rest_1 : decode cX6_rest 1 = .ok (.getfield 21, 3) := by decide +kernel
theorem dX6_rest_4 : decode cX6_rest 4 = .ok (.getfield 136, 3) := by decide +kernel
theorem dX6_rest_7 : decode cX6_rest 7 = .ok (.ifCond .ne 6, 3) := by decide +kernel
theorem dX6_rest_10 : decode cX6_rest 10 = .ok (.bipush (-4), 2) := by decide +kernel
theorem dX6_rest_12 : decode cX6_rest 12 = .ok (.ireturn, 1) := by decide +kernel
theorem dX6_rest_13 : decode cX6_rest 13 = .ok (.aload_n 0, 1) := by decide +kernel
theorem dX6_rest_14 : decode cX6_rest 14 = .ok (.getfield 46, 3) := by decide +kernel
theorem dX6_rest_17 : decode cX6_rest 17 = .ok (.aload_n 0, 1) := by decide +kernel
theorem dX6_rest_18 : decode cX6_rest 18 = .ok (.getfield 21, 3) := by decide +kernel
theorem dX6_rest_21 : decode cX6_rest 21 = .ok (.invokevirtual 223, 3) := by decide +kernel
theorem dX6_rest_24 : decode cX6_rest 24 = .ok (.istore_n 1, 1) := by decide +kernel
theorem dX6_rest_25 : decode cX6_rest 25 = .ok (.iload_n 1, 1) := by decide +kernel
theorem dX6_rest_26 : decode cX6_rest 26 = .ok (.bipush (-9), 2) := by decide +kernel
theorem dX6_rest_28 : decode cX6_rest 28 = .ok (.if_icmp .eq 14, 3) := by decide +kernel
theorem dX6_rest_31 : decode cX6_rest 31 = .ok (.aload_n 0, 1) := by decide +kernel
theorem dX6_rest_32 : decode cX6_rest 32 = .ok (.aload_n 0, 1) := by decide +kernel
theorem dX6_rest_33 : decode cX6_rest 33 = .ok (.getfield 46, 3) := by decide +kernel
theorem dX6_rest_36 : decode cX6_rest 36 = .ok (.getfield 217, 3) := by decide +kernel
theorem dX6_rest_39 : decode cX6_rest 39 = .ok (.putfield 201, 3) := by decide +kernel
theorem dX6_rest_42 : decode cX6_rest 42 = .ok (.iload_n 1, 1) := by decide +kernel
theorem dX6_rest_43 : decode cX6_rest 43 = .ok (.ireturn, 1) := by decide +kernel
theorem dX6_track_0 : decode cX6_track 0 = .ok (.iload_n 1, 1) := by decide +kernel
theorem dX6_track_1 : decode cX6_track 1 = .ok (.bipush 60, 2) := by decide +kernel
theorem dX6_track_3 : decode cX6_track 3 = .ok (.invokestatic 179, 3) := by decide +kernel
theorem dX6_track_6 : decode cX6_track 6 = .ok (.ifCond .eq 12, 3) := by decide +kernel
theorem dX6_track_9 : decode cX6_track 9 = .ok (.iload_n 2, 1) := by decide +kernel
theorem dX6_track_10 : decode cX6_track 10 = .ok (.bipush 6, 2) := by decide +kernel
theorem dX6_track_12 : decode cX6_track 12 = .ok (.invokestatic 64, 3) := by decide +kernel
theorem dX6_track_15 : decode cX6_track 15 = .ok (.ifCond .ne 5, 3) := by decide +kernel
theorem dX6_track_18 : decode cX6_track 18 = .ok (.iconst (-1), 1) := by decide +kernel
theorem dX6_track_19 : decode cX6_track 19 = .ok (.ireturn, 1) := by decide +kernel
theorem dX6_track_20 : decode cX6_track 20 = .ok (.aload_n 0, 1) := by decide +kernel
theorem dX6_track_21 : decode cX6_track 21 = .ok (.aload_n 0, 1) := by decide +kernel
theorem dX6_track_22 : decode cX6_track 22 = .ok (.getfield 46, 3) := by decide +kernel
theorem dX6_track_25 : decode cX6_track 25 = .ok (.aload_n 0, 1) := by decide +kernel
theorem dX6_track_26 : decode cX6_track 26 = .ok (.getfield 21, 3) := by decide +kernel
theorem dX6_track_29 : decode cX6_track 29 = .ok (.iload_n 1, 1) := by decide +kernel
theorem dX6_track_30 : decode cX6_track 30 = .ok (.aload_n 0, 1) := by decide +kernel
theorem dX6_track_31 : decode cX6_track 31 = .ok (.getfield 11, 3) := by decide +kernel
theorem dX6_track_34 : decode cX6_track 34 = .ok (.iload_n 2, 1) := by decide +kernel
theorem dX6_track_35 : decode cX6_track 35 = .ok (.aaload, 1) := by decide +kernel
theorem dX6_track_36 : decode cX6_track 36 = .ok (.invokevirtual 227, 3) := by decide +kernel
theorem dX6_track_39 : decode cX6_track 39 = .ok (.invokevirtual 84, 3) := by decide +kernel
theorem dX6_track_42 : decode cX6_track 42 = .ok (.ireturn, 1) := by decide +kernel
theorem dX6_best_0 : decode cX6_best 0 = .ok (.iload_n 1, 1) := by decide +kernel
theorem dX6_best_1 : decode cX6_best 1 = .ok (.bipush 20, 2) := by decide +kernel
theorem dX6_best_3 : decode cX6_best 3 = .ok (.invokestatic 179, 3) := by decide +kernel
theorem dX6_best_6 : decode cX6_best 6 = .ok (.ifCond .eq 12, 3) := by decide +kernel
theorem dX6_best_9 : decode cX6_best 9 = .ok (.iload_n 2, 1) := by decide +kernel
theorem dX6_best_10 : decode cX6_best 10 = .ok (.bipush 6, 2) := by decide +kernel
theorem dX6_best_12 : decode cX6_best 12 = .ok (.invokestatic 64, 3) := by decide +kernel
theorem dX6_best_15 : decode cX6_best 15 = .ok (.ifCond .ne 5, 3) := by decide +kernel
theorem dX6_best_18 : decode cX6_best 18 = .ok (.iconst (-1), 1) := by decide +kernel
theorem dX6_best_19 : decode cX6_best 19 = .ok (.ireturn, 1) := by decide +kernel
theorem dX6_best_20 : decode cX6_best 20 = .ok (.aload_n 0, 1) := by decide +kernel
theorem dX6_best_21 : decode cX6_best 21 = .ok (.getfield 21, 3) := by decide +kernel
theorem dX6_best_24 : decode cX6_best 24 = .ok (.getfield 136, 3) := by decide +kernel
theorem dX6_best_27 : decode cX6_best 27 = .ok (.ifCond .ne 6, 3) := by decide +kernel
theorem dX6_best_30 : decode cX6_best 30 = .ok (.bipush (-4), 2) := by decide +kernel
theorem dX6_best_32 : decode cX6_best 32 = .ok (.ireturn, 1) := by decide +kernel
theorem dX6_best_33 : decode cX6_best 33 = .ok (.aload_n 0, 1) := by decide +kernel
theorem dX6_best_34 : decode cX6_best 34 = .ok (.getfield 46, 3) := by decide +kernel
theorem dX6_best_37 : decode cX6_best 37 = .ok (.aload_n 0, 1) := by decide +kernel
theorem dX6_best_38 : decode cX6_best 38 = .ok (.getfield 21, 3) := by decide +kernel
theorem dX6_best_41 : decode cX6_best 41 = .ok (.iload_n 1, 1) := by decide +kernel
theorem dX6_best_42 : decode cX6_best 42 = .ok (.aload_n 0, 1) := by decide +kernel
theorem dX6_best_43 : decode cX6_best 43 = .ok (.getfield 11, 3) := by decide +kernel
theorem dX6_best_46 : decode cX6_best 46 = .ok (.iload_n 2, 1) := by decide +kernel
theorem dX6_best_47 : decode cX6_best 47 = .ok (.aaload, 1) := by decide +kernel
theorem dX6_best_48 : decode cX6_best 48 = .ok (.invokevirtual 231, 3) := by decide +kernel
theorem dX6_best_51 : decode cX6_best 51 = .ok (.ireturn, 1) := by decide +kernel
theorem dX6_spot_0 : decode cX6_spot 0 = .ok (.aload_n 0, 1) := by decide +kernel
theorem dX6_spot_1 : decode cX6_spot 1 = .ok (.iload_n 1, 1) := by decide +kernel
theorem dX6_spot_2 : decode cX6_spot 2 = .ok (.invokevirtual 146, 3) := by decide +kernel
theorem dX6_spot_5 : decode cX6_spot 5 = .ok (.ifCond .eq 12, 3) := by decide +kernel
theorem dX6_spot_8 : decode cX6_spot 8 = .ok (.iload_n 2, 1) := by decide +kernel
theorem dX6_spot_9 : decode cX6_spot 9 = .ok (.bipush 20, 2) := by decide +kernel
theorem dX6_spot_11 : decode cX6_spot 11 = .ok (.invokestatic 179, 3) := by decide +kernel
theorem dX6_spot_14 : decode cX6_spot 14 = .ok (.ifCond .ne 5, 3) := by decide +kernel
theorem dX6_spot_17 : decode cX6_spot 17 = .ok (.iconst (-1), 1) := by decide +kernel
theorem dX6_spot_18 : decode cX6_spot 18 = .ok (.ireturn, 1) := by decide +kernel
theorem dX6_spot_19 : decode cX6_spot 19 = .ok (.aload_n 0, 1) := by decide +kernel
theorem dX6_spot_20 : decode cX6_spot 20 = .ok (.getfield 21, 3) := by decide +kernel
theorem dX6_spot_23 : decode cX6_spot 23 = .ok (.getfield 136, 3) := by decide +kernel
theorem dX6_spot_26 : decode cX6_spot 26 = .ok (.ifCond .ne 6, 3) := by decide +kernel
theorem dX6_spot_29 : decode cX6_spot 29 = .ok (.bipush (-4), 2) := by decide +kernel
theorem dX6_spot_31 : decode cX6_spot 31 = .ok (.ireturn, 1) := by decide +kernel
theorem dX6_spot_32 : decode cX6_spot 32 = .ok (.aload_n 0, 1) := by decide +kernel
theorem dX6_spot_33 : decode cX6_spot 33 = .ok (.getfield 46, 3) := by decide +kernel
theorem dX6_spot_36 : decode cX6_spot 36 = .ok (.aload_n 0, 1) := by decide +kernel
theorem dX6_spot_37 : decode cX6_spot 37 = .ok (.getfield 21, 3) := by decide +kernel
theorem dX6_spot_40 : decode cX6_spot 40 = .ok (.iload_n 1, 1) := by decide +kernel
theorem dX6_spot_41 : decode cX6_spot 41 = .ok (.iload_n 2, 1) := by decide +kernel
theorem dX6_spot_42 : decode cX6_spot 42 = .ok (.invokevirtual 234, 3) := by decide +kernel
theorem dX6_spot_45 : decode cX6_spot 45 = .ok (.istore_n 3, 1) := by decide +kernel
theorem dX6_spot_46 : decode cX6_spot 46 = .ok (.aload_n 0, 1) := by decide +kernel
theorem dX6_spot_47 : decode cX6_spot 47 = .ok (.aload_n 0, 1) := by decide +kernel
theorem dX6_spot_48 : decode cX6_spot 48 = .ok (.getfield 46, 3) := by decide +kernel
theorem dX6_spot_51 : decode cX6_spot 51 = .ok (.getfield 217, 3) := by decide +kernel
theorem dX6_spot_54 : decode cX6_spot 54 = .ok (.putfield 201, 3) := by decide +kernel
theorem dX6_spot_57 : decode cX6_spot 57 = .ok (.iload_n 3, 1) := by decide +kernel
theorem dX6_spot_58 : decode cX6_spot 58 = .ok (.ireturn, 1) := by decide +kernel
theorem dX6_missed_0 : decode cX6_missed 0 = .ok (.iload_n 1, 1) := by decide +kernel
theorem dX6_missed_1 : decode cX6_missed 1 = .ok (.bipush 20, 2) := by decide +kernel
theorem dX6_missed_3 : decode cX6_missed 3 = .ok (.invokestatic 179, 3) := by decide +kernel
theorem dX6_missed_6 : decode cX6_missed 6 = .ok (.ifCond .ne 5, 3) := by decide +kernel
theorem dX6_missed_9 : decode cX6_missed 9 = .ok (.iconst (-1), 1) := by decide +kernel
theorem dX6_missed_10 : decode cX6_missed 10 = .ok (.ireturn, 1) := by decide +kernel
theorem dX6_missed_11 : decode cX6_missed 11 = .ok (.aload_n 0, 1) := by decide +kernel
theorem dX6_missed_12 : decode cX6_missed 12 = .ok (.getfield 21, 3) := by decide +kernel
theorem dX6_missed_15 : decode cX6_missed 15 = .ok (.getfield 136, 3) := by decide +kernel
theorem dX6_missed_18 : decode cX6_missed 18 = .ok (.ifCond .ne 6, 3) := by decide +kernel
theorem dX6_missed_21 : decode cX6_missed 21 = .ok (.bipush (-4), 2) := by decide +kernel
theorem dX6_missed_23 : decode cX6_missed 23 = .ok (.ireturn, 1) := by decide +kernel
theorem dX6_missed_24 : decode cX6_missed 24 = .ok (.aload_n 0, 1) := by decide +kernel
theorem dX6_missed_25 : decode cX6_missed 25 = .ok (.getfield 46, 3) := by decide +kernel
theorem dX6_missed_28 : decode cX6_missed 28 = .ok (.aload_n 0, 1) := by decide +kernel
theorem dX6_missed_29 : decode cX6_missed 29 = .ok (.getfield 21, 3) := by decide +kernel
theorem dX6_missed_32 : decode cX6_missed 32 = .ok (.iload_n 1, 1) := by decide +kernel
theorem dX6_missed_33 : decode cX6_missed 33 = .ok (.invokevirtual 238, 3) := by decide +kernel
theorem dX6_missed_36 : decode cX6_missed 36 = .ok (.istore_n 2, 1) := by decide +kernel
theorem dX6_missed_37 : decode cX6_missed 37 = .ok (.aload_n 0, 1) := by decide +kernel
theorem dX6_missed_38 : decode cX6_missed 38 = .ok (.aload_n 0, 1) := by decide +kernel
theorem dX6_missed_39 : decode cX6_missed 39 = .ok (.getfield 46, 3) := by decide +kernel
theorem dX6_missed_42 : decode cX6_missed 42 = .ok (.getfield 217, 3) := by decide +kernel
theorem dX6_missed_45 : decode cX6_missed 45 = .ok (.putfield 201, 3) := by decide +kernel
theorem dX6_missed_48 : decode cX6_missed 48 = .ok (.iload_n 2, 1) := by decide +kernel
theorem dX6_missed_49 : decode cX6_missed 49 = .ok (.ireturn, 1) := by decide +kernel
theorem dX6_fewest_0 : decode cX6_fewest 0 = .ok (.aload_n 0, 1) := by decide +kernel
theorem dX6_fewest_1 : decode cX6_fewest 1 = .ok (.getfield 21, 3) := by decide +kernel
theorem dX6_fewest_4 : decode cX6_fewest 4 = .ok (.getfield 136, 3) := by decide +kernel
theorem dX6_fewest_7 : decode cX6_fewest 7 = .ok (.ifCond .ne 6, 3) := by decide +kernel
theorem dX6_fewest_10 : decode cX6_fewest 10 = .ok (.bipush (-4), 2) := by decide +kernel
theorem dX6_fewest_12 : decode cX6_fewest 12 = .ok (.ireturn, 1) := by decide +kernel
theorem dX6_fewest_13 : decode cX6_fewest 13 = .ok (.aload_n 0, 1) := by decide +kernel
theorem dX6_fewest_14 : decode cX6_fewest 14 = .ok (.aload_n 0, 1) := by decide +kernel
theorem dX6_fewest_15 : decode cX6_fewest 15 = .ok (.getfield 21, 3) := by decide +kernel
theorem dX6_fewest_18 : decode cX6_fewest 18 = .ok (.invokevirtual 241, 3) := by decide +kernel
theorem dX6_fewest_21 : decode cX6_fewest 21 = .ok (.putfield 201, 3) := by decide +kernel
theorem dX6_fewest_24 : decode cX6_fewest 24 = .ok (.aload_n 0, 1) := by decide +kernel
theorem dX6_fewest_25 : decode cX6_fewest 25 = .ok (.getfield 201, 3) := by decide +kernel
theorem dX6_fewest_28 : decode cX6_fewest 28 = .ok (.invokestatic 244, 3) := by decide +kernel
theorem dX6_fewest_31 : decode cX6_fewest 31 = .ok (.ireturn, 1) := by decide +kernel
theorem dX6_turns_0 : decode cX6_turns 0 = .ok (.aload_n 0, 1) := by decide +kernel
theorem dX6_turns_1 : decode cX6_turns 1 = .ok (.getfield 21, 3) := by decide +kernel
theorem dX6_turns_4 : decode cX6_turns 4 = .ok (.getfield 136, 3) := by decide +kernel
theorem dX6_turns_7 : decode cX6_turns 7 = .ok (.ifCond .ne 6, 3) := by decide +kernel
theorem dX6_turns_10 : decode cX6_turns 10 = .ok (.bipush (-4), 2) := by decide +kernel
theorem dX6_turns_12 : decode cX6_turns 12 = .ok (.ireturn, 1) := by decide +kernel
theorem dX6_turns_13 : decode cX6_turns 13 = .ok (.aload_n 0, 1) := by decide +kernel
theorem dX6_turns_14 : decode cX6_turns 14 = .ok (.getfield 21, 3) := by decide +kernel
theorem dX6_turns_17 : decode cX6_turns 17 = .ok (.invokevirtual 249, 3) := by decide +kernel
theorem dX6_turns_20 : decode cX6_turns 20 = .ok (.istore_n 1, 1) := by decide +kernel
theorem dX6_turns_21 : decode cX6_turns 21 = .ok (.aload_n 0, 1) := by decide +kernel
theorem dX6_turns_22 : decode cX6_turns 22 = .ok (.aload_n 0, 1) := by decide +kernel
theorem dX6_turns_23 : decode cX6_turns 23 = .ok (.getfield 21, 3) := by decide +kernel
theorem dX6_turns_26 : decode cX6_turns 26 = .ok (.aload_n 0, 1) := by decide +kernel
theorem dX6_turns_27 : decode cX6_turns 27 = .ok (.getfield 21, 3) := by decide +kernel
theorem dX6_turns_30 : decode cX6_turns 30 = .ok (.invokevirtual 198, 3) := by decide +kernel
theorem dX6_turns_33 : decode cX6_turns 33 = .ok (.iload_n 1, 1) := by decide +kernel
theorem dX6_turns_34 : decode cX6_turns 34 = .ok (.iadd, 1) := by decide +kernel
theorem dX6_turns_35 : decode cX6_turns 35 = .ok (.invokevirtual 207, 3) := by decide +kernel
theorem dX6_turns_38 : decode cX6_turns 38 = .ok (.invokestatic 244, 3) := by decide +kernel
theorem dX6_turns_41 : decode cX6_turns 41 = .ok (.putfield 201, 3) := by decide +kernel
theorem dX6_turns_44 : decode cX6_turns 44 = .ok (.iload_n 1, 1) := by decide +kernel
theorem dX6_turns_45 : decode cX6_turns 45 = .ok (.invokestatic 252, 3) := by decide +kernel
theorem dX6_turns_48 : decode cX6_turns 48 = .ok (.ireturn, 1) := by decide +kernel
theorem dX6_fits_0 : decode cX6_fits 0 = .ok (.aload_n 0, 1) := by decide +kernel
theorem dX6_fits_1 : decode cX6_fits 1 = .ok (.iload_n 1, 1) := by decide +kernel
theorem dX6_fits_2 : decode cX6_fits 2 = .ok (.invokevirtual 257, 3) := by decide +kernel
theorem dX6_fits_5 : decode cX6_fits 5 = .ok (.ifCond .eq 21, 3) := by decide +kernel
theorem dX6_fits_8 : decode cX6_fits 8 = .ok (.iload_n 2, 1) := by decide +kernel
theorem dX6_fits_9 : decode cX6_fits 9 = .ok (.bipush 20, 2) := by decide +kernel
theorem dX6_fits_11 : decode cX6_fits 11 = .ok (.invokestatic 179, 3) := by decide +kernel
theorem dX6_fits_14 : decode cX6_fits 14 = .ok (.ifCond .eq 12, 3) := by decide +kernel
theorem dX6_fits_17 : decode cX6_fits 17 = .ok (.iload_n 3, 1) := by decide +kernel
theorem dX6_fits_18 : decode cX6_fits 18 = .ok (.bipush 6, 2) := by decide +kernel
theorem dX6_fits_20 : decode cX6_fits 20 = .ok (.invokestatic 64, 3) := by decide +kernel
theorem dX6_fits_23 : decode cX6_fits 23 = .ok (.ifCond .ne 5, 3) := by decide +kernel
theorem dX6_fits_26 : decode cX6_fits 26 = .ok (.iconst (-1), 1) := by decide +kernel
theorem dX6_fits_27 : decode cX6_fits 27 = .ok (.ireturn, 1) := by decide +kernel
theorem dX6_fits_28 : decode cX6_fits 28 = .ok (.aload_n 0, 1) := by decide +kernel
theorem dX6_fits_29 : decode cX6_fits 29 = .ok (.iload_n 1, 1) := by decide +kernel
theorem dX6_fits_30 : decode cX6_fits 30 = .ok (.aload_n 0, 1) := by decide +kernel
theorem dX6_fits_31 : decode cX6_fits 31 = .ok (.getfield 11, 3) := by decide +kernel
theorem dX6_fits_34 : decode cX6_fits 34 = .ok (.iload_n 3, 1) := by decide +kernel
theorem dX6_fits_35 : decode cX6_fits 35 = .ok (.aaload, 1) := by decide +kernel
theorem dX6_fits_36 : decode cX6_fits 36 = .ok (.invokevirtual 260, 3) := by decide +kernel
theorem dX6_fits_39 : decode cX6_fits 39 = .ok (.istore 4, 2) := by decide +kernel
theorem dX6_fits_41 : decode cX6_fits 41 = .ok (.iload 4, 2) := by decide +kernel
theorem dX6_fits_43 : decode cX6_fits 43 = .ok (.ifCond .eq 6, 3) := by decide +kernel
theorem dX6_fits_46 : decode cX6_fits 46 = .ok (.iload 4, 2) := by decide +kernel
theorem dX6_fits_48 : decode cX6_fits 48 = .ok (.ireturn, 1) := by decide +kernel
theorem dX6_fits_49 : decode cX6_fits 49 = .ok (.aload_n 0, 1) := by decide +kernel
theorem dX6_fits_50 : decode cX6_fits 50 = .ok (.getfield 53, 3) := by decide +kernel
theorem dX6_fits_53 : decode cX6_fits 53 = .ok (.aload_n 0, 1) := by decide +kernel
theorem dX6_fits_54 : decode cX6_fits 54 = .ok (.getfield 21, 3) := by decide +kernel
theorem dX6_fits_57 : decode cX6_fits 57 = .ok (.iload_n 1, 1) := by decide +kernel
theorem dX6_fits_58 : decode cX6_fits 58 = .ok (.iload_n 2, 1) := by decide +kernel
theorem dX6_fits_59 : decode cX6_fits 59 = .ok (.aload_n 0, 1) := by decide +kernel
theorem dX6_fits_60 : decode cX6_fits 60 = .ok (.getfield 11, 3) := by decide +kernel
theorem dX6_fits_63 : decode cX6_fits 63 = .ok (.iload_n 3, 1) := by decide +kernel
theorem dX6_fits_64 : decode cX6_fits 64 = .ok (.aaload, 1) := by decide +kernel
theorem dX6_fits_65 : decode cX6_fits 65 = .ok (.invokevirtual 264, 3) := by decide +kernel
theorem dX6_fits_68 : decode cX6_fits 68 = .ok (.aload_n 0, 1) := by decide +kernel
theorem dX6_fits_69 : decode cX6_fits 69 = .ok (.aload_n 0, 1) := by decide +kernel
theorem dX6_fits_70 : decode cX6_fits 70 = .ok (.getfield 53, 3) := by decide +kernel
theorem dX6_fits_73 : decode cX6_fits 73 = .ok (.getfield 268, 3) := by decide +kernel
theorem dX6_fits_76 : decode cX6_fits 76 = .ok (.putfield 201, 3) := by decide +kernel
theorem dX6_fits_79 : decode cX6_fits 79 = .ok (.aload_n 0, 1) := by decide +kernel
theorem dX6_fits_80 : decode cX6_fits 80 = .ok (.getfield 53, 3) := by decide +kernel
theorem dX6_fits_83 : decode cX6_fits 83 = .ok (.getfield 270, 3) := by decide +kernel
theorem dX6_fits_86 : decode cX6_fits 86 = .ok (.ireturn, 1) := by decide +kernel
theorem dX6_could_0 : decode cX6_could 0 = .ok (.aload_n 0, 1) := by decide +kernel
theorem dX6_could_1 : decode cX6_could 1 = .ok (.iload_n 1, 1) := by decide +kernel
theorem dX6_could_2 : decode cX6_could 2 = .ok (.invokevirtual 257, 3) := by decide +kernel
theorem dX6_could_5 : decode cX6_could 5 = .ok (.ifCond .eq 21, 3) := by decide +kernel
theorem dX6_could_8 : decode cX6_could 8 = .ok (.iload_n 2, 1) := by decide +kernel
theorem dX6_could_9 : decode cX6_could 9 = .ok (.bipush 20, 2) := by decide +kernel
theorem dX6_could_11 : decode cX6_could 11 = .ok (.invokestatic 179, 3) := by decide +kernel
theorem dX6_could_14 : decode cX6_could 14 = .ok (.ifCond .eq 12, 3) := by decide +kernel
theorem dX6_could_17 : decode cX6_could 17 = .ok (.iload_n 3, 1) := by decide +kernel
theorem dX6_could_18 : decode cX6_could 18 = .ok (.bipush 6, 2) := by decide +kernel
theorem dX6_could_20 : decode cX6_could 20 = .ok (.invokestatic 64, 3) := by decide +kernel
theorem dX6_could_23 : decode cX6_could 23 = .ok (.ifCond .ne 5, 3) := by decide +kernel
theorem dX6_could_26 : decode cX6_could 26 = .ok (.iconst (-1), 1) := by decide +kernel
theorem dX6_could_27 : decode cX6_could 27 = .ok (.ireturn, 1) := by decide +kernel
theorem dX6_could_28 : decode cX6_could 28 = .ok (.iload 4, 2) := by decide +kernel
theorem dX6_could_30 : decode cX6_could 30 = .ok (.bipush 6, 2) := by decide +kernel
theorem dX6_could_32 : decode cX6_could 32 = .ok (.invokestatic 64, 3) := by decide +kernel
theorem dX6_could_35 : decode cX6_could 35 = .ok (.ifCond .eq 12, 3) := by decide +kernel
theorem dX6_could_38 : decode cX6_could 38 = .ok (.iload_n 1, 1) := by decide +kernel
theorem dX6_could_39 : decode cX6_could 39 = .ok (.iload 4, 2) := by decide +kernel
theorem dX6_could_41 : decode cX6_could 41 = .ok (.invokestatic 273, 3) := by decide +kernel
theorem dX6_could_44 : decode cX6_could 44 = .ok (.ifCond .ne 5, 3) := by decide +kernel
theorem dX6_could_47 : decode cX6_could 47 = .ok (.iconst (-1), 1) := by decide +kernel
theorem dX6_could_48 : decode cX6_could 48 = .ok (.ireturn, 1) := by decide +kernel
theorem dX6_could_49 : decode cX6_could 49 = .ok (.aload_n 0, 1) := by decide +kernel
theorem dX6_could_50 : decode cX6_could 50 = .ok (.iload_n 1, 1) := by decide +kernel
theorem dX6_could_51 : decode cX6_could 51 = .ok (.aload_n 0, 1) := by decide +kernel
theorem dX6_could_52 : decode cX6_could 52 = .ok (.getfield 11, 3) := by decide +kernel
theorem dX6_could_55 : decode cX6_could 55 = .ok (.iload_n 3, 1) := by decide +kernel
theorem dX6_could_56 : decode cX6_could 56 = .ok (.aaload, 1) := by decide +kernel
theorem dX6_could_57 : decode cX6_could 57 = .ok (.invokevirtual 260, 3) := by decide +kernel
theorem dX6_could_60 : decode cX6_could 60 = .ok (.istore 5, 2) := by decide +kernel
theorem dX6_could_62 : decode cX6_could 62 = .ok (.iload 5, 2) := by decide +kernel
theorem dX6_could_64 : decode cX6_could 64 = .ok (.ifCond .eq 6, 3) := by decide +kernel
theorem dX6_could_67 : decode cX6_could 67 = .ok (.iload 5, 2) := by decide +kernel
theorem dX6_could_69 : decode cX6_could 69 = .ok (.ireturn, 1) := by decide +kernel
theorem dX6_could_70 : decode cX6_could 70 = .ok (.aload_n 0, 1) := by decide +kernel
theorem dX6_could_71 : decode cX6_could 71 = .ok (.getfield 53, 3) := by decide +kernel
theorem dX6_could_74 : decode cX6_could 74 = .ok (.aload_n 0, 1) := by decide +kernel
theorem dX6_could_75 : decode cX6_could 75 = .ok (.getfield 21, 3) := by decide +kernel
theorem dX6_could_78 : decode cX6_could 78 = .ok (.iload_n 1, 1) := by decide +kernel
theorem dX6_could_79 : decode cX6_could 79 = .ok (.iload_n 2, 1) := by decide +kernel
theorem dX6_could_80 : decode cX6_could 80 = .ok (.aload_n 0, 1) := by decide +kernel
theorem dX6_could_81 : decode cX6_could 81 = .ok (.getfield 11, 3) := by decide +kernel
theorem dX6_could_84 : decode cX6_could 84 = .ok (.iload_n 3, 1) := by decide +kernel
theorem dX6_could_85 : decode cX6_could 85 = .ok (.aaload, 1) := by decide +kernel
theorem dX6_could_86 : decode cX6_could 86 = .ok (.invokevirtual 264, 3) := by decide +kernel
theorem dX6_could_89 : decode cX6_could 89 = .ok (.aload_n 0, 1) := by decide +kernel
theorem dX6_could_90 : decode cX6_could 90 = .ok (.getfield 53, 3) := by decide +kernel
theorem dX6_could_93 : decode cX6_could 93 = .ok (.getfield 276, 3) := by decide +kernel
theorem dX6_could_96 : decode cX6_could 96 = .ok (.iload 4, 2) := by decide +kernel
theorem dX6_could_98 : decode cX6_could 98 = .ok (.iaload, 1) := by decide +kernel
theorem dX6_could_99 : decode cX6_could 99 = .ok (.ireturn, 1) := by decide +kernel
theorem dX6_winds_0 : decode cX6_winds 0 = .ok (.iload_n 1, 1) := by decide +kernel
theorem dX6_winds_1 : decode cX6_winds 1 = .ok (.iconst 1, 1) := by decide +kernel
theorem dX6_winds_2 : decode cX6_winds 2 = .ok (.if_icmp .lt 23, 3) := by decide +kernel
theorem dX6_winds_5 : decode cX6_winds 5 = .ok (.iload_n 1, 1) := by decide +kernel
theorem dX6_winds_6 : decode cX6_winds 6 = .ok (.bipush 60, 2) := by decide +kernel
theorem dX6_winds_8 : decode cX6_winds 8 = .ok (.if_icmp .gt 17, 3) := by decide +kernel
theorem dX6_winds_11 : decode cX6_winds 11 = .ok (.iload_n 2, 1) := by decide +kernel
theorem dX6_winds_12 : decode cX6_winds 12 = .ok (.iconst 1, 1) := by decide +kernel
theorem dX6_winds_13 : decode cX6_winds 13 = .ok (.if_icmp .lt 12, 3) := by decide +kernel
