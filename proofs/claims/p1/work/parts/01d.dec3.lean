theorem dd_X2_fillWhatWasNotTold_91 : decode cX2_fillWhatWasNotTold 91 = .ok (.goto (-49), 3) := by decide +kernel
theorem dd_X2_fillWhatWasNotTold_94 : decode cX2_fillWhatWasNotTold 94 = .ok (.return_, 1) := by decide +kernel
theorem dd_X2_forfeits_0 : decode cX2_forfeits 0 = .ok (.aload_n 0, 1) := by decide +kernel
theorem dd_X2_forfeits_1 : decode cX2_forfeits 1 = .ok (.getfield 11, 3) := by decide +kernel
theorem dd_X2_forfeits_4 : decode cX2_forfeits 4 = .ok (.iconst 1, 1) := by decide +kernel
theorem dd_X2_forfeits_5 : decode cX2_forfeits 5 = .ok (.iaload, 1) := by decide +kernel
theorem dd_X2_forfeits_6 : decode cX2_forfeits 6 = .ok (.ireturn, 1) := by decide +kernel
theorem dd_X2_goods_0 : decode cX2_goods 0 = .ok (.aload_n 0, 1) := by decide +kernel
theorem dd_X2_goods_1 : decode cX2_goods 1 = .ok (.getfield 11, 3) := by decide +kernel
theorem dd_X2_goods_4 : decode cX2_goods 4 = .ok (.iconst 2, 1) := by decide +kernel
theorem dd_X2_goods_5 : decode cX2_goods 5 = .ok (.iaload, 1) := by decide +kernel
theorem dd_X2_goods_6 : decode cX2_goods 6 = .ok (.ireturn, 1) := by decide +kernel
theorem dd_X2_has_0 : decode cX2_has 0 = .ok (.iload_n 2, 1) := by decide +kernel
theorem dd_X2_has_1 : decode cX2_has 1 = .ok (.ifCond .lt 17, 3) := by decide +kernel
theorem dd_X2_has_4 : decode cX2_has 4 = .ok (.iload_n 2, 1) := by decide +kernel
theorem dd_X2_has_5 : decode cX2_has 5 = .ok (.aload_n 0, 1) := by decide +kernel
theorem dd_X2_has_6 : decode cX2_has 6 = .ok (.getfield 11, 3) := by decide +kernel
theorem dd_X2_has_9 : decode cX2_has 9 = .ok (.iload_n 1, 1) := by decide +kernel
theorem dd_X2_has_10 : decode cX2_has 10 = .ok (.iaload, 1) := by decide +kernel
theorem dd_X2_has_11 : decode cX2_has 11 = .ok (.if_icmp .ge 7, 3) := by decide +kernel
theorem dd_X2_has_18 : decode cX2_has 18 = .ok (.iconst 0, 1) := by decide +kernel
theorem dd_X2_has_19 : decode cX2_has 19 = .ok (.ireturn, 1) := by decide +kernel
theorem dd_X2_init_0 : decode cX2_init 0 = .ok (.aload_n 0, 1) := by decide +kernel
theorem dd_X2_init_1 : decode cX2_init 1 = .ok (.invokespecial 3, 3) := by decide +kernel
theorem dd_X2_init_4 : decode cX2_init 4 = .ok (.aload_n 0, 1) := by decide +kernel
theorem dd_X2_init_5 : decode cX2_init 5 = .ok (.iconst 3, 1) := by decide +kernel
theorem dd_X2_init_6 : decode cX2_init 6 = .ok (.newarray .int, 2) := by decide +kernel
theorem dd_X2_init_8 : decode cX2_init 8 = .ok (.putfield 11, 3) := by decide +kernel
theorem dd_X2_init_11 : decode cX2_init 11 = .ok (.aload_n 0, 1) := by decide +kernel
theorem dd_X2_init_12 : decode cX2_init 12 = .ok (.bipush 18, 2) := by decide +kernel
theorem dd_X2_init_14 : decode cX2_init 14 = .ok (.newarray .long, 2) := by decide +kernel
theorem dd_X2_init_16 : decode cX2_init 16 = .ok (.putfield 15, 3) := by decide +kernel
theorem dd_X2_init_19 : decode cX2_init 19 = .ok (.aload_n 0, 1) := by decide +kernel
theorem dd_X2_init_20 : decode cX2_init 20 = .ok (.bipush 6, 2) := by decide +kernel
theorem dd_X2_init_22 : decode cX2_init 22 = .ok (.newarray .int, 2) := by decide +kernel
theorem dd_X2_init_24 : decode cX2_init 24 = .ok (.putfield 19, 3) := by decide +kernel
theorem dd_X2_init_27 : decode cX2_init 27 = .ok (.aload_n 0, 1) := by decide +kernel
theorem dd_X2_init_28 : decode cX2_init 28 = .ok (.bipush 6, 2) := by decide +kernel
theorem dd_X2_init_30 : decode cX2_init 30 = .ok (.newarray .int, 2) := by decide +kernel
theorem dd_X2_init_32 : decode cX2_init 32 = .ok (.putfield 22, 3) := by decide +kernel
theorem dd_X2_init_35 : decode cX2_init 35 = .ok (.aload_n 0, 1) := by decide +kernel
theorem dd_X2_init_36 : decode cX2_init 36 = .ok (.bipush 36, 2) := by decide +kernel
theorem dd_X2_init_38 : decode cX2_init 38 = .ok (.newarray .int, 2) := by decide +kernel
theorem dd_X2_init_40 : decode cX2_init 40 = .ok (.putfield 25, 3) := by decide +kernel
theorem dd_X2_init_43 : decode cX2_init 43 = .ok (.aload_n 0, 1) := by decide +kernel
theorem dd_X2_init_44 : decode cX2_init 44 = .ok (.bipush 6, 2) := by decide +kernel
theorem dd_X2_init_46 : decode cX2_init 46 = .ok (.newarray .int, 2) := by decide +kernel
theorem dd_X2_init_48 : decode cX2_init 48 = .ok (.putfield 28, 3) := by decide +kernel
theorem dd_X2_init_51 : decode cX2_init 51 = .ok (.aload_n 0, 1) := by decide +kernel
theorem dd_X2_init_52 : decode cX2_init 52 = .ok (.new 31, 3) := by decide +kernel
theorem dd_X2_init_55 : decode cX2_init 55 = .ok (.dup, 1) := by decide +kernel
theorem dd_X2_init_56 : decode cX2_init 56 = .ok (.invokespecial 33, 3) := by decide +kernel
theorem dd_X2_init_59 : decode cX2_init 59 = .ok (.putfield 34, 3) := by decide +kernel
theorem dd_X2_init_62 : decode cX2_init 62 = .ok (.aload_n 0, 1) := by decide +kernel
theorem dd_X2_init_63 : decode cX2_init 63 = .ok (.new 38, 3) := by decide +kernel
theorem dd_X2_init_66 : decode cX2_init 66 = .ok (.dup, 1) := by decide +kernel
theorem dd_X2_init_67 : decode cX2_init 67 = .ok (.invokespecial 40, 3) := by decide +kernel
theorem dd_X2_init_70 : decode cX2_init 70 = .ok (.putfield 41, 3) := by decide +kernel
theorem dd_X2_init_73 : decode cX2_init 73 = .ok (.aload_n 0, 1) := by decide +kernel
theorem dd_X2_init_74 : decode cX2_init 74 = .ok (.iconst 1, 1) := by decide +kernel
theorem dd_X2_init_75 : decode cX2_init 75 = .ok (.putfield 45, 3) := by decide +kernel
theorem dd_X2_init_78 : decode cX2_init 78 = .ok (.aload_n 0, 1) := by decide +kernel
theorem dd_X2_init_79 : decode cX2_init 79 = .ok (.iconst 1, 1) := by decide +kernel
theorem dd_X2_init_80 : decode cX2_init 80 = .ok (.putfield 49, 3) := by decide +kernel
theorem dd_X2_init_83 : decode cX2_init 83 = .ok (.return_, 1) := by decide +kernel
theorem dd_X2_men_0 : decode cX2_men 0 = .ok (.aload_n 0, 1) := by decide +kernel
theorem dd_X2_men_1 : decode cX2_men 1 = .ok (.getfield 11, 3) := by decide +kernel
theorem dd_X2_men_4 : decode cX2_men 4 = .ok (.iconst 0, 1) := by decide +kernel
theorem dd_X2_men_5 : decode cX2_men 5 = .ok (.iaload, 1) := by decide +kernel
theorem dd_X2_men_6 : decode cX2_men 6 = .ok (.ireturn, 1) := by decide +kernel
theorem dd_X2_readLines_0 : decode cX2_readLines 0 = .ok (.aload_n 0, 1) := by decide +kernel
theorem dd_X2_readLines_1 : decode cX2_readLines 1 = .ok (.invokevirtual 76, 3) := by decide +kernel
theorem dd_X2_readLines_4 : decode cX2_readLines 4 = .ok (.iconst 0, 1) := by decide +kernel
theorem dd_X2_readLines_5 : decode cX2_readLines 5 = .ok (.istore_n 2, 1) := by decide +kernel
theorem dd_X2_readLines_6 : decode cX2_readLines 6 = .ok (.iconst 0, 1) := by decide +kernel
theorem dd_X2_readLines_7 : decode cX2_readLines 7 = .ok (.istore_n 3, 1) := by decide +kernel
theorem dd_X2_readLines_8 : decode cX2_readLines 8 = .ok (.iload_n 3, 1) := by decide +kernel
theorem dd_X2_readLines_9 : decode cX2_readLines 9 = .ok (.sipush 900, 3) := by decide +kernel
theorem dd_X2_readLines_12 : decode cX2_readLines 12 = .ok (.if_icmp .ge 43, 3) := by decide +kernel
theorem dd_X2_readLines_15 : decode cX2_readLines 15 = .ok (.aload_n 1, 1) := by decide +kernel
theorem dd_X2_readLines_16 : decode cX2_readLines 16 = .ok (.getfield 79, 3) := by decide +kernel
theorem dd_X2_readLines_19 : decode cX2_readLines 19 = .ok (.ifCond .ne 36, 3) := by decide +kernel
theorem dd_X2_readLines_22 : decode cX2_readLines 22 = .ok (.aload_n 1, 1) := by decide +kernel
theorem dd_X2_readLines_23 : decode cX2_readLines 23 = .ok (.getfield 84, 3) := by decide +kernel
theorem dd_X2_readLines_26 : decode cX2_readLines 26 = .ok (.ifCond .eq 29, 3) := by decide +kernel
theorem dd_X2_readLines_55 : decode cX2_readLines 55 = .ok (.aload_n 0, 1) := by decide +kernel
theorem dd_X2_readLines_56 : decode cX2_readLines 56 = .ok (.invokevirtual 95, 3) := by decide +kernel
theorem dd_X2_readLines_59 : decode cX2_readLines 59 = .ok (.iload_n 2, 1) := by decide +kernel
theorem dd_X2_readLines_60 : decode cX2_readLines 60 = .ok (.ireturn, 1) := by decide +kernel
theorem dd_X2_takeAll_0 : decode cX2_takeAll 0 = .ok (.aload_n 1, 1) := by decide +kernel
theorem dd_X2_takeAll_1 : decode cX2_takeAll 1 = .ok (.getfield 11, 3) := by decide +kernel
theorem dd_X2_takeAll_4 : decode cX2_takeAll 4 = .ok (.aload_n 0, 1) := by decide +kernel
theorem dd_X2_takeAll_5 : decode cX2_takeAll 5 = .ok (.getfield 11, 3) := by decide +kernel
theorem dd_X2_takeAll_8 : decode cX2_takeAll 8 = .ok (.invokestatic 59, 3) := by decide +kernel
theorem dd_X2_takeAll_11 : decode cX2_takeAll 11 = .ok (.aload_n 1, 1) := by decide +kernel
theorem dd_X2_takeAll_12 : decode cX2_takeAll 12 = .ok (.getfield 15, 3) := by decide +kernel
theorem dd_X2_takeAll_15 : decode cX2_takeAll 15 = .ok (.iconst 0, 1) := by decide +kernel
theorem dd_X2_takeAll_16 : decode cX2_takeAll 16 = .ok (.aload_n 0, 1) := by decide +kernel
theorem dd_X2_takeAll_17 : decode cX2_takeAll 17 = .ok (.getfield 15, 3) := by decide +kernel
theorem dd_X2_takeAll_20 : decode cX2_takeAll 20 = .ok (.iconst 0, 1) := by decide +kernel
theorem dd_X2_takeAll_21 : decode cX2_takeAll 21 = .ok (.bipush 18, 2) := by decide +kernel
theorem dd_X2_takeAll_23 : decode cX2_takeAll 23 = .ok (.invokestatic 63, 3) := by decide +kernel
theorem dd_X2_takeAll_26 : decode cX2_takeAll 26 = .ok (.aload_n 1, 1) := by decide +kernel
theorem dd_X2_takeAll_27 : decode cX2_takeAll 27 = .ok (.getfield 19, 3) := by decide +kernel
theorem dd_X2_takeAll_30 : decode cX2_takeAll 30 = .ok (.aload_n 0, 1) := by decide +kernel
theorem dd_X2_takeAll_31 : decode cX2_takeAll 31 = .ok (.getfield 19, 3) := by decide +kernel
theorem dd_X2_takeAll_34 : decode cX2_takeAll 34 = .ok (.invokestatic 59, 3) := by decide +kernel
theorem dd_X2_takeAll_37 : decode cX2_takeAll 37 = .ok (.aload_n 1, 1) := by decide +kernel
theorem dd_X2_takeAll_38 : decode cX2_takeAll 38 = .ok (.getfield 25, 3) := by decide +kernel
theorem dd_X2_takeAll_41 : decode cX2_takeAll 41 = .ok (.aload_n 0, 1) := by decide +kernel
theorem dd_X2_takeAll_42 : decode cX2_takeAll 42 = .ok (.getfield 25, 3) := by decide +kernel
theorem dd_X2_takeAll_45 : decode cX2_takeAll 45 = .ok (.invokestatic 59, 3) := by decide +kernel
theorem dd_X2_takeAll_48 : decode cX2_takeAll 48 = .ok (.aload_n 1, 1) := by decide +kernel
theorem dd_X2_takeAll_49 : decode cX2_takeAll 49 = .ok (.getfield 28, 3) := by decide +kernel
theorem dd_X2_takeAll_52 : decode cX2_takeAll 52 = .ok (.aload_n 0, 1) := by decide +kernel
theorem dd_X2_takeAll_53 : decode cX2_takeAll 53 = .ok (.getfield 28, 3) := by decide +kernel
theorem dd_X2_takeAll_56 : decode cX2_takeAll 56 = .ok (.invokestatic 59, 3) := by decide +kernel
theorem dd_X2_takeAll_59 : decode cX2_takeAll 59 = .ok (.aload_n 0, 1) := by decide +kernel
theorem dd_X2_takeAll_60 : decode cX2_takeAll 60 = .ok (.aload_n 1, 1) := by decide +kernel
theorem dd_X2_takeAll_61 : decode cX2_takeAll 61 = .ok (.getfield 45, 3) := by decide +kernel
theorem dd_X2_takeAll_64 : decode cX2_takeAll 64 = .ok (.putfield 45, 3) := by decide +kernel
theorem dd_X2_takeAll_67 : decode cX2_takeAll 67 = .ok (.aload_n 0, 1) := by decide +kernel
theorem dd_X2_takeAll_68 : decode cX2_takeAll 68 = .ok (.aload_n 1, 1) := by decide +kernel
theorem dd_X2_takeAll_69 : decode cX2_takeAll 69 = .ok (.getfield 49, 3) := by decide +kernel
theorem dd_X2_takeAll_72 : decode cX2_takeAll 72 = .ok (.putfield 49, 3) := by decide +kernel
theorem dd_X2_takeAll_75 : decode cX2_takeAll 75 = .ok (.aload_n 0, 1) := by decide +kernel
theorem dd_X2_takeAll_76 : decode cX2_takeAll 76 = .ok (.getfield 34, 3) := by decide +kernel
theorem dd_X2_takeAll_79 : decode cX2_takeAll 79 = .ok (.aload_n 1, 1) := by decide +kernel
theorem dd_X2_takeAll_80 : decode cX2_takeAll 80 = .ok (.getfield 34, 3) := by decide +kernel
theorem dd_X2_takeAll_83 : decode cX2_takeAll 83 = .ok (.invokevirtual 69, 3) := by decide +kernel
theorem dd_X2_takeAll_86 : decode cX2_takeAll 86 = .ok (.aload_n 0, 1) := by decide +kernel
theorem dd_X2_takeAll_87 : decode cX2_takeAll 87 = .ok (.getfield 41, 3) := by decide +kernel
theorem dd_X2_takeAll_90 : decode cX2_takeAll 90 = .ok (.aload_n 1, 1) := by decide +kernel
theorem dd_X2_takeAll_91 : decode cX2_takeAll 91 = .ok (.getfield 41, 3) := by decide +kernel
theorem dd_X2_takeAll_94 : decode cX2_takeAll 94 = .ok (.invokevirtual 73, 3) := by decide +kernel
theorem dd_X2_takeAll_97 : decode cX2_takeAll 97 = .ok (.return_, 1) := by decide +kernel
theorem dd_X3_find_0 : decode cX3_find 0 = .ok (.iload_n 3, 1) := by decide +kernel
theorem dd_X3_find_1 : decode cX3_find 1 = .ok (.iconst 2, 1) := by decide +kernel
theorem dd_X3_find_2 : decode cX3_find 2 = .ok (.if_icmp .lt 21, 3) := by decide +kernel
theorem dd_X3_find_23 : decode cX3_find 23 = .ok (.iconst (-1), 1) := by decide +kernel
theorem dd_X3_find_24 : decode cX3_find 24 = .ok (.ireturn, 1) := by decide +kernel
theorem dd_X3_init_0 : decode cX3_init 0 = .ok (.aload_n 0, 1) := by decide +kernel
theorem dd_X3_init_1 : decode cX3_init 1 = .ok (.invokespecial 3, 3) := by decide +kernel
theorem dd_X3_init_4 : decode cX3_init 4 = .ok (.aload_n 0, 1) := by decide +kernel
theorem dd_X3_init_5 : decode cX3_init 5 = .ok (.bipush 6, 2) := by decide +kernel
theorem dd_X3_init_7 : decode cX3_init 7 = .ok (.newarray .int, 2) := by decide +kernel
theorem dd_X3_init_9 : decode cX3_init 9 = .ok (.putfield 9, 3) := by decide +kernel
theorem dd_X3_init_12 : decode cX3_init 12 = .ok (.aload_n 0, 1) := by decide +kernel
theorem dd_X3_init_13 : decode cX3_init 13 = .ok (.iconst (-1), 1) := by decide +kernel
theorem dd_X3_init_14 : decode cX3_init 14 = .ok (.putfield 15, 3) := by decide +kernel
theorem dd_X3_init_17 : decode cX3_init 17 = .ok (.return_, 1) := by decide +kernel
theorem dd_X4_forget_0 : decode cX4_forget 0 = .ok (.aload_n 0, 1) := by decide +kernel
theorem dd_X4_forget_1 : decode cX4_forget 1 = .ok (.iconst 0, 1) := by decide +kernel
theorem dd_X4_forget_2 : decode cX4_forget 2 = .ok (.putfield 26, 3) := by decide +kernel
theorem dd_X4_forget_5 : decode cX4_forget 5 = .ok (.return_, 1) := by decide +kernel
theorem dd_X4_giveBack_0 : decode cX4_giveBack 0 = .ok (.aload_n 0, 1) := by decide +kernel
theorem dd_X4_giveBack_1 : decode cX4_giveBack 1 = .ok (.getfield 26, 3) := by decide +kernel
theorem dd_X4_giveBack_4 : decode cX4_giveBack 4 = .ok (.ifCond .ne 5, 3) := by decide +kernel
theorem dd_X4_giveBack_7 : decode cX4_giveBack 7 = .ok (.iconst (-1), 1) := by decide +kernel
theorem dd_X4_giveBack_8 : decode cX4_giveBack 8 = .ok (.ireturn, 1) := by decide +kernel
theorem dd_X4_init_0 : decode cX4_init 0 = .ok (.aload_n 0, 1) := by decide +kernel
theorem dd_X4_init_1 : decode cX4_init 1 = .ok (.invokespecial 3, 3) := by decide +kernel
theorem dd_X4_init_4 : decode cX4_init 4 = .ok (.aload_n 0, 1) := by decide +kernel
theorem dd_X4_init_5 : decode cX4_init 5 = .ok (.bipush 8, 2) := by decide +kernel
theorem dd_X4_init_7 : decode cX4_init 7 = .ok (.anewarray 11, 3) := by decide +kernel
theorem dd_X4_init_10 : decode cX4_init 10 = .ok (.putfield 13, 3) := by decide +kernel
theorem dd_X4_init_13 : decode cX4_init 13 = .ok (.iconst 0, 1) := by decide +kernel
theorem dd_X4_init_14 : decode cX4_init 14 = .ok (.istore_n 1, 1) := by decide +kernel
theorem dd_X4_init_15 : decode cX4_init 15 = .ok (.iload_n 1, 1) := by decide +kernel
theorem dd_X4_init_16 : decode cX4_init 16 = .ok (.bipush 8, 2) := by decide +kernel
theorem dd_X4_init_18 : decode cX4_init 18 = .ok (.if_icmp .ge 22, 3) := by decide +kernel
theorem dd_X4_init_21 : decode cX4_init 21 = .ok (.aload_n 0, 1) := by decide +kernel
theorem dd_X4_init_22 : decode cX4_init 22 = .ok (.getfield 13, 3) := by decide +kernel
theorem dd_X4_init_25 : decode cX4_init 25 = .ok (.iload_n 1, 1) := by decide +kernel
theorem dd_X4_init_26 : decode cX4_init 26 = .ok (.new 11, 3) := by decide +kernel
theorem dd_X4_init_29 : decode cX4_init 29 = .ok (.dup, 1) := by decide +kernel
theorem dd_X4_init_30 : decode cX4_init 30 = .ok (.invokespecial 17, 3) := by decide +kernel
theorem dd_X4_init_33 : decode cX4_init 33 = .ok (.aastore, 1) := by decide +kernel
theorem dd_X4_init_34 : decode cX4_init 34 = .ok (.iinc 1 1, 3) := by decide +kernel
theorem dd_X4_init_37 : decode cX4_init 37 = .ok (.goto (-22), 3) := by decide +kernel
theorem dd_X4_init_40 : decode cX4_init 40 = .ok (.return_, 1) := by decide +kernel
theorem dd_X4_keep_0 : decode cX4_keep 0 = .ok (.aload_n 0, 1) := by decide +kernel
theorem dd_X4_keep_1 : decode cX4_keep 1 = .ok (.getfield 13, 3) := by decide +kernel
theorem dd_X4_keep_4 : decode cX4_keep 4 = .ok (.aload_n 0, 1) := by decide +kernel
theorem dd_X4_keep_5 : decode cX4_keep 5 = .ok (.getfield 18, 3) := by decide +kernel
theorem dd_X4_keep_8 : decode cX4_keep 8 = .ok (.aaload, 1) := by decide +kernel
theorem dd_X4_keep_9 : decode cX4_keep 9 = .ok (.aload_n 1, 1) := by decide +kernel
theorem dd_X4_keep_10 : decode cX4_keep 10 = .ok (.invokevirtual 22, 3) := by decide +kernel
theorem dd_X4_keep_13 : decode cX4_keep 13 = .ok (.aload_n 0, 1) := by decide +kernel
theorem dd_X4_keep_14 : decode cX4_keep 14 = .ok (.aload_n 0, 1) := by decide +kernel
theorem dd_X4_keep_15 : decode cX4_keep 15 = .ok (.getfield 18, 3) := by decide +kernel
theorem dd_X4_keep_18 : decode cX4_keep 18 = .ok (.iconst 1, 1) := by decide +kernel
theorem dd_X4_keep_19 : decode cX4_keep 19 = .ok (.iadd, 1) := by decide +kernel
theorem dd_X4_keep_20 : decode cX4_keep 20 = .ok (.bipush 8, 2) := by decide +kernel
theorem dd_X4_keep_22 : decode cX4_keep 22 = .ok (.irem, 1) := by decide +kernel
theorem dd_X4_keep_23 : decode cX4_keep 23 = .ok (.putfield 18, 3) := by decide +kernel
theorem dd_X4_keep_26 : decode cX4_keep 26 = .ok (.aload_n 0, 1) := by decide +kernel
theorem dd_X4_keep_27 : decode cX4_keep 27 = .ok (.aload_n 0, 1) := by decide +kernel
theorem dd_X4_keep_28 : decode cX4_keep 28 = .ok (.getfield 26, 3) := by decide +kernel
theorem dd_X4_keep_31 : decode cX4_keep 31 = .ok (.iconst 1, 1) := by decide +kernel
theorem dd_X4_keep_32 : decode cX4_keep 32 = .ok (.iadd, 1) := by decide +kernel
theorem dd_X4_keep_33 : decode cX4_keep 33 = .ok (.bipush 8, 2) := by decide +kernel
theorem dd_X4_keep_35 : decode cX4_keep 35 = .ok (.invokestatic 29, 3) := by decide +kernel
theorem dd_X4_keep_38 : decode cX4_keep 38 = .ok (.putfield 26, 3) := by decide +kernel
theorem dd_X4_keep_41 : decode cX4_keep 41 = .ok (.return_, 1) := by decide +kernel
theorem dd_X5_init_0 : decode cX5_init 0 = .ok (.aload_n 0, 1) := by decide +kernel
theorem dd_X5_init_1 : decode cX5_init 1 = .ok (.invokespecial 5, 3) := by decide +kernel
theorem dd_X5_init_4 : decode cX5_init 4 = .ok (.aload_n 0, 1) := by decide +kernel
theorem dd_X5_init_5 : decode cX5_init 5 = .ok (.sipush 700, 3) := by decide +kernel
theorem dd_X5_init_8 : decode cX5_init 8 = .ok (.newarray .int, 2) := by decide +kernel
theorem dd_X5_init_10 : decode cX5_init 10 = .ok (.putfield 11, 3) := by decide +kernel
theorem dd_X5_init_13 : decode cX5_init 13 = .ok (.aload_n 0, 1) := by decide +kernel
theorem dd_X5_init_14 : decode cX5_init 14 = .ok (.bipush 126, 2) := by decide +kernel
theorem dd_X5_init_16 : decode cX5_init 16 = .ok (.newarray .int, 2) := by decide +kernel
theorem dd_X5_init_18 : decode cX5_init 18 = .ok (.putfield 15, 3) := by decide +kernel
theorem dd_X5_init_21 : decode cX5_init 21 = .ok (.aload_n 0, 1) := by decide +kernel
theorem dd_X5_init_22 : decode cX5_init 22 = .ok (.bipush 6, 2) := by decide +kernel
theorem dd_X5_init_24 : decode cX5_init 24 = .ok (.newarray .int, 2) := by decide +kernel
theorem dd_X5_init_26 : decode cX5_init 26 = .ok (.putfield 18, 3) := by decide +kernel
theorem dd_X5_init_29 : decode cX5_init 29 = .ok (.return_, 1) := by decide +kernel
theorem dd_X6_find_0 : decode cX6_find 0 = .ok (.iconst 2, 1) := by decide +kernel
theorem dd_X6_find_1 : decode cX6_find 1 = .ok (.istore_n 3, 1) := by decide +kernel
theorem dd_X6_find_2 : decode cX6_find 2 = .ok (.iload_n 3, 1) := by decide +kernel
theorem dd_X6_find_3 : decode cX6_find 3 = .ok (.iload_n 2, 1) := by decide +kernel
theorem dd_X6_find_4 : decode cX6_find 4 = .ok (.if_icmp .gt 53, 3) := by decide +kernel
theorem dd_X6_find_57 : decode cX6_find 57 = .ok (.aload_n 0, 1) := by decide +kernel
theorem dd_X6_find_58 : decode cX6_find 58 = .ok (.iconst 0, 1) := by decide +kernel
theorem dd_X6_find_59 : decode cX6_find 59 = .ok (.putfield 19, 3) := by decide +kernel
theorem dd_X6_find_62 : decode cX6_find 62 = .ok (.iconst 0, 1) := by decide +kernel
theorem dd_X6_find_63 : decode cX6_find 63 = .ok (.ireturn, 1) := by decide +kernel
theorem dd_X6_init_0 : decode cX6_init 0 = .ok (.aload_n 0, 1) := by decide +kernel
theorem dd_X6_init_1 : decode cX6_init 1 = .ok (.invokespecial 3, 3) := by decide +kernel
theorem dd_X6_init_4 : decode cX6_init 4 = .ok (.aload_n 0, 1) := by decide +kernel
theorem dd_X6_init_5 : decode cX6_init 5 = .ok (.bipush 6, 2) := by decide +kernel
theorem dd_X6_init_7 : decode cX6_init 7 = .ok (.newarray .int, 2) := by decide +kernel
theorem dd_X6_init_9 : decode cX6_init 9 = .ok (.putfield 9, 3) := by decide +kernel
theorem dd_X6_init_12 : decode cX6_init 12 = .ok (.return_, 1) := by decide +kernel
theorem dd_X7_clear_0 : decode cX7_clear 0 = .ok (.aload_n 0, 1) := by decide +kernel
theorem dd_X7_clear_1 : decode cX7_clear 1 = .ok (.iconst 0, 1) := by decide +kernel
theorem dd_X7_clear_2 : decode cX7_clear 2 = .ok (.putfield 18, 3) := by decide +kernel
theorem dd_X7_clear_5 : decode cX7_clear 5 = .ok (.aload_n 0, 1) := by decide +kernel
theorem dd_X7_clear_6 : decode cX7_clear 6 = .ok (.iconst 0, 1) := by decide +kernel
theorem dd_X7_clear_7 : decode cX7_clear 7 = .ok (.putfield 22, 3) := by decide +kernel
theorem dd_X7_clear_10 : decode cX7_clear 10 = .ok (.return_, 1) := by decide +kernel
theorem dd_X7_init_0 : decode cX7_init 0 = .ok (.aload_n 0, 1) := by decide +kernel
theorem dd_X7_init_1 : decode cX7_init 1 = .ok (.invokespecial 5, 3) := by decide +kernel
theorem dd_X7_init_4 : decode cX7_init 4 = .ok (.aload_n 0, 1) := by decide +kernel
theorem dd_X7_init_5 : decode cX7_init 5 = .ok (.bipush 40, 2) := by decide +kernel
theorem dd_X7_init_7 : decode cX7_init 7 = .ok (.newarray .int, 2) := by decide +kernel
theorem dd_X7_init_9 : decode cX7_init 9 = .ok (.putfield 11, 3) := by decide +kernel
theorem dd_X7_init_12 : decode cX7_init 12 = .ok (.aload_n 0, 1) := by decide +kernel
theorem dd_X7_init_13 : decode cX7_init 13 = .ok (.bipush 20, 2) := by decide +kernel
theorem dd_X7_init_15 : decode cX7_init 15 = .ok (.newarray .int, 2) := by decide +kernel
theorem dd_X7_init_17 : decode cX7_init 17 = .ok (.putfield 15, 3) := by decide +kernel
theorem dd_X7_init_20 : decode cX7_init 20 = .ok (.return_, 1) := by decide +kernel
theorem dd_X7_readCond_0 : decode cX7_readCond 0 = .ok (.aload_n 0, 1) := by decide +kernel
theorem dd_X7_readCond_1 : decode cX7_readCond 1 = .ok (.aload_n 1, 1) := by decide +kernel
theorem dd_X7_readCond_2 : decode cX7_readCond 2 = .ok (.aload_n 2, 1) := by decide +kernel
theorem dd_X7_readCond_3 : decode cX7_readCond 3 = .ok (.iload_n 3, 1) := by decide +kernel
theorem dd_X7_readCond_4 : decode cX7_readCond 4 = .ok (.invokevirtual 48, 3) := by decide +kernel
theorem dd_X7_readCond_7 : decode cX7_readCond 7 = .ok (.ifCond .ne 5, 3) := by decide +kernel
theorem dd_X7_readCond_10 : decode cX7_readCond 10 = .ok (.iconst 0, 1) := by decide +kernel
theorem dd_X7_readCond_11 : decode cX7_readCond 11 = .ok (.ireturn, 1) := by decide +kernel
theorem dd_X7_readOne_0 : decode cX7_readOne 0 = .ok (.aload_n 1, 1) := by decide +kernel
theorem dd_X7_readOne_1 : decode cX7_readOne 1 = .ok (.bipush 40, 2) := by decide +kernel
theorem dd_X7_readOne_3 : decode cX7_readOne 3 = .ok (.invokevirtual 61, 3) := by decide +kernel
theorem dd_X7_readOne_6 : decode cX7_readOne 6 = .ok (.istore 4, 2) := by decide +kernel
theorem dd_X7_readOne_8 : decode cX7_readOne 8 = .ok (.iload 4, 2) := by decide +kernel
theorem dd_X7_readOne_10 : decode cX7_readOne 10 = .ok (.ifCond .ne 31, 3) := by decide +kernel
theorem dd_X7_readOne_13 : decode cX7_readOne 13 = .ok (.aload_n 1, 1) := by decide +kernel
theorem dd_X7_readOne_14 : decode cX7_readOne 14 = .ok (.getfield 51, 3) := by decide +kernel
theorem dd_X7_readOne_17 : decode cX7_readOne 17 = .ok (.bipush 15, 2) := by decide +kernel
theorem dd_X7_readOne_19 : decode cX7_readOne 19 = .ok (.if_icmp .lt 12, 3) := by decide +kernel
theorem dd_X7_readOne_31 : decode cX7_readOne 31 = .ok (.aload_n 1, 1) := by decide +kernel
theorem dd_X7_readOne_32 : decode cX7_readOne 32 = .ok (.iconst 1, 1) := by decide +kernel
theorem dd_X7_readOne_33 : decode cX7_readOne 33 = .ok (.aload_n 1, 1) := by decide +kernel
theorem dd_X7_readOne_34 : decode cX7_readOne 34 = .ok (.getfield 41, 3) := by decide +kernel
theorem dd_X7_readOne_37 : decode cX7_readOne 37 = .ok (.invokevirtual 44, 3) := by decide +kernel
theorem dd_X7_readOne_40 : decode cX7_readOne 40 = .ok (.ireturn, 1) := by decide +kernel
theorem dd_X7_readWhole_0 : decode cX7_readWhole 0 = .ok (.aload_n 0, 1) := by decide +kernel
theorem dd_X7_readWhole_1 : decode cX7_readWhole 1 = .ok (.invokevirtual 29, 3) := by decide +kernel
theorem dd_X7_readWhole_4 : decode cX7_readWhole 4 = .ok (.aload_n 0, 1) := by decide +kernel
theorem dd_X7_readWhole_5 : decode cX7_readWhole 5 = .ok (.aload_n 1, 1) := by decide +kernel
theorem dd_X7_readWhole_6 : decode cX7_readWhole 6 = .ok (.aload_n 2, 1) := by decide +kernel
theorem dd_X7_readWhole_7 : decode cX7_readWhole 7 = .ok (.iconst 1, 1) := by decide +kernel
theorem dd_X7_readWhole_8 : decode cX7_readWhole 8 = .ok (.invokevirtual 32, 3) := by decide +kernel
theorem dd_X7_readWhole_11 : decode cX7_readWhole 11 = .ok (.ifCond .ne 5, 3) := by decide +kernel
theorem dd_X7_readWhole_14 : decode cX7_readWhole 14 = .ok (.iconst 0, 1) := by decide +kernel
theorem dd_X7_readWhole_15 : decode cX7_readWhole 15 = .ok (.ireturn, 1) := by decide +kernel
theorem dd_X7_takeAll_0 : decode cX7_takeAll 0 = .ok (.aload_n 1, 1) := by decide +kernel
theorem dd_X7_takeAll_1 : decode cX7_takeAll 1 = .ok (.getfield 11, 3) := by decide +kernel
theorem dd_X7_takeAll_4 : decode cX7_takeAll 4 = .ok (.aload_n 0, 1) := by decide +kernel
theorem dd_X7_takeAll_5 : decode cX7_takeAll 5 = .ok (.getfield 11, 3) := by decide +kernel
theorem dd_X7_takeAll_8 : decode cX7_takeAll 8 = .ok (.invokestatic 25, 3) := by decide +kernel
theorem dd_X7_takeAll_11 : decode cX7_takeAll 11 = .ok (.aload_n 0, 1) := by decide +kernel
theorem dd_X7_takeAll_12 : decode cX7_takeAll 12 = .ok (.aload_n 1, 1) := by decide +kernel
theorem dd_X7_takeAll_13 : decode cX7_takeAll 13 = .ok (.getfield 18, 3) := by decide +kernel
theorem dd_X7_takeAll_16 : decode cX7_takeAll 16 = .ok (.putfield 18, 3) := by decide +kernel
theorem dd_X7_takeAll_19 : decode cX7_takeAll 19 = .ok (.aload_n 0, 1) := by decide +kernel
theorem dd_X7_takeAll_20 : decode cX7_takeAll 20 = .ok (.aload_n 1, 1) := by decide +kernel
theorem dd_X7_takeAll_21 : decode cX7_takeAll 21 = .ok (.getfield 22, 3) := by decide +kernel
theorem dd_X7_takeAll_24 : decode cX7_takeAll 24 = .ok (.putfield 22, 3) := by decide +kernel
theorem dd_X7_takeAll_27 : decode cX7_takeAll 27 = .ok (.return_, 1) := by decide +kernel
theorem dd_X8_allCredit_0 : decode cX8_allCredit 0 = .ok (.aload_n 0, 1) := by decide +kernel
theorem dd_X8_allCredit_1 : decode cX8_allCredit 1 = .ok (.getfield 15, 3) := by decide +kernel
theorem dd_X8_allCredit_4 : decode cX8_allCredit 4 = .ok (.iconst 0, 1) := by decide +kernel
theorem dd_X8_allCredit_5 : decode cX8_allCredit 5 = .ok (.iconst 1, 1) := by decide +kernel
theorem dd_X8_allCredit_6 : decode cX8_allCredit 6 = .ok (.bipush 6, 2) := by decide +kernel
theorem dd_X8_allCredit_8 : decode cX8_allCredit 8 = .ok (.invokestatic 47, 3) := by decide +kernel
theorem dd_X8_allCredit_11 : decode cX8_allCredit 11 = .ok (.ireturn, 1) := by decide +kernel
theorem dd_X8_clear_0 : decode cX8_clear 0 = .ok (.aload_n 0, 1) := by decide +kernel
theorem dd_X8_clear_1 : decode cX8_clear 1 = .ok (.getfield 9, 3) := by decide +kernel
theorem dd_X8_clear_4 : decode cX8_clear 4 = .ok (.iconst 0, 1) := by decide +kernel
theorem dd_X8_clear_5 : decode cX8_clear 5 = .ok (.invokestatic 33, 3) := by decide +kernel
theorem dd_X8_clear_8 : decode cX8_clear 8 = .ok (.aload_n 0, 1) := by decide +kernel
theorem dd_X8_clear_9 : decode cX8_clear 9 = .ok (.getfield 15, 3) := by decide +kernel
theorem dd_X8_clear_12 : decode cX8_clear 12 = .ok (.iconst 0, 1) := by decide +kernel
theorem dd_X8_clear_13 : decode cX8_clear 13 = .ok (.invokestatic 33, 3) := by decide +kernel
theorem dd_X8_clear_16 : decode cX8_clear 16 = .ok (.aload_n 0, 1) := by decide +kernel
theorem dd_X8_clear_17 : decode cX8_clear 17 = .ok (.getfield 18, 3) := by decide +kernel
theorem dd_X8_clear_20 : decode cX8_clear 20 = .ok (.iconst 0, 1) := by decide +kernel
theorem dd_X8_clear_21 : decode cX8_clear 21 = .ok (.invokestatic 33, 3) := by decide +kernel
theorem dd_X8_clear_24 : decode cX8_clear 24 = .ok (.aload_n 0, 1) := by decide +kernel
theorem dd_X8_clear_25 : decode cX8_clear 25 = .ok (.getfield 21, 3) := by decide +kernel
theorem dd_X8_clear_28 : decode cX8_clear 28 = .ok (.iconst 0, 1) := by decide +kernel
theorem dd_X8_clear_29 : decode cX8_clear 29 = .ok (.invokestatic 33, 3) := by decide +kernel
theorem dd_X8_clear_32 : decode cX8_clear 32 = .ok (.aload_n 0, 1) := by decide +kernel
theorem dd_X8_clear_33 : decode cX8_clear 33 = .ok (.getfield 24, 3) := by decide +kernel
theorem dd_X8_clear_36 : decode cX8_clear 36 = .ok (.iconst 0, 1) := by decide +kernel
theorem dd_X8_clear_37 : decode cX8_clear 37 = .ok (.invokestatic 33, 3) := by decide +kernel
theorem dd_X8_clear_40 : decode cX8_clear 40 = .ok (.aload_n 0, 1) := by decide +kernel
theorem dd_X8_clear_41 : decode cX8_clear 41 = .ok (.getfield 27, 3) := by decide +kernel
theorem dd_X8_clear_44 : decode cX8_clear 44 = .ok (.iconst 0, 1) := by decide +kernel
theorem dd_X8_clear_45 : decode cX8_clear 45 = .ok (.invokestatic 33, 3) := by decide +kernel
theorem dd_X8_clear_48 : decode cX8_clear 48 = .ok (.aload_n 0, 1) := by decide +kernel
theorem dd_X8_clear_49 : decode cX8_clear 49 = .ok (.getfield 30, 3) := by decide +kernel
theorem dd_X8_clear_52 : decode cX8_clear 52 = .ok (.iconst 0, 1) := by decide +kernel
theorem dd_X8_clear_53 : decode cX8_clear 53 = .ok (.invokestatic 33, 3) := by decide +kernel
theorem dd_X8_clear_56 : decode cX8_clear 56 = .ok (.aload_n 0, 1) := by decide +kernel
theorem dd_X8_clear_57 : decode cX8_clear 57 = .ok (.iconst 0, 1) := by decide +kernel
theorem dd_X8_clear_58 : decode cX8_clear 58 = .ok (.putfield 39, 3) := by decide +kernel
theorem dd_X8_clear_61 : decode cX8_clear 61 = .ok (.return_, 1) := by decide +kernel
theorem dd_X8_init_0 : decode cX8_init 0 = .ok (.aload_n 0, 1) := by decide +kernel
theorem dd_X8_init_1 : decode cX8_init 1 = .ok (.invokespecial 3, 3) := by decide +kernel
theorem dd_X8_init_4 : decode cX8_init 4 = .ok (.aload_n 0, 1) := by decide +kernel
theorem dd_X8_init_5 : decode cX8_init 5 = .ok (.bipush 6, 2) := by decide +kernel
theorem dd_X8_init_7 : decode cX8_init 7 = .ok (.newarray .int, 2) := by decide +kernel
theorem dd_X8_init_9 : decode cX8_init 9 = .ok (.putfield 9, 3) := by decide +kernel
theorem dd_X8_init_12 : decode cX8_init 12 = .ok (.aload_n 0, 1) := by decide +kernel
theorem dd_X8_init_13 : decode cX8_init 13 = .ok (.bipush 6, 2) := by decide +kernel
theorem dd_X8_init_15 : decode cX8_init 15 = .ok (.newarray .int, 2) := by decide +kernel
theorem dd_X8_init_17 : decode cX8_init 17 = .ok (.putfield 15, 3) := by decide +kernel
theorem dd_X8_init_20 : decode cX8_init 20 = .ok (.aload_n 0, 1) := by decide +kernel
theorem dd_X8_init_21 : decode cX8_init 21 = .ok (.bipush 6, 2) := by decide +kernel
theorem dd_X8_init_23 : decode cX8_init 23 = .ok (.newarray .int, 2) := by decide +kernel
theorem dd_X8_init_25 : decode cX8_init 25 = .ok (.putfield 18, 3) := by decide +kernel
theorem dd_X8_init_28 : decode cX8_init 28 = .ok (.aload_n 0, 1) := by decide +kernel
theorem dd_X8_init_29 : decode cX8_init 29 = .ok (.bipush 6, 2) := by decide +kernel
theorem dd_X8_init_31 : decode cX8_init 31 = .ok (.newarray .int, 2) := by decide +kernel
theorem dd_X8_init_33 : decode cX8_init 33 = .ok (.putfield 21, 3) := by decide +kernel
theorem dd_X8_init_36 : decode cX8_init 36 = .ok (.aload_n 0, 1) := by decide +kernel
theorem dd_X8_init_37 : decode cX8_init 37 = .ok (.bipush 36, 2) := by decide +kernel
theorem dd_X8_init_39 : decode cX8_init 39 = .ok (.newarray .int, 2) := by decide +kernel
theorem dd_X8_init_41 : decode cX8_init 41 = .ok (.putfield 24, 3) := by decide +kernel
theorem dd_X8_init_44 : decode cX8_init 44 = .ok (.aload_n 0, 1) := by decide +kernel
theorem dd_X8_init_45 : decode cX8_init 45 = .ok (.bipush 36, 2) := by decide +kernel
theorem dd_X8_init_47 : decode cX8_init 47 = .ok (.newarray .int, 2) := by decide +kernel
theorem dd_X8_init_49 : decode cX8_init 49 = .ok (.putfield 27, 3) := by decide +kernel
theorem dd_X8_init_52 : decode cX8_init 52 = .ok (.aload_n 0, 1) := by decide +kernel
theorem dd_X8_init_53 : decode cX8_init 53 = .ok (.bipush 36, 2) := by decide +kernel
theorem dd_X8_init_55 : decode cX8_init 55 = .ok (.newarray .int, 2) := by decide +kernel
theorem dd_X8_init_57 : decode cX8_init 57 = .ok (.putfield 30, 3) := by decide +kernel
theorem dd_X8_init_60 : decode cX8_init 60 = .ok (.return_, 1) := by decide +kernel
theorem dd_X8_takeAll_0 : decode cX8_takeAll 0 = .ok (.aload_n 1, 1) := by decide +kernel
theorem dd_X8_takeAll_1 : decode cX8_takeAll 1 = .ok (.getfield 9, 3) := by decide +kernel
theorem dd_X8_takeAll_4 : decode cX8_takeAll 4 = .ok (.aload_n 0, 1) := by decide +kernel
theorem dd_X8_takeAll_5 : decode cX8_takeAll 5 = .ok (.getfield 9, 3) := by decide +kernel
theorem dd_X8_takeAll_8 : decode cX8_takeAll 8 = .ok (.invokestatic 43, 3) := by decide +kernel
theorem dd_X8_takeAll_11 : decode cX8_takeAll 11 = .ok (.aload_n 1, 1) := by decide +kernel
theorem dd_X8_takeAll_12 : decode cX8_takeAll 12 = .ok (.getfield 15, 3) := by decide +kernel
theorem dd_X8_takeAll_15 : decode cX8_takeAll 15 = .ok (.aload_n 0, 1) := by decide +kernel
theorem dd_X8_takeAll_16 : decode cX8_takeAll 16 = .ok (.getfield 15, 3) := by decide +kernel
theorem dd_X8_takeAll_19 : decode cX8_takeAll 19 = .ok (.invokestatic 43, 3) := by decide +kernel
theorem dd_X8_takeAll_22 : decode cX8_takeAll 22 = .ok (.aload_n 1, 1) := by decide +kernel
theorem dd_X8_takeAll_23 : decode cX8_takeAll 23 = .ok (.getfield 18, 3) := by decide +kernel
theorem dd_X8_takeAll_26 : decode cX8_takeAll 26 = .ok (.aload_n 0, 1) := by decide +kernel
theorem dd_X8_takeAll_27 : decode cX8_takeAll 27 = .ok (.getfield 18, 3) := by decide +kernel
theorem dd_X8_takeAll_30 : decode cX8_takeAll 30 = .ok (.invokestatic 43, 3) := by decide +kernel
theorem dd_X8_takeAll_33 : decode cX8_takeAll 33 = .ok (.aload_n 1, 1) := by decide +kernel
theorem dd_X8_takeAll_34 : decode cX8_takeAll 34 = .ok (.getfield 21, 3) := by decide +kernel
theorem dd_X8_takeAll_37 : decode cX8_takeAll 37 = .ok (.aload_n 0, 1) := by decide +kernel
theorem dd_X8_takeAll_38 : decode cX8_takeAll 38 = .ok (.getfield 21, 3) := by decide +kernel
theorem dd_X8_takeAll_41 : decode cX8_takeAll 41 = .ok (.invokestatic 43, 3) := by decide +kernel
theorem dd_X8_takeAll_44 : decode cX8_takeAll 44 = .ok (.aload_n 1, 1) := by decide +kernel
theorem dd_X8_takeAll_45 : decode cX8_takeAll 45 = .ok (.getfield 24, 3) := by decide +kernel
theorem dd_X8_takeAll_48 : decode cX8_takeAll 48 = .ok (.aload_n 0, 1) := by decide +kernel
theorem dd_X8_takeAll_49 : decode cX8_takeAll 49 = .ok (.getfield 24, 3) := by decide +kernel
theorem dd_X8_takeAll_52 : decode cX8_takeAll 52 = .ok (.invokestatic 43, 3) := by decide +kernel
theorem dd_X8_takeAll_55 : decode cX8_takeAll 55 = .ok (.aload_n 1, 1) := by decide +kernel
theorem dd_X8_takeAll_56 : decode cX8_takeAll 56 = .ok (.getfield 27, 3) := by decide +kernel
theorem dd_X8_takeAll_59 : decode cX8_takeAll 59 = .ok (.aload_n 0, 1) := by decide +kernel
theorem dd_X8_takeAll_60 : decode cX8_takeAll 60 = .ok (.getfield 27, 3) := by decide +kernel
theorem dd_X8_takeAll_63 : decode cX8_takeAll 63 = .ok (.invokestatic 43, 3) := by decide +kernel
theorem dd_X8_takeAll_66 : decode cX8_takeAll 66 = .ok (.aload_n 1, 1) := by decide +kernel
theorem dd_X8_takeAll_67 : decode cX8_takeAll 67 = .ok (.getfield 30, 3) := by decide +kernel
theorem dd_X8_takeAll_70 : decode cX8_takeAll 70 = .ok (.aload_n 0, 1) := by decide +kernel
theorem dd_X8_takeAll_71 : decode cX8_takeAll 71 = .ok (.getfield 30, 3) := by decide +kernel
theorem dd_X8_takeAll_74 : decode cX8_takeAll 74 = .ok (.invokestatic 43, 3) := by decide +kernel
theorem dd_X8_takeAll_77 : decode cX8_takeAll 77 = .ok (.aload_n 0, 1) := by decide +kernel
theorem dd_X8_takeAll_78 : decode cX8_takeAll 78 = .ok (.aload_n 1, 1) := by decide +kernel
theorem dd_X8_takeAll_79 : decode cX8_takeAll 79 = .ok (.getfield 39, 3) := by decide +kernel
theorem dd_X8_takeAll_82 : decode cX8_takeAll 82 = .ok (.putfield 39, 3) := by decide +kernel
theorem dd_X8_takeAll_85 : decode cX8_takeAll 85 = .ok (.return_, 1) := by decide +kernel
theorem dd_X9_choose_0 : decode cX9_choose 0 = .ok (.iload_n 3, 1) := by decide +kernel
theorem dd_X9_choose_1 : decode cX9_choose 1 = .ok (.istore 4, 2) := by decide +kernel
theorem dd_X9_choose_3 : decode cX9_choose 3 = .ok (.aload_n 0, 1) := by decide +kernel
theorem dd_X9_choose_4 : decode cX9_choose 4 = .ok (.iload_n 1, 1) := by decide +kernel
theorem dd_X9_choose_5 : decode cX9_choose 5 = .ok (.putfield 74, 3) := by decide +kernel
theorem dd_X9_choose_8 : decode cX9_choose 8 = .ok (.iconst 0, 1) := by decide +kernel
theorem dd_X9_choose_9 : decode cX9_choose 9 = .ok (.istore 5, 2) := by decide +kernel
theorem dd_X9_choose_11 : decode cX9_choose 11 = .ok (.iload 5, 2) := by decide +kernel
theorem dd_X9_choose_13 : decode cX9_choose 13 = .ok (.iload_n 1, 1) := by decide +kernel
theorem dd_X9_choose_14 : decode cX9_choose 14 = .ok (.if_icmp .ge 114, 3) := by decide +kernel
theorem dd_X9_choose_128 : decode cX9_choose 128 = .ok (.return_, 1) := by decide +kernel
theorem dd_X9_dearest_0 : decode cX9_dearest 0 = .ok (.iconst 0, 1) := by decide +kernel
theorem dd_X9_dearest_1 : decode cX9_dearest 1 = .ok (.istore_n 3, 1) := by decide +kernel
theorem dd_X9_dearest_2 : decode cX9_dearest 2 = .ok (.iconst 0, 1) := by decide +kernel
theorem dd_X9_dearest_3 : decode cX9_dearest 3 = .ok (.istore 4, 2) := by decide +kernel
theorem dd_X9_dearest_5 : decode cX9_dearest 5 = .ok (.iload 4, 2) := by decide +kernel
theorem dd_X9_dearest_7 : decode cX9_dearest 7 = .ok (.bipush 6, 2) := by decide +kernel
theorem dd_X9_dearest_9 : decode cX9_dearest 9 = .ok (.if_icmp .ge 38, 3) := by decide +kernel
theorem dd_X9_dearest_12 : decode cX9_dearest 12 = .ok (.aload_n 0, 1) := by decide +kernel
theorem dd_X9_dearest_13 : decode cX9_dearest 13 = .ok (.getfield 9, 3) := by decide +kernel
theorem dd_X9_dearest_16 : decode cX9_dearest 16 = .ok (.iload_n 1, 1) := by decide +kernel
theorem dd_X9_dearest_17 : decode cX9_dearest 17 = .ok (.bipush 6, 2) := by decide +kernel
theorem dd_X9_dearest_19 : decode cX9_dearest 19 = .ok (.imul, 1) := by decide +kernel
theorem dd_X9_dearest_20 : decode cX9_dearest 20 = .ok (.iload 4, 2) := by decide +kernel
theorem dd_X9_dearest_22 : decode cX9_dearest 22 = .ok (.iadd, 1) := by decide +kernel
theorem dd_X9_dearest_23 : decode cX9_dearest 23 = .ok (.iaload, 1) := by decide +kernel
theorem dd_X9_dearest_24 : decode cX9_dearest 24 = .ok (.istore 5, 2) := by decide +kernel
theorem dd_X9_dearest_26 : decode cX9_dearest 26 = .ok (.iload 5, 2) := by decide +kernel
theorem dd_X9_dearest_28 : decode cX9_dearest 28 = .ok (.iload_n 2, 1) := by decide +kernel
theorem dd_X9_dearest_29 : decode cX9_dearest 29 = .ok (.if_icmp .gt 12, 3) := by decide +kernel
theorem dd_X9_dearest_32 : decode cX9_dearest 32 = .ok (.iload 5, 2) := by decide +kernel
theorem dd_X9_dearest_34 : decode cX9_dearest 34 = .ok (.iload_n 3, 1) := by decide +kernel
theorem dd_X9_dearest_35 : decode cX9_dearest 35 = .ok (.if_icmp .le 6, 3) := by decide +kernel
theorem dd_X9_dearest_41 : decode cX9_dearest 41 = .ok (.iinc 4 1, 3) := by decide +kernel
theorem dd_X9_dearest_44 : decode cX9_dearest 44 = .ok (.goto (-39), 3) := by decide +kernel
theorem dd_X9_dearest_47 : decode cX9_dearest 47 = .ok (.iload_n 3, 1) := by decide +kernel
theorem dd_X9_dearest_48 : decode cX9_dearest 48 = .ok (.ireturn, 1) := by decide +kernel
theorem dd_X9_fillCan_0 : decode cX9_fillCan 0 = .ok (.iconst 0, 1) := by decide +kernel
theorem dd_X9_fillCan_1 : decode cX9_fillCan 1 = .ok (.istore_n 3, 1) := by decide +kernel
theorem dd_X9_fillCan_2 : decode cX9_fillCan 2 = .ok (.iload_n 3, 1) := by decide +kernel
theorem dd_X9_fillCan_3 : decode cX9_fillCan 3 = .ok (.bipush 121, 2) := by decide +kernel
theorem dd_X9_fillCan_5 : decode cX9_fillCan 5 = .ok (.if_icmp .ge 29, 3) := by decide +kernel
theorem dd_X9_fillCan_8 : decode cX9_fillCan 8 = .ok (.aload_n 0, 1) := by decide +kernel
theorem dd_X9_fillCan_9 : decode cX9_fillCan 9 = .ok (.getfield 15, 3) := by decide +kernel
theorem dd_X9_fillCan_12 : decode cX9_fillCan 12 = .ok (.iload_n 1, 1) := by decide +kernel
theorem dd_X9_fillCan_13 : decode cX9_fillCan 13 = .ok (.bipush 121, 2) := by decide +kernel
theorem dd_X9_fillCan_15 : decode cX9_fillCan 15 = .ok (.imul, 1) := by decide +kernel
theorem dd_X9_fillCan_16 : decode cX9_fillCan 16 = .ok (.iload_n 3, 1) := by decide +kernel
theorem dd_X9_fillCan_17 : decode cX9_fillCan 17 = .ok (.iadd, 1) := by decide +kernel
theorem dd_X9_fillCan_18 : decode cX9_fillCan 18 = .ok (.iload_n 3, 1) := by decide +kernel
theorem dd_X9_fillCan_19 : decode cX9_fillCan 19 = .ok (.ifCond .ne 7, 3) := by decide +kernel
theorem dd_X9_fillCan_22 : decode cX9_fillCan 22 = .ok (.iconst 1, 1) := by decide +kernel
theorem dd_X9_fillCan_23 : decode cX9_fillCan 23 = .ok (.goto 4, 3) := by decide +kernel
theorem dd_X9_fillCan_26 : decode cX9_fillCan 26 = .ok (.iconst 0, 1) := by decide +kernel
theorem dd_X9_fillCan_27 : decode cX9_fillCan 27 = .ok (.bastore, 1) := by decide +kernel
theorem dd_X9_fillCan_28 : decode cX9_fillCan 28 = .ok (.iinc 3 1, 3) := by decide +kernel
theorem dd_X9_fillCan_31 : decode cX9_fillCan 31 = .ok (.goto (-29), 3) := by decide +kernel
theorem dd_X9_fillCan_34 : decode cX9_fillCan 34 = .ok (.iload_n 1, 1) := by decide +kernel
theorem dd_X9_fillCan_35 : decode cX9_fillCan 35 = .ok (.iconst 1, 1) := by decide +kernel
theorem dd_X9_fillCan_36 : decode cX9_fillCan 36 = .ok (.isub, 1) := by decide +kernel
theorem dd_X9_fillCan_37 : decode cX9_fillCan 37 = .ok (.istore_n 3, 1) := by decide +kernel
theorem dd_X9_fillCan_38 : decode cX9_fillCan 38 = .ok (.iload_n 3, 1) := by decide +kernel
theorem dd_X9_fillCan_39 : decode cX9_fillCan 39 = .ok (.ifCond .lt 45, 3) := by decide +kernel
theorem dd_X9_fillCan_84 : decode cX9_fillCan 84 = .ok (.return_, 1) := by decide +kernel
theorem dd_X9_fillCosts_0 : decode cX9_fillCosts 0 = .ok (.aload_n 0, 1) := by decide +kernel
theorem dd_X9_fillCosts_1 : decode cX9_fillCosts 1 = .ok (.getfield 9, 3) := by decide +kernel
theorem dd_X9_fillCosts_4 : decode cX9_fillCosts 4 = .ok (.iconst 0, 1) := by decide +kernel
theorem dd_X9_fillCosts_5 : decode cX9_fillCosts 5 = .ok (.invokestatic 44, 3) := by decide +kernel
theorem dd_X9_fillCosts_8 : decode cX9_fillCosts 8 = .ok (.iconst 0, 1) := by decide +kernel
theorem dd_X9_fillCosts_9 : decode cX9_fillCosts 9 = .ok (.istore_n 2, 1) := by decide +kernel
theorem dd_X9_fillCosts_10 : decode cX9_fillCosts 10 = .ok (.iload_n 2, 1) := by decide +kernel
theorem dd_X9_fillCosts_11 : decode cX9_fillCosts 11 = .ok (.aload_n 1, 1) := by decide +kernel
theorem dd_X9_fillCosts_12 : decode cX9_fillCosts 12 = .ok (.invokevirtual 30, 3) := by decide +kernel
theorem dd_X9_fillCosts_15 : decode cX9_fillCosts 15 = .ok (.if_icmp .ge 68, 3) := by decide +kernel
theorem dd_X9_fillCosts_83 : decode cX9_fillCosts 83 = .ok (.return_, 1) := by decide +kernel
theorem dd_X9_find_0 : decode cX9_find 0 = .ok (.aload_n 0, 1) := by decide +kernel
theorem dd_X9_find_1 : decode cX9_find 1 = .ok (.aload_n 1, 1) := by decide +kernel
theorem dd_X9_find_2 : decode cX9_find 2 = .ok (.invokevirtual 22, 3) := by decide +kernel
theorem dd_X9_find_5 : decode cX9_find 5 = .ok (.aload_n 0, 1) := by decide +kernel
theorem dd_X9_find_6 : decode cX9_find 6 = .ok (.iload_n 2, 1) := by decide +kernel
theorem dd_X9_find_7 : decode cX9_find 7 = .ok (.invokevirtual 26, 3) := by decide +kernel
theorem dd_X9_find_10 : decode cX9_find 10 = .ok (.istore_n 3, 1) := by decide +kernel
theorem dd_X9_find_11 : decode cX9_find 11 = .ok (.iload_n 3, 1) := by decide +kernel
theorem dd_X9_find_12 : decode cX9_find 12 = .ok (.iconst (-1), 1) := by decide +kernel
theorem dd_X9_find_13 : decode cX9_find 13 = .ok (.if_icmp .ne 5, 3) := by decide +kernel
theorem dd_X9_find_16 : decode cX9_find 16 = .ok (.iconst (-1), 1) := by decide +kernel
theorem dd_X9_find_17 : decode cX9_find 17 = .ok (.ireturn, 1) := by decide +kernel
theorem dd_X9_find_18 : decode cX9_find 18 = .ok (.aload_n 0, 1) := by decide +kernel
theorem dd_X9_find_19 : decode cX9_find 19 = .ok (.aload_n 1, 1) := by decide +kernel
theorem dd_X9_find_20 : decode cX9_find 20 = .ok (.invokevirtual 30, 3) := by decide +kernel
theorem dd_X9_find_23 : decode cX9_find 23 = .ok (.iload_n 3, 1) := by decide +kernel
theorem dd_X9_find_24 : decode cX9_find 24 = .ok (.invokevirtual 36, 3) := by decide +kernel
theorem dd_X9_find_27 : decode cX9_find 27 = .ok (.iload_n 2, 1) := by decide +kernel
theorem dd_X9_find_28 : decode cX9_find 28 = .ok (.istore 4, 2) := by decide +kernel
theorem dd_X9_find_30 : decode cX9_find 30 = .ok (.iload 4, 2) := by decide +kernel
theorem dd_X9_find_32 : decode cX9_find 32 = .ok (.bipush 121, 2) := by decide +kernel
theorem dd_X9_find_34 : decode cX9_find 34 = .ok (.if_icmp .ge 32, 3) := by decide +kernel
theorem dd_X9_find_37 : decode cX9_find 37 = .ok (.aload_n 0, 1) := by decide +kernel
theorem dd_X9_find_38 : decode cX9_find 38 = .ok (.getfield 15, 3) := by decide +kernel
theorem dd_X9_find_41 : decode cX9_find 41 = .ok (.iload 4, 2) := by decide +kernel
theorem dd_X9_find_43 : decode cX9_find 43 = .ok (.baload, 1) := by decide +kernel
theorem dd_X9_find_44 : decode cX9_find 44 = .ok (.ifCond .eq 16, 3) := by decide +kernel
theorem dd_X9_find_47 : decode cX9_find 47 = .ok (.aload_n 0, 1) := by decide +kernel
theorem dd_X9_find_48 : decode cX9_find 48 = .ok (.aload_n 1, 1) := by decide +kernel
theorem dd_X9_find_49 : decode cX9_find 49 = .ok (.invokevirtual 30, 3) := by decide +kernel
theorem dd_X9_find_52 : decode cX9_find 52 = .ok (.iload_n 3, 1) := by decide +kernel
theorem dd_X9_find_53 : decode cX9_find 53 = .ok (.iload 4, 2) := by decide +kernel
theorem dd_X9_find_55 : decode cX9_find 55 = .ok (.invokevirtual 40, 3) := by decide +kernel
theorem dd_X9_find_58 : decode cX9_find 58 = .ok (.iload_n 3, 1) := by decide +kernel
theorem dd_X9_find_59 : decode cX9_find 59 = .ok (.ireturn, 1) := by decide +kernel
theorem dd_X9_init_0 : decode cX9_init 0 = .ok (.aload_n 0, 1) := by decide +kernel
theorem dd_X9_init_1 : decode cX9_init 1 = .ok (.invokespecial 3, 3) := by decide +kernel
theorem dd_X9_init_4 : decode cX9_init 4 = .ok (.aload_n 0, 1) := by decide +kernel
theorem dd_X9_init_5 : decode cX9_init 5 = .ok (.bipush 36, 2) := by decide +kernel
theorem dd_X9_init_7 : decode cX9_init 7 = .ok (.newarray .int, 2) := by decide +kernel
theorem dd_X9_init_9 : decode cX9_init 9 = .ok (.putfield 9, 3) := by decide +kernel
theorem dd_X9_init_12 : decode cX9_init 12 = .ok (.aload_n 0, 1) := by decide +kernel
theorem dd_X9_init_13 : decode cX9_init 13 = .ok (.sipush 847, 3) := by decide +kernel
theorem dd_X9_init_16 : decode cX9_init 16 = .ok (.newarray .boolean, 2) := by decide +kernel
theorem dd_X9_init_18 : decode cX9_init 18 = .ok (.putfield 15, 3) := by decide +kernel
theorem dd_X9_init_21 : decode cX9_init 21 = .ok (.aload_n 0, 1) := by decide +kernel
theorem dd_X9_init_22 : decode cX9_init 22 = .ok (.bipush 6, 2) := by decide +kernel
theorem dd_X9_init_24 : decode cX9_init 24 = .ok (.newarray .int, 2) := by decide +kernel
theorem dd_X9_init_26 : decode cX9_init 26 = .ok (.putfield 19, 3) := by decide +kernel
theorem dd_X9_init_29 : decode cX9_init 29 = .ok (.return_, 1) := by decide +kernel
theorem dd_X9_leastGreatest_0 : decode cX9_leastGreatest 0 = .ok (.iconst 0, 1) := by decide +kernel
theorem dd_X9_leastGreatest_1 : decode cX9_leastGreatest 1 = .ok (.istore_n 2, 1) := by decide +kernel
theorem dd_X9_leastGreatest_2 : decode cX9_leastGreatest 2 = .ok (.iload_n 2, 1) := by decide +kernel
theorem dd_X9_leastGreatest_3 : decode cX9_leastGreatest 3 = .ok (.bipush 20, 2) := by decide +kernel
theorem dd_X9_leastGreatest_5 : decode cX9_leastGreatest 5 = .ok (.if_icmp .gt 44, 3) := by decide +kernel
theorem dd_X9_leastGreatest_8 : decode cX9_leastGreatest 8 = .ok (.iconst 0, 1) := by decide +kernel
theorem dd_X9_leastGreatest_9 : decode cX9_leastGreatest 9 = .ok (.istore_n 3, 1) := by decide +kernel
theorem dd_X9_leastGreatest_10 : decode cX9_leastGreatest 10 = .ok (.iconst 0, 1) := by decide +kernel
theorem dd_X9_leastGreatest_11 : decode cX9_leastGreatest 11 = .ok (.istore 4, 2) := by decide +kernel
theorem dd_X9_leastGreatest_13 : decode cX9_leastGreatest 13 = .ok (.iload 4, 2) := by decide +kernel
theorem dd_X9_leastGreatest_15 : decode cX9_leastGreatest 15 = .ok (.bipush 6, 2) := by decide +kernel
theorem dd_X9_leastGreatest_17 : decode cX9_leastGreatest 17 = .ok (.if_icmp .ge 19, 3) := by decide +kernel
theorem dd_X9_leastGreatest_20 : decode cX9_leastGreatest 20 = .ok (.iload_n 3, 1) := by decide +kernel
theorem dd_X9_leastGreatest_21 : decode cX9_leastGreatest 21 = .ok (.aload_n 0, 1) := by decide +kernel
theorem dd_X9_leastGreatest_22 : decode cX9_leastGreatest 22 = .ok (.iload 4, 2) := by decide +kernel
theorem dd_X9_leastGreatest_24 : decode cX9_leastGreatest 24 = .ok (.iload_n 2, 1) := by decide +kernel
theorem dd_X9_leastGreatest_25 : decode cX9_leastGreatest 25 = .ok (.invokevirtual 66, 3) := by decide +kernel
theorem dd_X9_leastGreatest_28 : decode cX9_leastGreatest 28 = .ok (.iadd, 1) := by decide +kernel
theorem dd_X9_leastGreatest_29 : decode cX9_leastGreatest 29 = .ok (.istore_n 3, 1) := by decide +kernel
theorem dd_X9_leastGreatest_30 : decode cX9_leastGreatest 30 = .ok (.iinc 4 1, 3) := by decide +kernel
theorem dd_X9_leastGreatest_33 : decode cX9_leastGreatest 33 = .ok (.goto (-20), 3) := by decide +kernel
theorem dd_X9_leastGreatest_36 : decode cX9_leastGreatest 36 = .ok (.iload_n 3, 1) := by decide +kernel
theorem dd_X9_leastGreatest_37 : decode cX9_leastGreatest 37 = .ok (.iload_n 1, 1) := by decide +kernel
theorem dd_X9_leastGreatest_38 : decode cX9_leastGreatest 38 = .ok (.if_icmp .lt 5, 3) := by decide +kernel
theorem dd_X9_leastGreatest_41 : decode cX9_leastGreatest 41 = .ok (.iload_n 2, 1) := by decide +kernel
theorem dd_X9_leastGreatest_42 : decode cX9_leastGreatest 42 = .ok (.ireturn, 1) := by decide +kernel
theorem dd_X9_leastGreatest_43 : decode cX9_leastGreatest 43 = .ok (.iinc 2 1, 3) := by decide +kernel
theorem dd_X9_leastGreatest_46 : decode cX9_leastGreatest 46 = .ok (.goto (-44), 3) := by decide +kernel
theorem dd_X9_leastGreatest_49 : decode cX9_leastGreatest 49 = .ok (.iconst (-1), 1) := by decide +kernel
theorem dd_X9_leastGreatest_50 : decode cX9_leastGreatest 50 = .ok (.ireturn, 1) := by decide +kernel
theorem dd_L_law_0 : decode cL_law 0 = .ok (.new 8, 3) := by decide +kernel
theorem dd_L_law_3 : decode cL_law 3 = .ok (.dup, 1) := by decide +kernel
theorem dd_L_law_4 : decode cL_law 4 = .ok (.invokespecial 15, 3) := by decide +kernel
theorem dd_L_law_7 : decode cL_law 7 = .ok (.astore_n 1, 1) := by decide +kernel
theorem dd_L_law_8 : decode cL_law 8 = .ok (.new 16, 3) := by decide +kernel
theorem dd_L_law_11 : decode cL_law 11 = .ok (.dup, 1) := by decide +kernel
theorem dd_L_law_12 : decode cL_law 12 = .ok (.invokespecial 18, 3) := by decide +kernel
theorem dd_L_law_15 : decode cL_law 15 = .ok (.astore_n 2, 1) := by decide +kernel
theorem dd_L_law_16 : decode cL_law 16 = .ok (.iconst 1, 1) := by decide +kernel
theorem dd_L_law_17 : decode cL_law 17 = .ok (.newarray .long, 2) := by decide +kernel
theorem dd_L_law_19 : decode cL_law 19 = .ok (.astore_n 3, 1) := by decide +kernel
theorem dd_L_law_20 : decode cL_law 20 = .ok (.iconst 0, 1) := by decide +kernel
theorem dd_L_law_21 : decode cL_law 21 = .ok (.istore 4, 2) := by decide +kernel
theorem dd_L_law_23 : decode cL_law 23 = .ok (.iload 4, 2) := by decide +kernel
theorem dd_L_law_25 : decode cL_law 25 = .ok (.aload_n 0, 1) := by decide +kernel
theorem dd_L_law_26 : decode cL_law 26 = .ok (.arraylength, 1) := by decide +kernel
theorem dd_L_law_27 : decode cL_law 27 = .ok (.bipush 6, 2) := by decide +kernel
theorem dd_L_law_29 : decode cL_law 29 = .ok (.isub, 1) := by decide +kernel
theorem dd_L_law_30 : decode cL_law 30 = .ok (.if_icmp .gt 1449, 3) := by decide +kernel
theorem dd_L_law_33 : decode cL_law 33 = .ok (.aload_n 0, 1) := by decide +kernel
theorem dd_L_law_34 : decode cL_law 34 = .ok (.iload 4, 2) := by decide +kernel
theorem dd_L_law_36 : decode cL_law 36 = .ok (.iaload, 1) := by decide +kernel
theorem dd_L_law_37 : decode cL_law 37 = .ok (.bipush 63, 2) := by decide +kernel
theorem dd_L_law_39 : decode cL_law 39 = .ok (.iand, 1) := by decide +kernel
theorem dd_L_law_40 : decode cL_law 40 = .ok (.tableswitch 1433 0 41 #[184, 257, 282, 295, 308, 376, 413, 450, 487, 524, 561, 586, 623, 660, 709, 758, 771, 796, 809, 822, 847, 884, 909, 946, 983, 996, 1009, 1022, 1071, 1096, 1121, 1134, 1159, 1184, 1221, 1270, 1295, 1320, 1333, 1358, 1383, 1408], 184) := by decide +kernel
theorem dd_L_law_224 : decode cL_law 224 = .ok (.aload_n 1, 1) := by decide +kernel
theorem dd_L_law_225 : decode cL_law 225 = .ok (.aload_n 0, 1) := by decide +kernel
theorem dd_L_law_226 : decode cL_law 226 = .ok (.iload 4, 2) := by decide +kernel
theorem dd_L_law_228 : decode cL_law 228 = .ok (.iconst 1, 1) := by decide +kernel
theorem dd_L_law_229 : decode cL_law 229 = .ok (.iadd, 1) := by decide +kernel
theorem dd_L_law_230 : decode cL_law 230 = .ok (.iaload, 1) := by decide +kernel
theorem dd_L_law_231 : decode cL_law 231 = .ok (.aload_n 0, 1) := by decide +kernel
theorem dd_L_law_232 : decode cL_law 232 = .ok (.iload 4, 2) := by decide +kernel
theorem dd_L_law_234 : decode cL_law 234 = .ok (.iconst 2, 1) := by decide +kernel
theorem dd_L_law_235 : decode cL_law 235 = .ok (.iadd, 1) := by decide +kernel
theorem dd_L_law_236 : decode cL_law 236 = .ok (.iaload, 1) := by decide +kernel
theorem dd_L_law_237 : decode cL_law 237 = .ok (.aload_n 0, 1) := by decide +kernel
theorem dd_L_law_238 : decode cL_law 238 = .ok (.iload 4, 2) := by decide +kernel
theorem dd_L_law_240 : decode cL_law 240 = .ok (.iconst 3, 1) := by decide +kernel
theorem dd_L_law_241 : decode cL_law 241 = .ok (.iadd, 1) := by decide +kernel
theorem dd_L_law_242 : decode cL_law 242 = .ok (.iaload, 1) := by decide +kernel
theorem dd_L_law_243 : decode cL_law 243 = .ok (.aload_n 0, 1) := by decide +kernel
theorem dd_L_law_244 : decode cL_law 244 = .ok (.iload 4, 2) := by decide +kernel
theorem dd_L_law_246 : decode cL_law 246 = .ok (.iconst 4, 1) := by decide +kernel
theorem dd_L_law_247 : decode cL_law 247 = .ok (.iadd, 1) := by decide +kernel
theorem dd_L_law_248 : decode cL_law 248 = .ok (.iaload, 1) := by decide +kernel
theorem dd_L_law_249 : decode cL_law 249 = .ok (.aload_n 0, 1) := by decide +kernel
theorem dd_L_law_250 : decode cL_law 250 = .ok (.iload 4, 2) := by decide +kernel
theorem dd_L_law_252 : decode cL_law 252 = .ok (.iconst 5, 1) := by decide +kernel
theorem dd_L_law_253 : decode cL_law 253 = .ok (.iadd, 1) := by decide +kernel
theorem dd_L_law_254 : decode cL_law 254 = .ok (.iaload, 1) := by decide +kernel
theorem dd_L_law_255 : decode cL_law 255 = .ok (.invokevirtual 19, 3) := by decide +kernel
theorem dd_L_law_258 : decode cL_law 258 = .ok (.aload_n 2, 1) := by decide +kernel
theorem dd_L_law_259 : decode cL_law 259 = .ok (.aload_n 0, 1) := by decide +kernel
theorem dd_L_law_260 : decode cL_law 260 = .ok (.iload 4, 2) := by decide +kernel
theorem dd_L_law_262 : decode cL_law 262 = .ok (.iconst 1, 1) := by decide +kernel
theorem dd_L_law_263 : decode cL_law 263 = .ok (.iadd, 1) := by decide +kernel
theorem dd_L_law_264 : decode cL_law 264 = .ok (.iaload, 1) := by decide +kernel
theorem dd_L_law_265 : decode cL_law 265 = .ok (.aload_n 0, 1) := by decide +kernel
theorem dd_L_law_266 : decode cL_law 266 = .ok (.iload 4, 2) := by decide +kernel
theorem dd_L_law_268 : decode cL_law 268 = .ok (.iconst 2, 1) := by decide +kernel
theorem dd_L_law_269 : decode cL_law 269 = .ok (.iadd, 1) := by decide +kernel
theorem dd_L_law_270 : decode cL_law 270 = .ok (.iaload, 1) := by decide +kernel
theorem dd_L_law_271 : decode cL_law 271 = .ok (.aload_n 0, 1) := by decide +kernel
theorem dd_L_law_272 : decode cL_law 272 = .ok (.iload 4, 2) := by decide +kernel
theorem dd_L_law_274 : decode cL_law 274 = .ok (.iconst 3, 1) := by decide +kernel
theorem dd_L_law_275 : decode cL_law 275 = .ok (.iadd, 1) := by decide +kernel
theorem dd_L_law_276 : decode cL_law 276 = .ok (.iaload, 1) := by decide +kernel
theorem dd_L_law_277 : decode cL_law 277 = .ok (.aload_n 0, 1) := by decide +kernel
theorem dd_L_law_278 : decode cL_law 278 = .ok (.iload 4, 2) := by decide +kernel
theorem dd_L_law_280 : decode cL_law 280 = .ok (.iconst 4, 1) := by decide +kernel
theorem dd_L_law_281 : decode cL_law 281 = .ok (.iadd, 1) := by decide +kernel
theorem dd_L_law_282 : decode cL_law 282 = .ok (.iaload, 1) := by decide +kernel
theorem dd_L_law_283 : decode cL_law 283 = .ok (.aload_n 0, 1) := by decide +kernel
theorem dd_L_law_284 : decode cL_law 284 = .ok (.iload 4, 2) := by decide +kernel
theorem dd_L_law_286 : decode cL_law 286 = .ok (.iconst 5, 1) := by decide +kernel
theorem dd_L_law_287 : decode cL_law 287 = .ok (.iadd, 1) := by decide +kernel
theorem dd_L_law_288 : decode cL_law 288 = .ok (.iaload, 1) := by decide +kernel
theorem dd_L_law_289 : decode cL_law 289 = .ok (.invokevirtual 23, 3) := by decide +kernel
theorem dd_L_law_292 : decode cL_law 292 = .ok (.if_icmp .eq 1181, 3) := by decide +kernel
theorem dd_L_law_297 : decode cL_law 297 = .ok (.aload_n 1, 1) := by decide +kernel
theorem dd_L_law_298 : decode cL_law 298 = .ok (.aload_n 0, 1) := by decide +kernel
theorem dd_L_law_299 : decode cL_law 299 = .ok (.iload 4, 2) := by decide +kernel
theorem dd_L_law_301 : decode cL_law 301 = .ok (.iconst 1, 1) := by decide +kernel
theorem dd_L_law_302 : decode cL_law 302 = .ok (.iadd, 1) := by decide +kernel
theorem dd_L_law_303 : decode cL_law 303 = .ok (.iaload, 1) := by decide +kernel
theorem dd_L_law_304 : decode cL_law 304 = .ok (.invokevirtual 24, 3) := by decide +kernel
theorem dd_L_law_307 : decode cL_law 307 = .ok (.aload_n 2, 1) := by decide +kernel
theorem dd_L_law_308 : decode cL_law 308 = .ok (.aload_n 0, 1) := by decide +kernel
theorem dd_L_law_309 : decode cL_law 309 = .ok (.iload 4, 2) := by decide +kernel
theorem dd_L_law_311 : decode cL_law 311 = .ok (.iconst 1, 1) := by decide +kernel
theorem dd_L_law_312 : decode cL_law 312 = .ok (.iadd, 1) := by decide +kernel
theorem dd_L_law_313 : decode cL_law 313 = .ok (.iaload, 1) := by decide +kernel
theorem dd_L_law_314 : decode cL_law 314 = .ok (.invokevirtual 28, 3) := by decide +kernel
theorem dd_L_law_317 : decode cL_law 317 = .ok (.if_icmp .eq 1156, 3) := by decide +kernel
theorem dd_L_law_322 : decode cL_law 322 = .ok (.aload_n 1, 1) := by decide +kernel
theorem dd_L_law_323 : decode cL_law 323 = .ok (.invokevirtual 29, 3) := by decide +kernel
theorem dd_L_law_326 : decode cL_law 326 = .ok (.aload_n 2, 1) := by decide +kernel
theorem dd_L_law_327 : decode cL_law 327 = .ok (.invokevirtual 33, 3) := by decide +kernel
theorem dd_L_law_330 : decode cL_law 330 = .ok (.if_icmp .eq 1143, 3) := by decide +kernel
theorem dd_L_law_335 : decode cL_law 335 = .ok (.aload_n 1, 1) := by decide +kernel
theorem dd_L_law_336 : decode cL_law 336 = .ok (.invokevirtual 34, 3) := by decide +kernel
theorem dd_L_law_339 : decode cL_law 339 = .ok (.aload_n 2, 1) := by decide +kernel
theorem dd_L_law_340 : decode cL_law 340 = .ok (.invokevirtual 37, 3) := by decide +kernel
theorem dd_L_law_343 : decode cL_law 343 = .ok (.if_icmp .eq 1130, 3) := by decide +kernel
theorem dd_L_law_416 : decode cL_law 416 = .ok (.aload_n 1, 1) := by decide +kernel
theorem dd_L_law_417 : decode cL_law 417 = .ok (.aload_n 0, 1) := by decide +kernel
theorem dd_L_law_418 : decode cL_law 418 = .ok (.iload 4, 2) := by decide +kernel
theorem dd_L_law_420 : decode cL_law 420 = .ok (.iconst 1, 1) := by decide +kernel
theorem dd_L_law_421 : decode cL_law 421 = .ok (.iadd, 1) := by decide +kernel
theorem dd_L_law_422 : decode cL_law 422 = .ok (.iaload, 1) := by decide +kernel
theorem dd_L_law_423 : decode cL_law 423 = .ok (.aload_n 0, 1) := by decide +kernel
theorem dd_L_law_424 : decode cL_law 424 = .ok (.iload 4, 2) := by decide +kernel
theorem dd_L_law_426 : decode cL_law 426 = .ok (.iconst 2, 1) := by decide +kernel
theorem dd_L_law_427 : decode cL_law 427 = .ok (.iadd, 1) := by decide +kernel
theorem dd_L_law_428 : decode cL_law 428 = .ok (.iaload, 1) := by decide +kernel
theorem dd_L_law_429 : decode cL_law 429 = .ok (.invokevirtual 47, 3) := by decide +kernel
theorem dd_L_law_432 : decode cL_law 432 = .ok (.aload_n 2, 1) := by decide +kernel
theorem dd_L_law_433 : decode cL_law 433 = .ok (.aload_n 0, 1) := by decide +kernel
theorem dd_L_law_434 : decode cL_law 434 = .ok (.iload 4, 2) := by decide +kernel
theorem dd_L_law_436 : decode cL_law 436 = .ok (.iconst 1, 1) := by decide +kernel
theorem dd_L_law_437 : decode cL_law 437 = .ok (.iadd, 1) := by decide +kernel
theorem dd_L_law_438 : decode cL_law 438 = .ok (.iaload, 1) := by decide +kernel
theorem dd_L_law_439 : decode cL_law 439 = .ok (.aload_n 0, 1) := by decide +kernel
theorem dd_L_law_440 : decode cL_law 440 = .ok (.iload 4, 2) := by decide +kernel
theorem dd_L_law_442 : decode cL_law 442 = .ok (.iconst 2, 1) := by decide +kernel
theorem dd_L_law_443 : decode cL_law 443 = .ok (.iadd, 1) := by decide +kernel
theorem dd_L_law_444 : decode cL_law 444 = .ok (.iaload, 1) := by decide +kernel
theorem dd_L_law_445 : decode cL_law 445 = .ok (.invokevirtual 50, 3) := by decide +kernel
theorem dd_L_law_448 : decode cL_law 448 = .ok (.if_icmp .eq 1025, 3) := by decide +kernel
theorem dd_L_law_453 : decode cL_law 453 = .ok (.aload_n 1, 1) := by decide +kernel
theorem dd_L_law_454 : decode cL_law 454 = .ok (.aload_n 0, 1) := by decide +kernel
theorem dd_L_law_455 : decode cL_law 455 = .ok (.iload 4, 2) := by decide +kernel
theorem dd_L_law_457 : decode cL_law 457 = .ok (.iconst 1, 1) := by decide +kernel
theorem dd_L_law_458 : decode cL_law 458 = .ok (.iadd, 1) := by decide +kernel
theorem dd_L_law_459 : decode cL_law 459 = .ok (.iaload, 1) := by decide +kernel
theorem dd_L_law_460 : decode cL_law 460 = .ok (.aload_n 0, 1) := by decide +kernel
theorem dd_L_law_461 : decode cL_law 461 = .ok (.iload 4, 2) := by decide +kernel
theorem dd_L_law_463 : decode cL_law 463 = .ok (.iconst 2, 1) := by decide +kernel
theorem dd_L_law_464 : decode cL_law 464 = .ok (.iadd, 1) := by decide +kernel
theorem dd_L_law_465 : decode cL_law 465 = .ok (.iaload, 1) := by decide +kernel
theorem dd_L_law_466 : decode cL_law 466 = .ok (.invokevirtual 51, 3) := by decide +kernel
theorem dd_L_law_469 : decode cL_law 469 = .ok (.aload_n 2, 1) := by decide +kernel
theorem dd_L_law_470 : decode cL_law 470 = .ok (.aload_n 0, 1) := by decide +kernel
theorem dd_L_law_471 : decode cL_law 471 = .ok (.iload 4, 2) := by decide +kernel
theorem dd_L_law_473 : decode cL_law 473 = .ok (.iconst 1, 1) := by decide +kernel
theorem dd_L_law_474 : decode cL_law 474 = .ok (.iadd, 1) := by decide +kernel
theorem dd_L_law_475 : decode cL_law 475 = .ok (.iaload, 1) := by decide +kernel
theorem dd_L_law_476 : decode cL_law 476 = .ok (.aload_n 0, 1) := by decide +kernel
theorem dd_L_law_477 : decode cL_law 477 = .ok (.iload 4, 2) := by decide +kernel
theorem dd_L_law_479 : decode cL_law 479 = .ok (.iconst 2, 1) := by decide +kernel
theorem dd_L_law_480 : decode cL_law 480 = .ok (.iadd, 1) := by decide +kernel
theorem dd_L_law_481 : decode cL_law 481 = .ok (.iaload, 1) := by decide +kernel
theorem dd_L_law_482 : decode cL_law 482 = .ok (.invokevirtual 54, 3) := by decide +kernel
theorem dd_L_law_485 : decode cL_law 485 = .ok (.if_icmp .eq 988, 3) := by decide +kernel
theorem dd_L_law_490 : decode cL_law 490 = .ok (.aload_n 1, 1) := by decide +kernel
theorem dd_L_law_491 : decode cL_law 491 = .ok (.aload_n 0, 1) := by decide +kernel
theorem dd_L_law_492 : decode cL_law 492 = .ok (.iload 4, 2) := by decide +kernel
theorem dd_L_law_494 : decode cL_law 494 = .ok (.iconst 1, 1) := by decide +kernel
theorem dd_L_law_495 : decode cL_law 495 = .ok (.iadd, 1) := by decide +kernel
theorem dd_L_law_496 : decode cL_law 496 = .ok (.iaload, 1) := by decide +kernel
theorem dd_L_law_497 : decode cL_law 497 = .ok (.aload_n 0, 1) := by decide +kernel
theorem dd_L_law_498 : decode cL_law 498 = .ok (.iload 4, 2) := by decide +kernel
theorem dd_L_law_500 : decode cL_law 500 = .ok (.iconst 2, 1) := by decide +kernel
theorem dd_L_law_501 : decode cL_law 501 = .ok (.iadd, 1) := by decide +kernel
theorem dd_L_law_502 : decode cL_law 502 = .ok (.iaload, 1) := by decide +kernel
theorem dd_L_law_503 : decode cL_law 503 = .ok (.invokevirtual 55, 3) := by decide +kernel
theorem dd_L_law_506 : decode cL_law 506 = .ok (.aload_n 2, 1) := by decide +kernel
theorem dd_L_law_507 : decode cL_law 507 = .ok (.aload_n 0, 1) := by decide +kernel
theorem dd_L_law_508 : decode cL_law 508 = .ok (.iload 4, 2) := by decide +kernel
theorem dd_L_law_510 : decode cL_law 510 = .ok (.iconst 1, 1) := by decide +kernel
theorem dd_L_law_511 : decode cL_law 511 = .ok (.iadd, 1) := by decide +kernel
theorem dd_L_law_512 : decode cL_law 512 = .ok (.iaload, 1) := by decide +kernel
theorem dd_L_law_513 : decode cL_law 513 = .ok (.aload_n 0, 1) := by decide +kernel
theorem dd_L_law_514 : decode cL_law 514 = .ok (.iload 4, 2) := by decide +kernel
theorem dd_L_law_516 : decode cL_law 516 = .ok (.iconst 2, 1) := by decide +kernel
theorem dd_L_law_517 : decode cL_law 517 = .ok (.iadd, 1) := by decide +kernel
theorem dd_L_law_518 : decode cL_law 518 = .ok (.iaload, 1) := by decide +kernel
theorem dd_L_law_519 : decode cL_law 519 = .ok (.invokevirtual 58, 3) := by decide +kernel
theorem dd_L_law_522 : decode cL_law 522 = .ok (.if_icmp .eq 951, 3) := by decide +kernel
theorem dd_L_law_527 : decode cL_law 527 = .ok (.aload_n 1, 1) := by decide +kernel
theorem dd_L_law_528 : decode cL_law 528 = .ok (.aload_n 0, 1) := by decide +kernel
theorem dd_L_law_529 : decode cL_law 529 = .ok (.iload 4, 2) := by decide +kernel
theorem dd_L_law_531 : decode cL_law 531 = .ok (.iconst 1, 1) := by decide +kernel
theorem dd_L_law_532 : decode cL_law 532 = .ok (.iadd, 1) := by decide +kernel
theorem dd_L_law_533 : decode cL_law 533 = .ok (.iaload, 1) := by decide +kernel
theorem dd_L_law_534 : decode cL_law 534 = .ok (.aload_n 0, 1) := by decide +kernel
theorem dd_L_law_535 : decode cL_law 535 = .ok (.iload 4, 2) := by decide +kernel
theorem dd_L_law_537 : decode cL_law 537 = .ok (.iconst 2, 1) := by decide +kernel
theorem dd_L_law_538 : decode cL_law 538 = .ok (.iadd, 1) := by decide +kernel
theorem dd_L_law_539 : decode cL_law 539 = .ok (.iaload, 1) := by decide +kernel
theorem dd_L_law_540 : decode cL_law 540 = .ok (.invokevirtual 59, 3) := by decide +kernel
theorem dd_L_law_543 : decode cL_law 543 = .ok (.aload_n 2, 1) := by decide +kernel
theorem dd_L_law_544 : decode cL_law 544 = .ok (.aload_n 0, 1) := by decide +kernel
theorem dd_L_law_545 : decode cL_law 545 = .ok (.iload 4, 2) := by decide +kernel
theorem dd_L_law_547 : decode cL_law 547 = .ok (.iconst 1, 1) := by decide +kernel
theorem dd_L_law_548 : decode cL_law 548 = .ok (.iadd, 1) := by decide +kernel
theorem dd_L_law_549 : decode cL_law 549 = .ok (.iaload, 1) := by decide +kernel
theorem dd_L_law_550 : decode cL_law 550 = .ok (.aload_n 0, 1) := by decide +kernel
theorem dd_L_law_551 : decode cL_law 551 = .ok (.iload 4, 2) := by decide +kernel
theorem dd_L_law_553 : decode cL_law 553 = .ok (.iconst 2, 1) := by decide +kernel
theorem dd_L_law_554 : decode cL_law 554 = .ok (.iadd, 1) := by decide +kernel
theorem dd_L_law_555 : decode cL_law 555 = .ok (.iaload, 1) := by decide +kernel
theorem dd_L_law_556 : decode cL_law 556 = .ok (.invokevirtual 62, 3) := by decide +kernel
theorem dd_L_law_559 : decode cL_law 559 = .ok (.if_icmp .eq 914, 3) := by decide +kernel
theorem dd_L_law_564 : decode cL_law 564 = .ok (.aload_n 1, 1) := by decide +kernel
theorem dd_L_law_565 : decode cL_law 565 = .ok (.aload_n 0, 1) := by decide +kernel
theorem dd_L_law_566 : decode cL_law 566 = .ok (.iload 4, 2) := by decide +kernel
theorem dd_L_law_568 : decode cL_law 568 = .ok (.iconst 1, 1) := by decide +kernel
theorem dd_L_law_569 : decode cL_law 569 = .ok (.iadd, 1) := by decide +kernel
theorem dd_L_law_570 : decode cL_law 570 = .ok (.iaload, 1) := by decide +kernel
theorem dd_L_law_571 : decode cL_law 571 = .ok (.aload_n 0, 1) := by decide +kernel
theorem dd_L_law_572 : decode cL_law 572 = .ok (.iload 4, 2) := by decide +kernel
theorem dd_L_law_574 : decode cL_law 574 = .ok (.iconst 2, 1) := by decide +kernel
theorem dd_L_law_575 : decode cL_law 575 = .ok (.iadd, 1) := by decide +kernel
theorem dd_L_law_576 : decode cL_law 576 = .ok (.iaload, 1) := by decide +kernel
theorem dd_L_law_577 : decode cL_law 577 = .ok (.invokevirtual 63, 3) := by decide +kernel
theorem dd_L_law_580 : decode cL_law 580 = .ok (.aload_n 2, 1) := by decide +kernel
theorem dd_L_law_581 : decode cL_law 581 = .ok (.aload_n 0, 1) := by decide +kernel
theorem dd_L_law_582 : decode cL_law 582 = .ok (.iload 4, 2) := by decide +kernel
theorem dd_L_law_584 : decode cL_law 584 = .ok (.iconst 1, 1) := by decide +kernel
theorem dd_L_law_585 : decode cL_law 585 = .ok (.iadd, 1) := by decide +kernel
theorem dd_L_law_586 : decode cL_law 586 = .ok (.iaload, 1) := by decide +kernel
theorem dd_L_law_587 : decode cL_law 587 = .ok (.aload_n 0, 1) := by decide +kernel
theorem dd_L_law_588 : decode cL_law 588 = .ok (.iload 4, 2) := by decide +kernel
theorem dd_L_law_590 : decode cL_law 590 = .ok (.iconst 2, 1) := by decide +kernel
theorem dd_L_law_591 : decode cL_law 591 = .ok (.iadd, 1) := by decide +kernel
theorem dd_L_law_592 : decode cL_law 592 = .ok (.iaload, 1) := by decide +kernel
theorem dd_L_law_593 : decode cL_law 593 = .ok (.invokevirtual 66, 3) := by decide +kernel
theorem dd_L_law_596 : decode cL_law 596 = .ok (.if_icmp .eq 877, 3) := by decide +kernel
theorem dd_L_law_601 : decode cL_law 601 = .ok (.aload_n 1, 1) := by decide +kernel
theorem dd_L_law_602 : decode cL_law 602 = .ok (.aload_n 0, 1) := by decide +kernel
