theorem dd_X12_lasts_31 : decode cX12_lasts 31 = .ok (.ireturn, 1) := by decide +kernel
theorem dd_X12_layAside_0 : decode cX12_layAside 0 = .ok (.iconst 0, 1) := by decide +kernel
theorem dd_X12_layAside_1 : decode cX12_layAside 1 = .ok (.istore_n 1, 1) := by decide +kernel
theorem dd_X12_layAside_2 : decode cX12_layAside 2 = .ok (.iload_n 1, 1) := by decide +kernel
theorem dd_X12_layAside_3 : decode cX12_layAside 3 = .ok (.sipush 133, 3) := by decide +kernel
theorem dd_X12_layAside_6 : decode cX12_layAside 6 = .ok (.if_icmp .ge 24, 3) := by decide +kernel
theorem dd_X12_layAside_9 : decode cX12_layAside 9 = .ok (.aload_n 0, 1) := by decide +kernel
theorem dd_X12_layAside_10 : decode cX12_layAside 10 = .ok (.getfield 110, 3) := by decide +kernel
theorem dd_X12_layAside_13 : decode cX12_layAside 13 = .ok (.iload_n 1, 1) := by decide +kernel
theorem dd_X12_layAside_14 : decode cX12_layAside 14 = .ok (.aload_n 0, 1) := by decide +kernel
theorem dd_X12_layAside_15 : decode cX12_layAside 15 = .ok (.getfield 98, 3) := by decide +kernel
theorem dd_X12_layAside_18 : decode cX12_layAside 18 = .ok (.bipush 101, 2) := by decide +kernel
theorem dd_X12_layAside_20 : decode cX12_layAside 20 = .ok (.iload_n 1, 1) := by decide +kernel
theorem dd_X12_layAside_21 : decode cX12_layAside 21 = .ok (.iadd, 1) := by decide +kernel
theorem dd_X12_layAside_22 : decode cX12_layAside 22 = .ok (.iaload, 1) := by decide +kernel
theorem dd_X12_layAside_23 : decode cX12_layAside 23 = .ok (.iastore, 1) := by decide +kernel
theorem dd_X12_layAside_24 : decode cX12_layAside 24 = .ok (.iinc 1 1, 3) := by decide +kernel
theorem dd_X12_layAside_27 : decode cX12_layAside 27 = .ok (.goto (-25), 3) := by decide +kernel
theorem dd_X12_layAside_30 : decode cX12_layAside 30 = .ok (.return_, 1) := by decide +kernel
theorem dd_X12_layReach_0 : decode cX12_layReach 0 = .ok (.aload_n 0, 1) := by decide +kernel
theorem dd_X12_layReach_1 : decode cX12_layReach 1 = .ok (.getfield 98, 3) := by decide +kernel
theorem dd_X12_layReach_4 : decode cX12_layReach 4 = .ok (.iconst 0, 1) := by decide +kernel
theorem dd_X12_layReach_5 : decode cX12_layReach 5 = .ok (.iaload, 1) := by decide +kernel
theorem dd_X12_layReach_6 : decode cX12_layReach 6 = .ok (.istore_n 2, 1) := by decide +kernel
theorem dd_X12_layReach_7 : decode cX12_layReach 7 = .ok (.iconst 0, 1) := by decide +kernel
theorem dd_X12_layReach_8 : decode cX12_layReach 8 = .ok (.istore_n 3, 1) := by decide +kernel
theorem dd_X12_layReach_9 : decode cX12_layReach 9 = .ok (.iload_n 3, 1) := by decide +kernel
theorem dd_X12_layReach_10 : decode cX12_layReach 10 = .ok (.bipush 120, 2) := by decide +kernel
theorem dd_X12_layReach_12 : decode cX12_layReach 12 = .ok (.if_icmp .gt 29, 3) := by decide +kernel
theorem dd_X12_layReach_15 : decode cX12_layReach 15 = .ok (.aload_n 0, 1) := by decide +kernel
theorem dd_X12_layReach_16 : decode cX12_layReach 16 = .ok (.getfield 154, 3) := by decide +kernel
theorem dd_X12_layReach_19 : decode cX12_layReach 19 = .ok (.bipush 121, 2) := by decide +kernel
theorem dd_X12_layReach_21 : decode cX12_layReach 21 = .ok (.iload_n 2, 1) := by decide +kernel
theorem dd_X12_layReach_22 : decode cX12_layReach 22 = .ok (.imul, 1) := by decide +kernel
theorem dd_X12_layReach_23 : decode cX12_layReach 23 = .ok (.iload_n 3, 1) := by decide +kernel
theorem dd_X12_layReach_24 : decode cX12_layReach 24 = .ok (.iadd, 1) := by decide +kernel
theorem dd_X12_layReach_25 : decode cX12_layReach 25 = .ok (.iload_n 3, 1) := by decide +kernel
theorem dd_X12_layReach_26 : decode cX12_layReach 26 = .ok (.ifCond .ne 7, 3) := by decide +kernel
theorem dd_X12_layReach_29 : decode cX12_layReach 29 = .ok (.iconst 1, 1) := by decide +kernel
theorem dd_X12_layReach_30 : decode cX12_layReach 30 = .ok (.goto 4, 3) := by decide +kernel
theorem dd_X12_layReach_33 : decode cX12_layReach 33 = .ok (.iconst 0, 1) := by decide +kernel
theorem dd_X12_layReach_34 : decode cX12_layReach 34 = .ok (.bastore, 1) := by decide +kernel
theorem dd_X12_layReach_35 : decode cX12_layReach 35 = .ok (.iinc 3 1, 3) := by decide +kernel
theorem dd_X12_layReach_38 : decode cX12_layReach 38 = .ok (.goto (-29), 3) := by decide +kernel
theorem dd_X12_layReach_41 : decode cX12_layReach 41 = .ok (.iload_n 2, 1) := by decide +kernel
theorem dd_X12_layReach_42 : decode cX12_layReach 42 = .ok (.iconst 1, 1) := by decide +kernel
theorem dd_X12_layReach_43 : decode cX12_layReach 43 = .ok (.isub, 1) := by decide +kernel
theorem dd_X12_layReach_44 : decode cX12_layReach 44 = .ok (.istore_n 3, 1) := by decide +kernel
theorem dd_X12_layReach_45 : decode cX12_layReach 45 = .ok (.iload_n 3, 1) := by decide +kernel
theorem dd_X12_layReach_46 : decode cX12_layReach 46 = .ok (.ifCond .lt 135, 3) := by decide +kernel
theorem dd_X12_layReach_181 : decode cX12_layReach 181 = .ok (.return_, 1) := by decide +kernel
theorem dd_X12_layRing_0 : decode cX12_layRing 0 = .ok (.iconst 2, 1) := by decide +kernel
theorem dd_X12_layRing_1 : decode cX12_layRing 1 = .ok (.istore_n 1, 1) := by decide +kernel
theorem dd_X12_layRing_2 : decode cX12_layRing 2 = .ok (.iload_n 1, 1) := by decide +kernel
theorem dd_X12_layRing_3 : decode cX12_layRing 3 = .ok (.aload_n 0, 1) := by decide +kernel
theorem dd_X12_layRing_4 : decode cX12_layRing 4 = .ok (.getfield 98, 3) := by decide +kernel
theorem dd_X12_layRing_7 : decode cX12_layRing 7 = .ok (.iconst 0, 1) := by decide +kernel
theorem dd_X12_layRing_8 : decode cX12_layRing 8 = .ok (.iaload, 1) := by decide +kernel
theorem dd_X12_layRing_9 : decode cX12_layRing 9 = .ok (.if_icmp .gt 45, 3) := by decide +kernel
theorem dd_X12_layRing_54 : decode cX12_layRing 54 = .ok (.iconst 0, 1) := by decide +kernel
theorem dd_X12_layRing_55 : decode cX12_layRing 55 = .ok (.ireturn, 1) := by decide +kernel
theorem dd_X12_least_0 : decode cX12_least 0 = .ok (.iload_n 0, 1) := by decide +kernel
theorem dd_X12_least_1 : decode cX12_least 1 = .ok (.iload_n 1, 1) := by decide +kernel
theorem dd_X12_least_2 : decode cX12_least 2 = .ok (.if_icmp .ge 7, 3) := by decide +kernel
theorem dd_X12_least_5 : decode cX12_least 5 = .ok (.iload_n 0, 1) := by decide +kernel
theorem dd_X12_least_6 : decode cX12_least 6 = .ok (.goto 4, 3) := by decide +kernel
theorem dd_X12_least_10 : decode cX12_least 10 = .ok (.ireturn, 1) := by decide +kernel
theorem dd_X12_lend_0 : decode cX12_lend 0 = .ok (.aload_n 0, 1) := by decide +kernel
theorem dd_X12_lend_1 : decode cX12_lend 1 = .ok (.iconst 0, 1) := by decide +kernel
theorem dd_X12_lend_2 : decode cX12_lend 2 = .ok (.putfield 1, 3) := by decide +kernel
theorem dd_X12_lend_5 : decode cX12_lend 5 = .ok (.aload_n 0, 1) := by decide +kernel
theorem dd_X12_lend_6 : decode cX12_lend 6 = .ok (.iload_n 1, 1) := by decide +kernel
theorem dd_X12_lend_7 : decode cX12_lend 7 = .ok (.invokevirtual 251, 3) := by decide +kernel
theorem dd_X12_lend_10 : decode cX12_lend 10 = .ok (.ifCond .eq 32, 3) := by decide +kernel
theorem dd_X12_lend_42 : decode cX12_lend 42 = .ok (.iconst (-1), 1) := by decide +kernel
theorem dd_X12_lend_43 : decode cX12_lend 43 = .ok (.ireturn, 1) := by decide +kernel
theorem dd_X12_list_0 : decode cX12_list 0 = .ok (.aload_n 0, 1) := by decide +kernel
theorem dd_X12_list_1 : decode cX12_list 1 = .ok (.iconst 0, 1) := by decide +kernel
theorem dd_X12_list_2 : decode cX12_list 2 = .ok (.putfield 1, 3) := by decide +kernel
theorem dd_X12_list_5 : decode cX12_list 5 = .ok (.aload_n 0, 1) := by decide +kernel
theorem dd_X12_list_6 : decode cX12_list 6 = .ok (.iload_n 1, 1) := by decide +kernel
theorem dd_X12_list_7 : decode cX12_list 7 = .ok (.invokevirtual 251, 3) := by decide +kernel
theorem dd_X12_list_10 : decode cX12_list 10 = .ok (.ifCond .ne 5, 3) := by decide +kernel
theorem dd_X12_list_13 : decode cX12_list 13 = .ok (.iconst (-1), 1) := by decide +kernel
theorem dd_X12_list_14 : decode cX12_list 14 = .ok (.ireturn, 1) := by decide +kernel
theorem dd_X12_now_0 : decode cX12_now 0 = .ok (.aload_n 0, 1) := by decide +kernel
theorem dd_X12_now_1 : decode cX12_now 1 = .ok (.iconst 0, 1) := by decide +kernel
theorem dd_X12_now_2 : decode cX12_now 2 = .ok (.putfield 1, 3) := by decide +kernel
theorem dd_X12_now_5 : decode cX12_now 5 = .ok (.iload_n 1, 1) := by decide +kernel
theorem dd_X12_now_6 : decode cX12_now 6 = .ok (.tableswitch 93 0 5 #[38, 46, 55, 64, 73, 83], 38) := by decide +kernel
theorem dd_X12_now_44 : decode cX12_now 44 = .ok (.aload_n 0, 1) := by decide +kernel
theorem dd_X12_now_45 : decode cX12_now 45 = .ok (.getfield 98, 3) := by decide +kernel
theorem dd_X12_now_48 : decode cX12_now 48 = .ok (.bipush 101, 2) := by decide +kernel
theorem dd_X12_now_50 : decode cX12_now 50 = .ok (.iaload, 1) := by decide +kernel
theorem dd_X12_now_51 : decode cX12_now 51 = .ok (.ireturn, 1) := by decide +kernel
theorem dd_X12_now_52 : decode cX12_now 52 = .ok (.aload_n 0, 1) := by decide +kernel
theorem dd_X12_now_53 : decode cX12_now 53 = .ok (.bipush 102, 2) := by decide +kernel
theorem dd_X12_now_55 : decode cX12_now 55 = .ok (.bipush 6, 2) := by decide +kernel
theorem dd_X12_now_57 : decode cX12_now 57 = .ok (.invokevirtual 266, 3) := by decide +kernel
theorem dd_X12_now_60 : decode cX12_now 60 = .ok (.ireturn, 1) := by decide +kernel
theorem dd_X12_now_61 : decode cX12_now 61 = .ok (.aload_n 0, 1) := by decide +kernel
theorem dd_X12_now_62 : decode cX12_now 62 = .ok (.bipush 108, 2) := by decide +kernel
theorem dd_X12_now_64 : decode cX12_now 64 = .ok (.bipush 6, 2) := by decide +kernel
theorem dd_X12_now_66 : decode cX12_now 66 = .ok (.invokevirtual 266, 3) := by decide +kernel
theorem dd_X12_now_69 : decode cX12_now 69 = .ok (.ireturn, 1) := by decide +kernel
theorem dd_X12_now_70 : decode cX12_now 70 = .ok (.aload_n 0, 1) := by decide +kernel
theorem dd_X12_now_71 : decode cX12_now 71 = .ok (.bipush 120, 2) := by decide +kernel
theorem dd_X12_now_73 : decode cX12_now 73 = .ok (.bipush 36, 2) := by decide +kernel
theorem dd_X12_now_75 : decode cX12_now 75 = .ok (.invokevirtual 266, 3) := by decide +kernel
theorem dd_X12_now_78 : decode cX12_now 78 = .ok (.ireturn, 1) := by decide +kernel
theorem dd_X12_now_79 : decode cX12_now 79 = .ok (.aload_n 0, 1) := by decide +kernel
theorem dd_X12_now_80 : decode cX12_now 80 = .ok (.sipush 156, 3) := by decide +kernel
theorem dd_X12_now_83 : decode cX12_now 83 = .ok (.bipush 36, 2) := by decide +kernel
theorem dd_X12_now_85 : decode cX12_now 85 = .ok (.invokevirtual 266, 3) := by decide +kernel
theorem dd_X12_now_88 : decode cX12_now 88 = .ok (.ireturn, 1) := by decide +kernel
theorem dd_X12_now_89 : decode cX12_now 89 = .ok (.aload_n 0, 1) := by decide +kernel
theorem dd_X12_now_90 : decode cX12_now 90 = .ok (.sipush 192, 3) := by decide +kernel
theorem dd_X12_now_93 : decode cX12_now 93 = .ok (.bipush 36, 2) := by decide +kernel
theorem dd_X12_now_95 : decode cX12_now 95 = .ok (.invokevirtual 266, 3) := by decide +kernel
theorem dd_X12_now_98 : decode cX12_now 98 = .ok (.ireturn, 1) := by decide +kernel
theorem dd_X12_now_99 : decode cX12_now 99 = .ok (.iconst (-1), 1) := by decide +kernel
theorem dd_X12_now_100 : decode cX12_now 100 = .ok (.ireturn, 1) := by decide +kernel
theorem dd_X12_odds_0 : decode cX12_odds 0 = .ok (.aload_n 0, 1) := by decide +kernel
theorem dd_X12_odds_1 : decode cX12_odds 1 = .ok (.iconst 0, 1) := by decide +kernel
theorem dd_X12_odds_2 : decode cX12_odds 2 = .ok (.putfield 1, 3) := by decide +kernel
theorem dd_X12_odds_5 : decode cX12_odds 5 = .ok (.aload_n 0, 1) := by decide +kernel
theorem dd_X12_odds_6 : decode cX12_odds 6 = .ok (.iload_n 1, 1) := by decide +kernel
theorem dd_X12_odds_7 : decode cX12_odds 7 = .ok (.invokevirtual 251, 3) := by decide +kernel
theorem dd_X12_odds_10 : decode cX12_odds 10 = .ok (.ifCond .eq 13, 3) := by decide +kernel
theorem dd_X12_odds_23 : decode cX12_odds 23 = .ok (.iconst (-1), 1) := by decide +kernel
theorem dd_X12_odds_24 : decode cX12_odds 24 = .ok (.ireturn, 1) := by decide +kernel
theorem dd_X12_oneWeek_0 : decode cX12_oneWeek 0 = .ok (.iconst 0, 1) := by decide +kernel
theorem dd_X12_oneWeek_1 : decode cX12_oneWeek 1 = .ok (.istore_n 1, 1) := by decide +kernel
theorem dd_X12_oneWeek_2 : decode cX12_oneWeek 2 = .ok (.iload_n 1, 1) := by decide +kernel
theorem dd_X12_oneWeek_3 : decode cX12_oneWeek 3 = .ok (.bipush 6, 2) := by decide +kernel
theorem dd_X12_oneWeek_5 : decode cX12_oneWeek 5 = .ok (.if_icmp .ge 45, 3) := by decide +kernel
theorem dd_X12_oneWeek_8 : decode cX12_oneWeek 8 = .ok (.aload_n 0, 1) := by decide +kernel
theorem dd_X12_oneWeek_9 : decode cX12_oneWeek 9 = .ok (.getfield 98, 3) := by decide +kernel
theorem dd_X12_oneWeek_12 : decode cX12_oneWeek 12 = .ok (.bipush 102, 2) := by decide +kernel
theorem dd_X12_oneWeek_14 : decode cX12_oneWeek 14 = .ok (.iload_n 1, 1) := by decide +kernel
theorem dd_X12_oneWeek_15 : decode cX12_oneWeek 15 = .ok (.iadd, 1) := by decide +kernel
theorem dd_X12_oneWeek_16 : decode cX12_oneWeek 16 = .ok (.aload_n 0, 1) := by decide +kernel
theorem dd_X12_oneWeek_17 : decode cX12_oneWeek 17 = .ok (.getfield 98, 3) := by decide +kernel
theorem dd_X12_oneWeek_20 : decode cX12_oneWeek 20 = .ok (.iconst 5, 1) := by decide +kernel
theorem dd_X12_oneWeek_21 : decode cX12_oneWeek 21 = .ok (.iload_n 1, 1) := by decide +kernel
theorem dd_X12_oneWeek_22 : decode cX12_oneWeek 22 = .ok (.iadd, 1) := by decide +kernel
theorem dd_X12_oneWeek_23 : decode cX12_oneWeek 23 = .ok (.iaload, 1) := by decide +kernel
theorem dd_X12_oneWeek_24 : decode cX12_oneWeek 24 = .ok (.aload_n 0, 1) := by decide +kernel
theorem dd_X12_oneWeek_25 : decode cX12_oneWeek 25 = .ok (.getfield 98, 3) := by decide +kernel
theorem dd_X12_oneWeek_28 : decode cX12_oneWeek 28 = .ok (.bipush 102, 2) := by decide +kernel
theorem dd_X12_oneWeek_30 : decode cX12_oneWeek 30 = .ok (.iload_n 1, 1) := by decide +kernel
theorem dd_X12_oneWeek_31 : decode cX12_oneWeek 31 = .ok (.iadd, 1) := by decide +kernel
theorem dd_X12_oneWeek_32 : decode cX12_oneWeek 32 = .ok (.iaload, 1) := by decide +kernel
theorem dd_X12_oneWeek_33 : decode cX12_oneWeek 33 = .ok (.aload_n 0, 1) := by decide +kernel
theorem dd_X12_oneWeek_34 : decode cX12_oneWeek 34 = .ok (.getfield 98, 3) := by decide +kernel
theorem dd_X12_oneWeek_37 : decode cX12_oneWeek 37 = .ok (.iconst 4, 1) := by decide +kernel
theorem dd_X12_oneWeek_38 : decode cX12_oneWeek 38 = .ok (.iaload, 1) := by decide +kernel
theorem dd_X12_oneWeek_39 : decode cX12_oneWeek 39 = .ok (.iadd, 1) := by decide +kernel
theorem dd_X12_oneWeek_40 : decode cX12_oneWeek 40 = .ok (.invokestatic 237, 3) := by decide +kernel
theorem dd_X12_oneWeek_43 : decode cX12_oneWeek 43 = .ok (.iastore, 1) := by decide +kernel
theorem dd_X12_oneWeek_44 : decode cX12_oneWeek 44 = .ok (.iinc 1 1, 3) := by decide +kernel
theorem dd_X12_oneWeek_47 : decode cX12_oneWeek 47 = .ok (.goto (-45), 3) := by decide +kernel
theorem dd_X12_oneWeek_50 : decode cX12_oneWeek 50 = .ok (.aload_n 0, 1) := by decide +kernel
theorem dd_X12_oneWeek_51 : decode cX12_oneWeek 51 = .ok (.getfield 98, 3) := by decide +kernel
theorem dd_X12_oneWeek_54 : decode cX12_oneWeek 54 = .ok (.bipush 101, 2) := by decide +kernel
theorem dd_X12_oneWeek_56 : decode cX12_oneWeek 56 = .ok (.dup2, 1) := by decide +kernel
theorem dd_X12_oneWeek_57 : decode cX12_oneWeek 57 = .ok (.iaload, 1) := by decide +kernel
theorem dd_X12_oneWeek_58 : decode cX12_oneWeek 58 = .ok (.iconst 1, 1) := by decide +kernel
theorem dd_X12_oneWeek_59 : decode cX12_oneWeek 59 = .ok (.iadd, 1) := by decide +kernel
theorem dd_X12_oneWeek_60 : decode cX12_oneWeek 60 = .ok (.iastore, 1) := by decide +kernel
theorem dd_X12_oneWeek_61 : decode cX12_oneWeek 61 = .ok (.return_, 1) := by decide +kernel
theorem dd_X12_owes_0 : decode cX12_owes 0 = .ok (.aload_n 0, 1) := by decide +kernel
theorem dd_X12_owes_1 : decode cX12_owes 1 = .ok (.iconst 0, 1) := by decide +kernel
theorem dd_X12_owes_2 : decode cX12_owes 2 = .ok (.putfield 1, 3) := by decide +kernel
theorem dd_X12_owes_5 : decode cX12_owes 5 = .ok (.aload_n 0, 1) := by decide +kernel
theorem dd_X12_owes_6 : decode cX12_owes 6 = .ok (.iload_n 1, 1) := by decide +kernel
theorem dd_X12_owes_7 : decode cX12_owes 7 = .ok (.invokevirtual 251, 3) := by decide +kernel
theorem dd_X12_owes_10 : decode cX12_owes 10 = .ok (.ifCond .eq 20, 3) := by decide +kernel
theorem dd_X12_owes_30 : decode cX12_owes 30 = .ok (.iconst (-1), 1) := by decide +kernel
theorem dd_X12_owes_31 : decode cX12_owes 31 = .ok (.ireturn, 1) := by decide +kernel
theorem dd_X12_passWeeks_0 : decode cX12_passWeeks 0 = .ok (.iload_n 1, 1) := by decide +kernel
theorem dd_X12_passWeeks_1 : decode cX12_passWeeks 1 = .ok (.sipush 200, 3) := by decide +kernel
theorem dd_X12_passWeeks_4 : decode cX12_passWeeks 4 = .ok (.aload_n 0, 1) := by decide +kernel
theorem dd_X12_passWeeks_5 : decode cX12_passWeeks 5 = .ok (.getfield 98, 3) := by decide +kernel
theorem dd_X12_passWeeks_8 : decode cX12_passWeeks 8 = .ok (.bipush 101, 2) := by decide +kernel
theorem dd_X12_passWeeks_10 : decode cX12_passWeeks 10 = .ok (.iaload, 1) := by decide +kernel
theorem dd_X12_passWeeks_11 : decode cX12_passWeeks 11 = .ok (.isub, 1) := by decide +kernel
theorem dd_X12_passWeeks_12 : decode cX12_passWeeks 12 = .ok (.invokestatic 237, 3) := by decide +kernel
theorem dd_X12_passWeeks_15 : decode cX12_passWeeks 15 = .ok (.istore_n 2, 1) := by decide +kernel
theorem dd_X12_passWeeks_16 : decode cX12_passWeeks 16 = .ok (.iconst 0, 1) := by decide +kernel
theorem dd_X12_passWeeks_17 : decode cX12_passWeeks 17 = .ok (.istore_n 3, 1) := by decide +kernel
theorem dd_X12_passWeeks_18 : decode cX12_passWeeks 18 = .ok (.iload_n 3, 1) := by decide +kernel
theorem dd_X12_passWeeks_19 : decode cX12_passWeeks 19 = .ok (.iload_n 2, 1) := by decide +kernel
theorem dd_X12_passWeeks_20 : decode cX12_passWeeks 20 = .ok (.if_icmp .ge 13, 3) := by decide +kernel
theorem dd_X12_passWeeks_23 : decode cX12_passWeeks 23 = .ok (.aload_n 0, 1) := by decide +kernel
theorem dd_X12_passWeeks_24 : decode cX12_passWeeks 24 = .ok (.invokevirtual 311, 3) := by decide +kernel
theorem dd_X12_passWeeks_27 : decode cX12_passWeeks 27 = .ok (.iinc 3 1, 3) := by decide +kernel
theorem dd_X12_passWeeks_30 : decode cX12_passWeeks 30 = .ok (.goto (-12), 3) := by decide +kernel
theorem dd_X12_passWeeks_33 : decode cX12_passWeeks 33 = .ok (.iload_n 2, 1) := by decide +kernel
theorem dd_X12_passWeeks_34 : decode cX12_passWeeks 34 = .ok (.ireturn, 1) := by decide +kernel
theorem dd_X12_plan_0 : decode cX12_plan 0 = .ok (.aload_n 0, 1) := by decide +kernel
theorem dd_X12_plan_1 : decode cX12_plan 1 = .ok (.iconst 0, 1) := by decide +kernel
theorem dd_X12_plan_2 : decode cX12_plan 2 = .ok (.putfield 1, 3) := by decide +kernel
theorem dd_X12_plan_5 : decode cX12_plan 5 = .ok (.aload_n 0, 1) := by decide +kernel
theorem dd_X12_plan_6 : decode cX12_plan 6 = .ok (.iload_n 1, 1) := by decide +kernel
theorem dd_X12_plan_7 : decode cX12_plan 7 = .ok (.invokevirtual 251, 3) := by decide +kernel
theorem dd_X12_plan_10 : decode cX12_plan 10 = .ok (.ifCond .eq 14, 3) := by decide +kernel
theorem dd_X12_plan_24 : decode cX12_plan 24 = .ok (.iconst (-1), 1) := by decide +kernel
theorem dd_X12_plan_25 : decode cX12_plan 25 = .ok (.ireturn, 1) := by decide +kernel
theorem dd_X12_planned_0 : decode cX12_planned 0 = .ok (.aload_n 0, 1) := by decide +kernel
theorem dd_X12_planned_1 : decode cX12_planned 1 = .ok (.iconst 0, 1) := by decide +kernel
theorem dd_X12_planned_2 : decode cX12_planned 2 = .ok (.putfield 1, 3) := by decide +kernel
theorem dd_X12_planned_5 : decode cX12_planned 5 = .ok (.aload_n 0, 1) := by decide +kernel
theorem dd_X12_planned_6 : decode cX12_planned 6 = .ok (.getfield 330, 3) := by decide +kernel
theorem dd_X12_planned_9 : decode cX12_planned 9 = .ok (.ifCond .eq 26, 3) := by decide +kernel
theorem dd_X12_planned_35 : decode cX12_planned 35 = .ok (.iconst (-1), 1) := by decide +kernel
theorem dd_X12_planned_36 : decode cX12_planned 36 = .ok (.ireturn, 1) := by decide +kernel
theorem dd_X12_proudest_0 : decode cX12_proudest 0 = .ok (.aload_n 0, 1) := by decide +kernel
theorem dd_X12_proudest_1 : decode cX12_proudest 1 = .ok (.iconst 0, 1) := by decide +kernel
theorem dd_X12_proudest_2 : decode cX12_proudest 2 = .ok (.putfield 1, 3) := by decide +kernel
theorem dd_X12_proudest_5 : decode cX12_proudest 5 = .ok (.iconst (-1), 1) := by decide +kernel
theorem dd_X12_proudest_6 : decode cX12_proudest 6 = .ok (.istore_n 1, 1) := by decide +kernel
theorem dd_X12_proudest_7 : decode cX12_proudest 7 = .ok (.iconst 0, 1) := by decide +kernel
theorem dd_X12_proudest_8 : decode cX12_proudest 8 = .ok (.istore_n 2, 1) := by decide +kernel
theorem dd_X12_proudest_9 : decode cX12_proudest 9 = .ok (.iload_n 2, 1) := by decide +kernel
theorem dd_X12_proudest_10 : decode cX12_proudest 10 = .ok (.aload_n 0, 1) := by decide +kernel
theorem dd_X12_proudest_11 : decode cX12_proudest 11 = .ok (.getfield 98, 3) := by decide +kernel
theorem dd_X12_proudest_14 : decode cX12_proudest 14 = .ok (.iconst 0, 1) := by decide +kernel
theorem dd_X12_proudest_15 : decode cX12_proudest 15 = .ok (.iaload, 1) := by decide +kernel
theorem dd_X12_proudest_16 : decode cX12_proudest 16 = .ok (.if_icmp .ge 37, 3) := by decide +kernel
theorem dd_X12_proudest_53 : decode cX12_proudest 53 = .ok (.iload_n 1, 1) := by decide +kernel
theorem dd_X12_proudest_54 : decode cX12_proudest 54 = .ok (.ireturn, 1) := by decide +kernel
theorem dd_X12_readAnd_0 : decode cX12_readAnd 0 = .ok (.aload_n 0, 1) := by decide +kernel
theorem dd_X12_readAnd_1 : decode cX12_readAnd 1 = .ok (.invokevirtual 423, 3) := by decide +kernel
theorem dd_X12_readAnd_4 : decode cX12_readAnd 4 = .ok (.ifCond .ne 5, 3) := by decide +kernel
theorem dd_X12_readAnd_7 : decode cX12_readAnd 7 = .ok (.iconst 0, 1) := by decide +kernel
theorem dd_X12_readAnd_8 : decode cX12_readAnd 8 = .ok (.ireturn, 1) := by decide +kernel
theorem dd_X12_readOr_0 : decode cX12_readOr 0 = .ok (.aload_n 0, 1) := by decide +kernel
theorem dd_X12_readOr_1 : decode cX12_readOr 1 = .ok (.invokevirtual 414, 3) := by decide +kernel
theorem dd_X12_readOr_4 : decode cX12_readOr 4 = .ok (.ifCond .ne 5, 3) := by decide +kernel
theorem dd_X12_readOr_7 : decode cX12_readOr 7 = .ok (.iconst 0, 1) := by decide +kernel
theorem dd_X12_readOr_8 : decode cX12_readOr 8 = .ok (.ireturn, 1) := by decide +kernel
theorem dd_X12_readSaid_0 : decode cX12_readSaid 0 = .ok (.aload_n 0, 1) := by decide +kernel
theorem dd_X12_readSaid_1 : decode cX12_readSaid 1 = .ok (.bipush 40, 2) := by decide +kernel
theorem dd_X12_readSaid_3 : decode cX12_readSaid 3 = .ok (.invokevirtual 86, 3) := by decide +kernel
theorem dd_X12_readSaid_6 : decode cX12_readSaid 6 = .ok (.istore_n 1, 1) := by decide +kernel
theorem dd_X12_readSaid_7 : decode cX12_readSaid 7 = .ok (.bipush 15, 2) := by decide +kernel
theorem dd_X12_readSaid_9 : decode cX12_readSaid 9 = .ok (.istore_n 2, 1) := by decide +kernel
theorem dd_X12_readSaid_10 : decode cX12_readSaid 10 = .ok (.iload_n 2, 1) := by decide +kernel
theorem dd_X12_readSaid_11 : decode cX12_readSaid 11 = .ok (.bipush 23, 2) := by decide +kernel
theorem dd_X12_readSaid_13 : decode cX12_readSaid 13 = .ok (.if_icmp .gt 17, 3) := by decide +kernel
theorem dd_X12_readSaid_16 : decode cX12_readSaid 16 = .ok (.aload_n 0, 1) := by decide +kernel
theorem dd_X12_readSaid_17 : decode cX12_readSaid 17 = .ok (.iload_n 2, 1) := by decide +kernel
theorem dd_X12_readSaid_18 : decode cX12_readSaid 18 = .ok (.invokevirtual 197, 3) := by decide +kernel
theorem dd_X12_readSaid_21 : decode cX12_readSaid 21 = .ok (.ifCond .ne 9, 3) := by decide +kernel
theorem dd_X12_readSaid_24 : decode cX12_readSaid 24 = .ok (.iinc 2 1, 3) := by decide +kernel
theorem dd_X12_readSaid_27 : decode cX12_readSaid 27 = .ok (.goto (-17), 3) := by decide +kernel
theorem dd_X12_readSaid_30 : decode cX12_readSaid 30 = .ok (.iload_n 1, 1) := by decide +kernel
theorem dd_X12_readSaid_31 : decode cX12_readSaid 31 = .ok (.ifCond .ne 15, 3) := by decide +kernel
theorem dd_X12_readSaid_34 : decode cX12_readSaid 34 = .ok (.iload_n 2, 1) := by decide +kernel
theorem dd_X12_readSaid_35 : decode cX12_readSaid 35 = .ok (.bipush 23, 2) := by decide +kernel
theorem dd_X12_readSaid_37 : decode cX12_readSaid 37 = .ok (.if_icmp .le 9, 3) := by decide +kernel
theorem dd_X12_readSaid_40 : decode cX12_readSaid 40 = .ok (.aload_n 0, 1) := by decide +kernel
theorem dd_X12_readSaid_41 : decode cX12_readSaid 41 = .ok (.iconst 1, 1) := by decide +kernel
theorem dd_X12_readSaid_42 : decode cX12_readSaid 42 = .ok (.invokevirtual 72, 3) := by decide +kernel
theorem dd_X12_readSaid_45 : decode cX12_readSaid 45 = .ok (.ireturn, 1) := by decide +kernel
theorem dd_X12_repay_0 : decode cX12_repay 0 = .ok (.aload_n 0, 1) := by decide +kernel
theorem dd_X12_repay_1 : decode cX12_repay 1 = .ok (.iconst 0, 1) := by decide +kernel
theorem dd_X12_repay_2 : decode cX12_repay 2 = .ok (.putfield 1, 3) := by decide +kernel
theorem dd_X12_repay_5 : decode cX12_repay 5 = .ok (.aload_n 0, 1) := by decide +kernel
theorem dd_X12_repay_6 : decode cX12_repay 6 = .ok (.iload_n 1, 1) := by decide +kernel
theorem dd_X12_repay_7 : decode cX12_repay 7 = .ok (.invokevirtual 251, 3) := by decide +kernel
theorem dd_X12_repay_10 : decode cX12_repay 10 = .ok (.ifCond .eq 32, 3) := by decide +kernel
theorem dd_X12_repay_42 : decode cX12_repay 42 = .ok (.iconst (-1), 1) := by decide +kernel
theorem dd_X12_repay_43 : decode cX12_repay 43 = .ok (.ireturn, 1) := by decide +kernel
theorem dd_X12_restore_0 : decode cX12_restore 0 = .ok (.aload_n 0, 1) := by decide +kernel
theorem dd_X12_restore_1 : decode cX12_restore 1 = .ok (.iconst 0, 1) := by decide +kernel
theorem dd_X12_restore_2 : decode cX12_restore 2 = .ok (.putfield 1, 3) := by decide +kernel
theorem dd_X12_restore_5 : decode cX12_restore 5 = .ok (.iload_n 1, 1) := by decide +kernel
theorem dd_X12_restore_6 : decode cX12_restore 6 = .ok (.iconst 0, 1) := by decide +kernel
theorem dd_X12_restore_7 : decode cX12_restore 7 = .ok (.iconst 1, 1) := by decide +kernel
theorem dd_X12_restore_8 : decode cX12_restore 8 = .ok (.invokestatic 75, 3) := by decide +kernel
theorem dd_X12_restore_11 : decode cX12_restore 11 = .ok (.ifCond .eq 12, 3) := by decide +kernel
theorem dd_X12_restore_14 : decode cX12_restore 14 = .ok (.aload_n 0, 1) := by decide +kernel
theorem dd_X12_restore_15 : decode cX12_restore 15 = .ok (.getfield 123, 3) := by decide +kernel
theorem dd_X12_restore_18 : decode cX12_restore 18 = .ok (.iload_n 1, 1) := by decide +kernel
theorem dd_X12_restore_19 : decode cX12_restore 19 = .ok (.baload, 1) := by decide +kernel
theorem dd_X12_restore_20 : decode cX12_restore 20 = .ok (.ifCond .ne 5, 3) := by decide +kernel
theorem dd_X12_restore_23 : decode cX12_restore 23 = .ok (.iconst 0, 1) := by decide +kernel
theorem dd_X12_restore_24 : decode cX12_restore 24 = .ok (.ireturn, 1) := by decide +kernel
theorem dd_X12_ring_0 : decode cX12_ring 0 = .ok (.aload_n 0, 1) := by decide +kernel
theorem dd_X12_ring_1 : decode cX12_ring 1 = .ok (.iconst 0, 1) := by decide +kernel
theorem dd_X12_ring_2 : decode cX12_ring 2 = .ok (.putfield 1, 3) := by decide +kernel
theorem dd_X12_ring_5 : decode cX12_ring 5 = .ok (.aload_n 0, 1) := by decide +kernel
theorem dd_X12_ring_6 : decode cX12_ring 6 = .ok (.invokevirtual 281, 3) := by decide +kernel
theorem dd_X12_ring_9 : decode cX12_ring 9 = .ok (.istore_n 1, 1) := by decide +kernel
theorem dd_X12_ring_10 : decode cX12_ring 10 = .ok (.iload_n 1, 1) := by decide +kernel
theorem dd_X12_ring_11 : decode cX12_ring 11 = .ok (.ifCond .ne 5, 3) := by decide +kernel
theorem dd_X12_ring_14 : decode cX12_ring 14 = .ok (.iconst (-1), 1) := by decide +kernel
theorem dd_X12_ring_15 : decode cX12_ring 15 = .ok (.ireturn, 1) := by decide +kernel
theorem dd_X12_ringAt_0 : decode cX12_ringAt 0 = .ok (.aload_n 0, 1) := by decide +kernel
theorem dd_X12_ringAt_1 : decode cX12_ringAt 1 = .ok (.iconst 0, 1) := by decide +kernel
theorem dd_X12_ringAt_2 : decode cX12_ringAt 2 = .ok (.putfield 1, 3) := by decide +kernel
theorem dd_X12_ringAt_5 : decode cX12_ringAt 5 = .ok (.iload_n 1, 1) := by decide +kernel
theorem dd_X12_ringAt_6 : decode cX12_ringAt 6 = .ok (.iconst 0, 1) := by decide +kernel
theorem dd_X12_ringAt_7 : decode cX12_ringAt 7 = .ok (.aload_n 0, 1) := by decide +kernel
theorem dd_X12_ringAt_8 : decode cX12_ringAt 8 = .ok (.getfield 284, 3) := by decide +kernel
theorem dd_X12_ringAt_11 : decode cX12_ringAt 11 = .ok (.iconst 1, 1) := by decide +kernel
theorem dd_X12_ringAt_12 : decode cX12_ringAt 12 = .ok (.isub, 1) := by decide +kernel
theorem dd_X12_ringAt_13 : decode cX12_ringAt 13 = .ok (.invokestatic 75, 3) := by decide +kernel
theorem dd_X12_ringAt_16 : decode cX12_ringAt 16 = .ok (.ifCond .eq 12, 3) := by decide +kernel
theorem dd_X12_ringAt_28 : decode cX12_ringAt 28 = .ok (.iconst (-1), 1) := by decide +kernel
theorem dd_X12_ringAt_29 : decode cX12_ringAt 29 = .ok (.ireturn, 1) := by decide +kernel
theorem dd_X12_said_0 : decode cX12_said 0 = .ok (.aload_n 0, 1) := by decide +kernel
theorem dd_X12_said_1 : decode cX12_said 1 = .ok (.iconst 0, 1) := by decide +kernel
theorem dd_X12_said_2 : decode cX12_said 2 = .ok (.putfield 1, 3) := by decide +kernel
theorem dd_X12_said_5 : decode cX12_said 5 = .ok (.aload_n 0, 1) := by decide +kernel
theorem dd_X12_said_6 : decode cX12_said 6 = .ok (.getfield 98, 3) := by decide +kernel
theorem dd_X12_said_9 : decode cX12_said 9 = .ok (.sipush 234, 3) := by decide +kernel
theorem dd_X12_said_12 : decode cX12_said 12 = .ok (.iaload, 1) := by decide +kernel
theorem dd_X12_said_13 : decode cX12_said 13 = .ok (.ifCond .ne 5, 3) := by decide +kernel
theorem dd_X12_said_16 : decode cX12_said 16 = .ok (.iconst (-1), 1) := by decide +kernel
theorem dd_X12_said_17 : decode cX12_said 17 = .ok (.ireturn, 1) := by decide +kernel
theorem dd_X12_sentence_0 : decode cX12_sentence 0 = .ok (.aload_n 0, 1) := by decide +kernel
theorem dd_X12_sentence_1 : decode cX12_sentence 1 = .ok (.sipush 200, 3) := by decide +kernel
theorem dd_X12_sentence_4 : decode cX12_sentence 4 = .ok (.invokevirtual 222, 3) := by decide +kernel
theorem dd_X12_sentence_7 : decode cX12_sentence 7 = .ok (.aload_n 0, 1) := by decide +kernel
theorem dd_X12_sentence_8 : decode cX12_sentence 8 = .ok (.iconst 0, 1) := by decide +kernel
theorem dd_X12_sentence_9 : decode cX12_sentence 9 = .ok (.putfield 411, 3) := by decide +kernel
theorem dd_X12_sentence_12 : decode cX12_sentence 12 = .ok (.aload_n 0, 1) := by decide +kernel
theorem dd_X12_sentence_13 : decode cX12_sentence 13 = .ok (.iconst 0, 1) := by decide +kernel
theorem dd_X12_sentence_14 : decode cX12_sentence 14 = .ok (.putfield 426, 3) := by decide +kernel
theorem dd_X12_sentence_17 : decode cX12_sentence 17 = .ok (.aload_n 0, 1) := by decide +kernel
theorem dd_X12_sentence_18 : decode cX12_sentence 18 = .ok (.iconst 0, 1) := by decide +kernel
theorem dd_X12_sentence_19 : decode cX12_sentence 19 = .ok (.putfield 429, 3) := by decide +kernel
theorem dd_X12_sentence_22 : decode cX12_sentence 22 = .ok (.aload_n 0, 1) := by decide +kernel
theorem dd_X12_sentence_23 : decode cX12_sentence 23 = .ok (.invokevirtual 444, 3) := by decide +kernel
theorem dd_X12_sentence_26 : decode cX12_sentence 26 = .ok (.ifCond .ne 10, 3) := by decide +kernel
theorem dd_X12_sentence_29 : decode cX12_sentence 29 = .ok (.iconst (-1), 1) := by decide +kernel
theorem dd_X12_sentence_30 : decode cX12_sentence 30 = .ok (.aload_n 0, 1) := by decide +kernel
theorem dd_X12_sentence_31 : decode cX12_sentence 31 = .ok (.getfield 69, 3) := by decide +kernel
theorem dd_X12_sentence_34 : decode cX12_sentence 34 = .ok (.isub, 1) := by decide +kernel
theorem dd_X12_sentence_35 : decode cX12_sentence 35 = .ok (.ireturn, 1) := by decide +kernel
theorem dd_X12_share_0 : decode cX12_share 0 = .ok (.aload_n 0, 1) := by decide +kernel
theorem dd_X12_share_1 : decode cX12_share 1 = .ok (.iconst 0, 1) := by decide +kernel
theorem dd_X12_share_2 : decode cX12_share 2 = .ok (.putfield 1, 3) := by decide +kernel
theorem dd_X12_share_5 : decode cX12_share 5 = .ok (.iload_n 1, 1) := by decide +kernel
theorem dd_X12_share_6 : decode cX12_share 6 = .ok (.iconst 0, 1) := by decide +kernel
theorem dd_X12_share_7 : decode cX12_share 7 = .ok (.sipush 999, 3) := by decide +kernel
theorem dd_X12_share_10 : decode cX12_share 10 = .ok (.invokestatic 75, 3) := by decide +kernel
theorem dd_X12_share_13 : decode cX12_share 13 = .ok (.ifCond .eq 35, 3) := by decide +kernel
theorem dd_X12_share_16 : decode cX12_share 16 = .ok (.iload_n 2, 1) := by decide +kernel
theorem dd_X12_share_17 : decode cX12_share 17 = .ok (.ifCond .lt 31, 3) := by decide +kernel
theorem dd_X12_share_20 : decode cX12_share 20 = .ok (.iload_n 2, 1) := by decide +kernel
theorem dd_X12_share_21 : decode cX12_share 21 = .ok (.iconst 1, 1) := by decide +kernel
theorem dd_X12_share_22 : decode cX12_share 22 = .ok (.aload_n 0, 1) := by decide +kernel
theorem dd_X12_share_23 : decode cX12_share 23 = .ok (.getfield 98, 3) := by decide +kernel
theorem dd_X12_share_26 : decode cX12_share 26 = .ok (.iconst 0, 1) := by decide +kernel
theorem dd_X12_share_27 : decode cX12_share 27 = .ok (.iaload, 1) := by decide +kernel
theorem dd_X12_share_28 : decode cX12_share 28 = .ok (.ishl, 1) := by decide +kernel
theorem dd_X12_share_29 : decode cX12_share 29 = .ok (.if_icmp .ge 19, 3) := by decide +kernel
theorem dd_X12_share_32 : decode cX12_share 32 = .ok (.aload_n 0, 1) := by decide +kernel
theorem dd_X12_share_33 : decode cX12_share 33 = .ok (.iload_n 3, 1) := by decide +kernel
theorem dd_X12_share_34 : decode cX12_share 34 = .ok (.invokevirtual 251, 3) := by decide +kernel
theorem dd_X12_share_37 : decode cX12_share 37 = .ok (.ifCond .eq 11, 3) := by decide +kernel
theorem dd_X12_share_48 : decode cX12_share 48 = .ok (.iconst (-1), 1) := by decide +kernel
theorem dd_X12_share_49 : decode cX12_share 49 = .ok (.ireturn, 1) := by decide +kernel
theorem dd_X12_snap_0 : decode cX12_snap 0 = .ok (.aload_n 0, 1) := by decide +kernel
theorem dd_X12_snap_1 : decode cX12_snap 1 = .ok (.getfield 234, 3) := by decide +kernel
theorem dd_X12_snap_4 : decode cX12_snap 4 = .ok (.bipush 8, 2) := by decide +kernel
theorem dd_X12_snap_6 : decode cX12_snap 6 = .ok (.if_icmp .ne 44, 3) := by decide +kernel
theorem dd_X12_snap_50 : decode cX12_snap 50 = .ok (.iconst 0, 1) := by decide +kernel
theorem dd_X12_snap_51 : decode cX12_snap 51 = .ok (.istore_n 1, 1) := by decide +kernel
theorem dd_X12_snap_52 : decode cX12_snap 52 = .ok (.iload_n 1, 1) := by decide +kernel
theorem dd_X12_snap_53 : decode cX12_snap 53 = .ok (.sipush 133, 3) := by decide +kernel
theorem dd_X12_snap_56 : decode cX12_snap 56 = .ok (.if_icmp .ge 33, 3) := by decide +kernel
theorem dd_X12_snap_59 : decode cX12_snap 59 = .ok (.aload_n 0, 1) := by decide +kernel
theorem dd_X12_snap_60 : decode cX12_snap 60 = .ok (.getfield 107, 3) := by decide +kernel
theorem dd_X12_snap_63 : decode cX12_snap 63 = .ok (.sipush 133, 3) := by decide +kernel
theorem dd_X12_snap_66 : decode cX12_snap 66 = .ok (.aload_n 0, 1) := by decide +kernel
theorem dd_X12_snap_67 : decode cX12_snap 67 = .ok (.getfield 234, 3) := by decide +kernel
theorem dd_X12_snap_70 : decode cX12_snap 70 = .ok (.imul, 1) := by decide +kernel
theorem dd_X12_snap_71 : decode cX12_snap 71 = .ok (.iload_n 1, 1) := by decide +kernel
theorem dd_X12_snap_72 : decode cX12_snap 72 = .ok (.iadd, 1) := by decide +kernel
theorem dd_X12_snap_73 : decode cX12_snap 73 = .ok (.aload_n 0, 1) := by decide +kernel
theorem dd_X12_snap_74 : decode cX12_snap 74 = .ok (.getfield 98, 3) := by decide +kernel
theorem dd_X12_snap_77 : decode cX12_snap 77 = .ok (.bipush 101, 2) := by decide +kernel
theorem dd_X12_snap_79 : decode cX12_snap 79 = .ok (.iload_n 1, 1) := by decide +kernel
theorem dd_X12_snap_80 : decode cX12_snap 80 = .ok (.iadd, 1) := by decide +kernel
theorem dd_X12_snap_81 : decode cX12_snap 81 = .ok (.iaload, 1) := by decide +kernel
theorem dd_X12_snap_82 : decode cX12_snap 82 = .ok (.iastore, 1) := by decide +kernel
theorem dd_X12_snap_83 : decode cX12_snap 83 = .ok (.iinc 1 1, 3) := by decide +kernel
theorem dd_X12_snap_86 : decode cX12_snap 86 = .ok (.goto (-34), 3) := by decide +kernel
theorem dd_X12_snap_89 : decode cX12_snap 89 = .ok (.aload_n 0, 1) := by decide +kernel
theorem dd_X12_snap_90 : decode cX12_snap 90 = .ok (.dup, 1) := by decide +kernel
theorem dd_X12_snap_91 : decode cX12_snap 91 = .ok (.getfield 234, 3) := by decide +kernel
theorem dd_X12_snap_94 : decode cX12_snap 94 = .ok (.iconst 1, 1) := by decide +kernel
theorem dd_X12_snap_95 : decode cX12_snap 95 = .ok (.iadd, 1) := by decide +kernel
theorem dd_X12_snap_96 : decode cX12_snap 96 = .ok (.putfield 234, 3) := by decide +kernel
theorem dd_X12_snap_99 : decode cX12_snap 99 = .ok (.return_, 1) := by decide +kernel
theorem dd_X12_startSo_0 : decode cX12_startSo 0 = .ok (.bipush 101, 2) := by decide +kernel
theorem dd_X12_startSo_2 : decode cX12_startSo 2 = .ok (.istore_n 1, 1) := by decide +kernel
theorem dd_X12_startSo_3 : decode cX12_startSo 3 = .ok (.iload_n 1, 1) := by decide +kernel
theorem dd_X12_startSo_4 : decode cX12_startSo 4 = .ok (.sipush 476, 3) := by decide +kernel
theorem dd_X12_startSo_7 : decode cX12_startSo 7 = .ok (.if_icmp .ge 16, 3) := by decide +kernel
theorem dd_X12_startSo_10 : decode cX12_startSo 10 = .ok (.aload_n 0, 1) := by decide +kernel
theorem dd_X12_startSo_11 : decode cX12_startSo 11 = .ok (.getfield 98, 3) := by decide +kernel
theorem dd_X12_startSo_14 : decode cX12_startSo 14 = .ok (.iload_n 1, 1) := by decide +kernel
theorem dd_X12_startSo_15 : decode cX12_startSo 15 = .ok (.iconst 0, 1) := by decide +kernel
theorem dd_X12_startSo_16 : decode cX12_startSo 16 = .ok (.iastore, 1) := by decide +kernel
theorem dd_X12_startSo_17 : decode cX12_startSo 17 = .ok (.iinc 1 1, 3) := by decide +kernel
theorem dd_X12_startSo_20 : decode cX12_startSo 20 = .ok (.goto (-17), 3) := by decide +kernel
theorem dd_X12_startSo_23 : decode cX12_startSo 23 = .ok (.iconst 0, 1) := by decide +kernel
theorem dd_X12_startSo_24 : decode cX12_startSo 24 = .ok (.istore_n 1, 1) := by decide +kernel
theorem dd_X12_startSo_25 : decode cX12_startSo 25 = .ok (.iload_n 1, 1) := by decide +kernel
theorem dd_X12_startSo_26 : decode cX12_startSo 26 = .ok (.bipush 6, 2) := by decide +kernel
theorem dd_X12_startSo_28 : decode cX12_startSo 28 = .ok (.if_icmp .ge 44, 3) := by decide +kernel
theorem dd_X12_startSo_31 : decode cX12_startSo 31 = .ok (.aload_n 0, 1) := by decide +kernel
theorem dd_X12_startSo_32 : decode cX12_startSo 32 = .ok (.getfield 98, 3) := by decide +kernel
theorem dd_X12_startSo_35 : decode cX12_startSo 35 = .ok (.bipush 102, 2) := by decide +kernel
theorem dd_X12_startSo_37 : decode cX12_startSo 37 = .ok (.iload_n 1, 1) := by decide +kernel
theorem dd_X12_startSo_38 : decode cX12_startSo 38 = .ok (.iadd, 1) := by decide +kernel
theorem dd_X12_startSo_39 : decode cX12_startSo 39 = .ok (.aload_n 0, 1) := by decide +kernel
theorem dd_X12_startSo_40 : decode cX12_startSo 40 = .ok (.getfield 98, 3) := by decide +kernel
theorem dd_X12_startSo_43 : decode cX12_startSo 43 = .ok (.iconst 5, 1) := by decide +kernel
theorem dd_X12_startSo_44 : decode cX12_startSo 44 = .ok (.iload_n 1, 1) := by decide +kernel
theorem dd_X12_startSo_45 : decode cX12_startSo 45 = .ok (.iadd, 1) := by decide +kernel
theorem dd_X12_startSo_46 : decode cX12_startSo 46 = .ok (.iaload, 1) := by decide +kernel
theorem dd_X12_startSo_47 : decode cX12_startSo 47 = .ok (.iastore, 1) := by decide +kernel
theorem dd_X12_startSo_48 : decode cX12_startSo 48 = .ok (.aload_n 0, 1) := by decide +kernel
theorem dd_X12_startSo_49 : decode cX12_startSo 49 = .ok (.getfield 98, 3) := by decide +kernel
theorem dd_X12_startSo_52 : decode cX12_startSo 52 = .ok (.bipush 114, 2) := by decide +kernel
theorem dd_X12_startSo_54 : decode cX12_startSo 54 = .ok (.iload_n 1, 1) := by decide +kernel
theorem dd_X12_startSo_55 : decode cX12_startSo 55 = .ok (.iadd, 1) := by decide +kernel
theorem dd_X12_startSo_56 : decode cX12_startSo 56 = .ok (.aload_n 0, 1) := by decide +kernel
theorem dd_X12_startSo_57 : decode cX12_startSo 57 = .ok (.getfield 98, 3) := by decide +kernel
theorem dd_X12_startSo_60 : decode cX12_startSo 60 = .ok (.bipush 59, 2) := by decide +kernel
theorem dd_X12_startSo_62 : decode cX12_startSo 62 = .ok (.iload_n 1, 1) := by decide +kernel
theorem dd_X12_startSo_63 : decode cX12_startSo 63 = .ok (.iadd, 1) := by decide +kernel
theorem dd_X12_startSo_64 : decode cX12_startSo 64 = .ok (.iaload, 1) := by decide +kernel
theorem dd_X12_startSo_65 : decode cX12_startSo 65 = .ok (.iastore, 1) := by decide +kernel
theorem dd_X12_startSo_66 : decode cX12_startSo 66 = .ok (.iinc 1 1, 3) := by decide +kernel
theorem dd_X12_startSo_69 : decode cX12_startSo 69 = .ok (.goto (-44), 3) := by decide +kernel
theorem dd_X12_startSo_72 : decode cX12_startSo 72 = .ok (.iconst 0, 1) := by decide +kernel
theorem dd_X12_startSo_73 : decode cX12_startSo 73 = .ok (.istore_n 1, 1) := by decide +kernel
theorem dd_X12_startSo_74 : decode cX12_startSo 74 = .ok (.iload_n 1, 1) := by decide +kernel
theorem dd_X12_startSo_75 : decode cX12_startSo 75 = .ok (.bipush 36, 2) := by decide +kernel
theorem dd_X12_startSo_77 : decode cX12_startSo 77 = .ok (.if_icmp .ge 27, 3) := by decide +kernel
theorem dd_X12_startSo_80 : decode cX12_startSo 80 = .ok (.aload_n 0, 1) := by decide +kernel
theorem dd_X12_startSo_81 : decode cX12_startSo 81 = .ok (.getfield 98, 3) := by decide +kernel
theorem dd_X12_startSo_84 : decode cX12_startSo 84 = .ok (.bipush 120, 2) := by decide +kernel
theorem dd_X12_startSo_86 : decode cX12_startSo 86 = .ok (.iload_n 1, 1) := by decide +kernel
theorem dd_X12_startSo_87 : decode cX12_startSo 87 = .ok (.iadd, 1) := by decide +kernel
theorem dd_X12_startSo_88 : decode cX12_startSo 88 = .ok (.aload_n 0, 1) := by decide +kernel
theorem dd_X12_startSo_89 : decode cX12_startSo 89 = .ok (.getfield 98, 3) := by decide +kernel
theorem dd_X12_startSo_92 : decode cX12_startSo 92 = .ok (.bipush 65, 2) := by decide +kernel
theorem dd_X12_startSo_94 : decode cX12_startSo 94 = .ok (.iload_n 1, 1) := by decide +kernel
theorem dd_X12_startSo_95 : decode cX12_startSo 95 = .ok (.iadd, 1) := by decide +kernel
theorem dd_X12_startSo_96 : decode cX12_startSo 96 = .ok (.iaload, 1) := by decide +kernel
theorem dd_X12_startSo_97 : decode cX12_startSo 97 = .ok (.iastore, 1) := by decide +kernel
theorem dd_X12_startSo_98 : decode cX12_startSo 98 = .ok (.iinc 1 1, 3) := by decide +kernel
theorem dd_X12_startSo_101 : decode cX12_startSo 101 = .ok (.goto (-27), 3) := by decide +kernel
theorem dd_X12_startSo_104 : decode cX12_startSo 104 = .ok (.return_, 1) := by decide +kernel
theorem dd_X12_stay_0 : decode cX12_stay 0 = .ok (.iconst 0, 1) := by decide +kernel
theorem dd_X12_stay_1 : decode cX12_stay 1 = .ok (.istore_n 2, 1) := by decide +kernel
theorem dd_X12_stay_2 : decode cX12_stay 2 = .ok (.iload_n 2, 1) := by decide +kernel
theorem dd_X12_stay_3 : decode cX12_stay 3 = .ok (.sipush 133, 3) := by decide +kernel
theorem dd_X12_stay_6 : decode cX12_stay 6 = .ok (.if_icmp .ge 41, 3) := by decide +kernel
theorem dd_X12_stay_9 : decode cX12_stay 9 = .ok (.aload_n 0, 1) := by decide +kernel
theorem dd_X12_stay_10 : decode cX12_stay 10 = .ok (.getfield 98, 3) := by decide +kernel
theorem dd_X12_stay_13 : decode cX12_stay 13 = .ok (.bipush 101, 2) := by decide +kernel
theorem dd_X12_stay_15 : decode cX12_stay 15 = .ok (.iload_n 2, 1) := by decide +kernel
theorem dd_X12_stay_16 : decode cX12_stay 16 = .ok (.iadd, 1) := by decide +kernel
theorem dd_X12_stay_17 : decode cX12_stay 17 = .ok (.iaload, 1) := by decide +kernel
theorem dd_X12_stay_18 : decode cX12_stay 18 = .ok (.istore_n 3, 1) := by decide +kernel
theorem dd_X12_stay_19 : decode cX12_stay 19 = .ok (.aload_n 0, 1) := by decide +kernel
theorem dd_X12_stay_20 : decode cX12_stay 20 = .ok (.getfield 98, 3) := by decide +kernel
theorem dd_X12_stay_23 : decode cX12_stay 23 = .ok (.bipush 101, 2) := by decide +kernel
theorem dd_X12_stay_25 : decode cX12_stay 25 = .ok (.iload_n 2, 1) := by decide +kernel
theorem dd_X12_stay_26 : decode cX12_stay 26 = .ok (.iadd, 1) := by decide +kernel
theorem dd_X12_stay_27 : decode cX12_stay 27 = .ok (.aload_n 0, 1) := by decide +kernel
theorem dd_X12_stay_28 : decode cX12_stay 28 = .ok (.getfield 110, 3) := by decide +kernel
theorem dd_X12_stay_31 : decode cX12_stay 31 = .ok (.iload_n 2, 1) := by decide +kernel
theorem dd_X12_stay_32 : decode cX12_stay 32 = .ok (.iaload, 1) := by decide +kernel
theorem dd_X12_stay_33 : decode cX12_stay 33 = .ok (.iastore, 1) := by decide +kernel
theorem dd_X12_stay_34 : decode cX12_stay 34 = .ok (.aload_n 0, 1) := by decide +kernel
theorem dd_X12_stay_35 : decode cX12_stay 35 = .ok (.getfield 110, 3) := by decide +kernel
theorem dd_X12_stay_38 : decode cX12_stay 38 = .ok (.iload_n 2, 1) := by decide +kernel
theorem dd_X12_stay_39 : decode cX12_stay 39 = .ok (.iload_n 3, 1) := by decide +kernel
theorem dd_X12_stay_40 : decode cX12_stay 40 = .ok (.iastore, 1) := by decide +kernel
theorem dd_X12_stay_41 : decode cX12_stay 41 = .ok (.iinc 2 1, 3) := by decide +kernel
theorem dd_X12_stay_44 : decode cX12_stay 44 = .ok (.goto (-42), 3) := by decide +kernel
theorem dd_X12_stay_47 : decode cX12_stay 47 = .ok (.iload_n 1, 1) := by decide +kernel
theorem dd_X12_stay_48 : decode cX12_stay 48 = .ok (.ifCond .ne 4, 3) := by decide +kernel
theorem dd_X12_stay_51 : decode cX12_stay 51 = .ok (.return_, 1) := by decide +kernel
theorem dd_X12_strike_0 : decode cX12_strike 0 = .ok (.aload_n 0, 1) := by decide +kernel
theorem dd_X12_strike_1 : decode cX12_strike 1 = .ok (.iconst 0, 1) := by decide +kernel
theorem dd_X12_strike_2 : decode cX12_strike 2 = .ok (.putfield 1, 3) := by decide +kernel
theorem dd_X12_strike_5 : decode cX12_strike 5 = .ok (.aload_n 0, 1) := by decide +kernel
theorem dd_X12_strike_6 : decode cX12_strike 6 = .ok (.invokevirtual 281, 3) := by decide +kernel
theorem dd_X12_strike_9 : decode cX12_strike 9 = .ok (.ifCond .ne 5, 3) := by decide +kernel
theorem dd_X12_strike_12 : decode cX12_strike 12 = .ok (.iconst (-1), 1) := by decide +kernel
theorem dd_X12_strike_13 : decode cX12_strike 13 = .ok (.ireturn, 1) := by decide +kernel
theorem dd_X12_sumOf_0 : decode cX12_sumOf 0 = .ok (.iconst 0, 1) := by decide +kernel
theorem dd_X12_sumOf_1 : decode cX12_sumOf 1 = .ok (.istore_n 3, 1) := by decide +kernel
theorem dd_X12_sumOf_2 : decode cX12_sumOf 2 = .ok (.iconst 0, 1) := by decide +kernel
theorem dd_X12_sumOf_3 : decode cX12_sumOf 3 = .ok (.istore 4, 2) := by decide +kernel
theorem dd_X12_sumOf_5 : decode cX12_sumOf 5 = .ok (.iload 4, 2) := by decide +kernel
theorem dd_X12_sumOf_7 : decode cX12_sumOf 7 = .ok (.iload_n 2, 1) := by decide +kernel
theorem dd_X12_sumOf_8 : decode cX12_sumOf 8 = .ok (.if_icmp .ge 21, 3) := by decide +kernel
theorem dd_X12_sumOf_11 : decode cX12_sumOf 11 = .ok (.iload_n 3, 1) := by decide +kernel
theorem dd_X12_sumOf_12 : decode cX12_sumOf 12 = .ok (.aload_n 0, 1) := by decide +kernel
theorem dd_X12_sumOf_13 : decode cX12_sumOf 13 = .ok (.getfield 98, 3) := by decide +kernel
theorem dd_X12_sumOf_16 : decode cX12_sumOf 16 = .ok (.iload_n 1, 1) := by decide +kernel
theorem dd_X12_sumOf_17 : decode cX12_sumOf 17 = .ok (.iload 4, 2) := by decide +kernel
theorem dd_X12_sumOf_19 : decode cX12_sumOf 19 = .ok (.iadd, 1) := by decide +kernel
theorem dd_X12_sumOf_20 : decode cX12_sumOf 20 = .ok (.iaload, 1) := by decide +kernel
theorem dd_X12_sumOf_21 : decode cX12_sumOf 21 = .ok (.iadd, 1) := by decide +kernel
theorem dd_X12_sumOf_22 : decode cX12_sumOf 22 = .ok (.istore_n 3, 1) := by decide +kernel
theorem dd_X12_sumOf_23 : decode cX12_sumOf 23 = .ok (.iinc 4 1, 3) := by decide +kernel
theorem dd_X12_sumOf_26 : decode cX12_sumOf 26 = .ok (.goto (-21), 3) := by decide +kernel
theorem dd_X12_sumOf_29 : decode cX12_sumOf 29 = .ok (.iload_n 3, 1) := by decide +kernel
theorem dd_X12_sumOf_30 : decode cX12_sumOf 30 = .ok (.ireturn, 1) := by decide +kernel
theorem dd_X12_take_0 : decode cX12_take 0 = .ok (.aload_n 0, 1) := by decide +kernel
theorem dd_X12_take_1 : decode cX12_take 1 = .ok (.getfield 11, 3) := by decide +kernel
theorem dd_X12_take_4 : decode cX12_take 4 = .ok (.istore_n 1, 1) := by decide +kernel
theorem dd_X12_take_5 : decode cX12_take 5 = .ok (.aload_n 0, 1) := by decide +kernel
theorem dd_X12_take_6 : decode cX12_take 6 = .ok (.iconst 0, 1) := by decide +kernel
theorem dd_X12_take_7 : decode cX12_take 7 = .ok (.putfield 11, 3) := by decide +kernel
theorem dd_X12_take_10 : decode cX12_take 10 = .ok (.iload_n 1, 1) := by decide +kernel
theorem dd_X12_take_11 : decode cX12_take 11 = .ok (.ireturn, 1) := by decide +kernel
theorem dd_X12_tax_0 : decode cX12_tax 0 = .ok (.aload_n 0, 1) := by decide +kernel
theorem dd_X12_tax_1 : decode cX12_tax 1 = .ok (.iconst 0, 1) := by decide +kernel
theorem dd_X12_tax_2 : decode cX12_tax 2 = .ok (.putfield 1, 3) := by decide +kernel
theorem dd_X12_tax_5 : decode cX12_tax 5 = .ok (.iload_n 1, 1) := by decide +kernel
theorem dd_X12_tax_6 : decode cX12_tax 6 = .ok (.iconst 0, 1) := by decide +kernel
theorem dd_X12_tax_7 : decode cX12_tax 7 = .ok (.sipush 200, 3) := by decide +kernel
theorem dd_X12_tax_10 : decode cX12_tax 10 = .ok (.invokestatic 75, 3) := by decide +kernel
theorem dd_X12_tax_13 : decode cX12_tax 13 = .ok (.ifCond .ne 5, 3) := by decide +kernel
theorem dd_X12_tax_16 : decode cX12_tax 16 = .ok (.iconst (-1), 1) := by decide +kernel
theorem dd_X12_tax_17 : decode cX12_tax 17 = .ok (.ireturn, 1) := by decide +kernel
theorem dd_X12_tax_18 : decode cX12_tax 18 = .ok (.iconst (-1), 1) := by decide +kernel
theorem dd_X12_tax_19 : decode cX12_tax 19 = .ok (.istore_n 2, 1) := by decide +kernel
theorem dd_X12_tax_20 : decode cX12_tax 20 = .ok (.bipush 121, 2) := by decide +kernel
theorem dd_X12_tax_22 : decode cX12_tax 22 = .ok (.istore_n 3, 1) := by decide +kernel
theorem dd_X12_tax_23 : decode cX12_tax 23 = .ok (.iload_n 3, 1) := by decide +kernel
theorem dd_X12_tax_24 : decode cX12_tax 24 = .ok (.bipush 120, 2) := by decide +kernel
theorem dd_X12_tax_26 : decode cX12_tax 26 = .ok (.if_icmp .le 40, 3) := by decide +kernel
theorem dd_X12_tax_29 : decode cX12_tax 29 = .ok (.iload_n 2, 1) := by decide +kernel
theorem dd_X12_tax_30 : decode cX12_tax 30 = .ok (.bipush 20, 2) := by decide +kernel
theorem dd_X12_tax_32 : decode cX12_tax 32 = .ok (.if_icmp .ge 34, 3) := by decide +kernel
theorem dd_X12_tax_35 : decode cX12_tax 35 = .ok (.iinc 2 1, 3) := by decide +kernel
theorem dd_X12_tax_38 : decode cX12_tax 38 = .ok (.aload_n 0, 1) := by decide +kernel
theorem dd_X12_tax_39 : decode cX12_tax 39 = .ok (.iload_n 2, 1) := by decide +kernel
theorem dd_X12_tax_40 : decode cX12_tax 40 = .ok (.invokevirtual 345, 3) := by decide +kernel
theorem dd_X12_tax_43 : decode cX12_tax 43 = .ok (.iload_n 1, 1) := by decide +kernel
theorem dd_X12_tax_44 : decode cX12_tax 44 = .ok (.istore_n 3, 1) := by decide +kernel
theorem dd_X12_tax_45 : decode cX12_tax 45 = .ok (.iload_n 3, 1) := by decide +kernel
theorem dd_X12_tax_46 : decode cX12_tax 46 = .ok (.bipush 120, 2) := by decide +kernel
theorem dd_X12_tax_48 : decode cX12_tax 48 = .ok (.if_icmp .gt (-25), 3) := by decide +kernel
theorem dd_X12_tax_51 : decode cX12_tax 51 = .ok (.aload_n 0, 1) := by decide +kernel
theorem dd_X12_tax_52 : decode cX12_tax 52 = .ok (.getfield 154, 3) := by decide +kernel
theorem dd_X12_tax_55 : decode cX12_tax 55 = .ok (.iload_n 3, 1) := by decide +kernel
theorem dd_X12_tax_56 : decode cX12_tax 56 = .ok (.baload, 1) := by decide +kernel
theorem dd_X12_tax_57 : decode cX12_tax 57 = .ok (.ifCond .ne (-34), 3) := by decide +kernel
theorem dd_X12_tax_60 : decode cX12_tax 60 = .ok (.iinc 3 1, 3) := by decide +kernel
theorem dd_X12_tax_63 : decode cX12_tax 63 = .ok (.goto (-18), 3) := by decide +kernel
theorem dd_X12_tax_66 : decode cX12_tax 66 = .ok (.iload_n 3, 1) := by decide +kernel
theorem dd_X12_tax_67 : decode cX12_tax 67 = .ok (.bipush 120, 2) := by decide +kernel
theorem dd_X12_tax_69 : decode cX12_tax 69 = .ok (.if_icmp .le 5, 3) := by decide +kernel
theorem dd_X12_tax_72 : decode cX12_tax 72 = .ok (.iconst (-1), 1) := by decide +kernel
theorem dd_X12_tax_73 : decode cX12_tax 73 = .ok (.ireturn, 1) := by decide +kernel
theorem dd_X12_tax_74 : decode cX12_tax 74 = .ok (.iload_n 3, 1) := by decide +kernel
theorem dd_X12_tax_75 : decode cX12_tax 75 = .ok (.istore 4, 2) := by decide +kernel
theorem dd_X12_tax_77 : decode cX12_tax 77 = .ok (.iconst 0, 1) := by decide +kernel
theorem dd_X12_tax_78 : decode cX12_tax 78 = .ok (.istore 5, 2) := by decide +kernel
theorem dd_X12_tax_80 : decode cX12_tax 80 = .ok (.iload 5, 2) := by decide +kernel
theorem dd_X12_tax_82 : decode cX12_tax 82 = .ok (.bipush 6, 2) := by decide +kernel
theorem dd_X12_tax_84 : decode cX12_tax 84 = .ok (.if_icmp .ge 17, 3) := by decide +kernel
theorem dd_X12_tax_87 : decode cX12_tax 87 = .ok (.aload_n 0, 1) := by decide +kernel
theorem dd_X12_tax_88 : decode cX12_tax 88 = .ok (.getfield 157, 3) := by decide +kernel
theorem dd_X12_tax_91 : decode cX12_tax 91 = .ok (.iload 5, 2) := by decide +kernel
theorem dd_X12_tax_93 : decode cX12_tax 93 = .ok (.iconst (-1), 1) := by decide +kernel
theorem dd_X12_tax_94 : decode cX12_tax 94 = .ok (.iastore, 1) := by decide +kernel
theorem dd_X12_tax_95 : decode cX12_tax 95 = .ok (.iinc 5 1, 3) := by decide +kernel
theorem dd_X12_tax_98 : decode cX12_tax 98 = .ok (.goto (-18), 3) := by decide +kernel
theorem dd_X12_tax_101 : decode cX12_tax 101 = .ok (.iconst 0, 1) := by decide +kernel
theorem dd_X12_tax_102 : decode cX12_tax 102 = .ok (.istore 5, 2) := by decide +kernel
theorem dd_X12_tax_104 : decode cX12_tax 104 = .ok (.iload 5, 2) := by decide +kernel
theorem dd_X12_tax_106 : decode cX12_tax 106 = .ok (.aload_n 0, 1) := by decide +kernel
theorem dd_X12_tax_107 : decode cX12_tax 107 = .ok (.getfield 98, 3) := by decide +kernel
theorem dd_X12_tax_110 : decode cX12_tax 110 = .ok (.iconst 0, 1) := by decide +kernel
theorem dd_X12_tax_111 : decode cX12_tax 111 = .ok (.iaload, 1) := by decide +kernel
theorem dd_X12_tax_112 : decode cX12_tax 112 = .ok (.if_icmp .ge 117, 3) := by decide +kernel
theorem dd_X12_tax_229 : decode cX12_tax 229 = .ok (.aload_n 0, 1) := by decide +kernel
theorem dd_X12_tax_230 : decode cX12_tax 230 = .ok (.iconst 1, 1) := by decide +kernel
theorem dd_X12_tax_231 : decode cX12_tax 231 = .ok (.putfield 348, 3) := by decide +kernel
theorem dd_X12_tax_234 : decode cX12_tax 234 = .ok (.iload_n 2, 1) := by decide +kernel
theorem dd_X12_tax_235 : decode cX12_tax 235 = .ok (.ireturn, 1) := by decide +kernel
theorem dd_X12_taxOf_0 : decode cX12_taxOf 0 = .ok (.aload_n 0, 1) := by decide +kernel
theorem dd_X12_taxOf_1 : decode cX12_taxOf 1 = .ok (.iconst 0, 1) := by decide +kernel
theorem dd_X12_taxOf_2 : decode cX12_taxOf 2 = .ok (.putfield 1, 3) := by decide +kernel
theorem dd_X12_taxOf_5 : decode cX12_taxOf 5 = .ok (.aload_n 0, 1) := by decide +kernel
theorem dd_X12_taxOf_6 : decode cX12_taxOf 6 = .ok (.getfield 348, 3) := by decide +kernel
theorem dd_X12_taxOf_9 : decode cX12_taxOf 9 = .ok (.ifCond .eq 21, 3) := by decide +kernel
theorem dd_X12_taxOf_30 : decode cX12_taxOf 30 = .ok (.iconst (-1), 1) := by decide +kernel
theorem dd_X12_taxOf_31 : decode cX12_taxOf 31 = .ok (.ireturn, 1) := by decide +kernel
theorem dd_X12_tells_0 : decode cX12_tells 0 = .ok (.aload_n 0, 1) := by decide +kernel
theorem dd_X12_tells_1 : decode cX12_tells 1 = .ok (.iconst 0, 1) := by decide +kernel
theorem dd_X12_tells_2 : decode cX12_tells 2 = .ok (.putfield 1, 3) := by decide +kernel
theorem dd_X12_tells_5 : decode cX12_tells 5 = .ok (.aload_n 0, 1) := by decide +kernel
theorem dd_X12_tells_6 : decode cX12_tells 6 = .ok (.getfield 145, 3) := by decide +kernel
theorem dd_X12_tells_9 : decode cX12_tells 9 = .ok (.ireturn, 1) := by decide +kernel
theorem dd_X12_times_0 : decode cX12_times 0 = .ok (.aload_n 0, 1) := by decide +kernel
theorem dd_X12_times_1 : decode cX12_times 1 = .ok (.iconst 0, 1) := by decide +kernel
theorem dd_X12_times_2 : decode cX12_times 2 = .ok (.putfield 1, 3) := by decide +kernel
theorem dd_X12_times_5 : decode cX12_times 5 = .ok (.aload_n 0, 1) := by decide +kernel
theorem dd_X12_times_6 : decode cX12_times 6 = .ok (.iload_n 1, 1) := by decide +kernel
theorem dd_X12_times_7 : decode cX12_times 7 = .ok (.invokevirtual 251, 3) := by decide +kernel
theorem dd_X12_times_10 : decode cX12_times 10 = .ok (.ifCond .eq 20, 3) := by decide +kernel
theorem dd_X12_times_30 : decode cX12_times 30 = .ok (.iconst (-1), 1) := by decide +kernel
theorem dd_X12_times_31 : decode cX12_times 31 = .ok (.ireturn, 1) := by decide +kernel
theorem dd_X12_told_0 : decode cX12_told 0 = .ok (.aload_n 0, 1) := by decide +kernel
theorem dd_X12_told_1 : decode cX12_told 1 = .ok (.iconst 0, 1) := by decide +kernel
theorem dd_X12_told_2 : decode cX12_told 2 = .ok (.putfield 1, 3) := by decide +kernel
theorem dd_X12_told_5 : decode cX12_told 5 = .ok (.aload_n 0, 1) := by decide +kernel
theorem dd_X12_told_6 : decode cX12_told 6 = .ok (.getfield 404, 3) := by decide +kernel
theorem dd_X12_told_9 : decode cX12_told 9 = .ok (.ifCond .eq 21, 3) := by decide +kernel
theorem dd_X12_told_30 : decode cX12_told 30 = .ok (.iconst (-1), 1) := by decide +kernel
theorem dd_X12_told_31 : decode cX12_told 31 = .ok (.ireturn, 1) := by decide +kernel
theorem dd_X12_undo_0 : decode cX12_undo 0 = .ok (.aload_n 0, 1) := by decide +kernel
theorem dd_X12_undo_1 : decode cX12_undo 1 = .ok (.iconst 0, 1) := by decide +kernel
theorem dd_X12_undo_2 : decode cX12_undo 2 = .ok (.putfield 1, 3) := by decide +kernel
theorem dd_X12_undo_5 : decode cX12_undo 5 = .ok (.aload_n 0, 1) := by decide +kernel
theorem dd_X12_undo_6 : decode cX12_undo 6 = .ok (.getfield 234, 3) := by decide +kernel
theorem dd_X12_undo_9 : decode cX12_undo 9 = .ok (.ifCond .ne 5, 3) := by decide +kernel
theorem dd_X12_undo_12 : decode cX12_undo 12 = .ok (.iconst (-1), 1) := by decide +kernel
theorem dd_X12_undo_13 : decode cX12_undo 13 = .ok (.ireturn, 1) := by decide +kernel
theorem dd_X12_weeks_0 : decode cX12_weeks 0 = .ok (.aload_n 0, 1) := by decide +kernel
theorem dd_X12_weeks_1 : decode cX12_weeks 1 = .ok (.iconst 0, 1) := by decide +kernel
theorem dd_X12_weeks_2 : decode cX12_weeks 2 = .ok (.putfield 1, 3) := by decide +kernel
theorem dd_X12_weeks_5 : decode cX12_weeks 5 = .ok (.iload_n 1, 1) := by decide +kernel
theorem dd_X12_weeks_6 : decode cX12_weeks 6 = .ok (.iconst 1, 1) := by decide +kernel
theorem dd_X12_weeks_7 : decode cX12_weeks 7 = .ok (.bipush 60, 2) := by decide +kernel
theorem dd_X12_weeks_9 : decode cX12_weeks 9 = .ok (.invokestatic 75, 3) := by decide +kernel
theorem dd_X12_weeks_12 : decode cX12_weeks 12 = .ok (.ifCond .ne 5, 3) := by decide +kernel
theorem dd_X12_weeks_15 : decode cX12_weeks 15 = .ok (.iconst (-1), 1) := by decide +kernel
theorem dd_X12_weeks_16 : decode cX12_weeks 16 = .ok (.ireturn, 1) := by decide +kernel
theorem dd_X12_weeks_17 : decode cX12_weeks 17 = .ok (.aload_n 0, 1) := by decide +kernel
theorem dd_X12_weeks_18 : decode cX12_weeks 18 = .ok (.getfield 98, 3) := by decide +kernel
theorem dd_X12_weeks_21 : decode cX12_weeks 21 = .ok (.bipush 101, 2) := by decide +kernel
theorem dd_X12_weeks_23 : decode cX12_weeks 23 = .ok (.iaload, 1) := by decide +kernel
theorem dd_X12_weeks_24 : decode cX12_weeks 24 = .ok (.sipush 200, 3) := by decide +kernel
theorem dd_X12_weeks_27 : decode cX12_weeks 27 = .ok (.if_icmp .ne 5, 3) := by decide +kernel
theorem dd_X12_weeks_32 : decode cX12_weeks 32 = .ok (.aload_n 0, 1) := by decide +kernel
theorem dd_X12_weeks_33 : decode cX12_weeks 33 = .ok (.invokevirtual 301, 3) := by decide +kernel
theorem dd_X12_weeks_36 : decode cX12_weeks 36 = .ok (.aload_n 0, 1) := by decide +kernel
theorem dd_X12_weeks_37 : decode cX12_weeks 37 = .ok (.iload_n 1, 1) := by decide +kernel
theorem dd_X12_weeks_38 : decode cX12_weeks 38 = .ok (.invokevirtual 314, 3) := by decide +kernel
theorem dd_X12_weeks_41 : decode cX12_weeks 41 = .ok (.ireturn, 1) := by decide +kernel
theorem dd_X12_worth_0 : decode cX12_worth 0 = .ok (.aload_n 0, 1) := by decide +kernel
theorem dd_X12_worth_1 : decode cX12_worth 1 = .ok (.iconst 0, 1) := by decide +kernel
theorem dd_X12_worth_2 : decode cX12_worth 2 = .ok (.putfield 1, 3) := by decide +kernel
theorem dd_X12_worth_5 : decode cX12_worth 5 = .ok (.aload_n 0, 1) := by decide +kernel
theorem dd_X12_worth_6 : decode cX12_worth 6 = .ok (.iload_n 1, 1) := by decide +kernel
theorem dd_X12_worth_7 : decode cX12_worth 7 = .ok (.invokevirtual 251, 3) := by decide +kernel
theorem dd_X12_worth_10 : decode cX12_worth 10 = .ok (.ifCond .eq 26, 3) := by decide +kernel
theorem dd_X12_worth_36 : decode cX12_worth 36 = .ok (.iconst (-1), 1) := by decide +kernel
theorem dd_X12_worth_37 : decode cX12_worth 37 = .ok (.ireturn, 1) := by decide +kernel
theorem dd_X1_init_0 : decode cX1_init 0 = .ok (.aload_n 0, 1) := by decide +kernel
theorem dd_X1_init_1 : decode cX1_init 1 = .ok (.invokespecial 3, 3) := by decide +kernel
theorem dd_X1_init_4 : decode cX1_init 4 = .ok (.aload_n 0, 1) := by decide +kernel
theorem dd_X1_init_5 : decode cX1_init 5 = .ok (.sipush 160, 3) := by decide +kernel
theorem dd_X1_init_8 : decode cX1_init 8 = .ok (.newarray .int, 2) := by decide +kernel
theorem dd_X1_init_10 : decode cX1_init 10 = .ok (.putfield 11, 3) := by decide +kernel
theorem dd_X1_init_13 : decode cX1_init 13 = .ok (.aload_n 0, 1) := by decide +kernel
theorem dd_X1_init_14 : decode cX1_init 14 = .ok (.iconst 4, 1) := by decide +kernel
theorem dd_X1_init_15 : decode cX1_init 15 = .ok (.newarray .int, 2) := by decide +kernel
theorem dd_X1_init_17 : decode cX1_init 17 = .ok (.putfield 15, 3) := by decide +kernel
theorem dd_X1_init_20 : decode cX1_init 20 = .ok (.return_, 1) := by decide +kernel
theorem dd_X1_live_0 : decode cX1_live 0 = .ok (.iconst 0, 1) := by decide +kernel
theorem dd_X1_live_1 : decode cX1_live 1 = .ok (.istore_n 3, 1) := by decide +kernel
theorem dd_X1_live_2 : decode cX1_live 2 = .ok (.iconst 0, 1) := by decide +kernel
theorem dd_X1_live_3 : decode cX1_live 3 = .ok (.istore 4, 2) := by decide +kernel
theorem dd_X1_live_5 : decode cX1_live 5 = .ok (.iconst 0, 1) := by decide +kernel
theorem dd_X1_live_6 : decode cX1_live 6 = .ok (.istore 5, 2) := by decide +kernel
theorem dd_X1_live_8 : decode cX1_live 8 = .ok (.iload 5, 2) := by decide +kernel
theorem dd_X1_live_10 : decode cX1_live 10 = .ok (.aload_n 0, 1) := by decide +kernel
theorem dd_X1_live_11 : decode cX1_live 11 = .ok (.getfield 18, 3) := by decide +kernel
theorem dd_X1_live_14 : decode cX1_live 14 = .ok (.if_icmp .ge 116, 3) := by decide +kernel
theorem dd_X1_live_130 : decode cX1_live 130 = .ok (.aload_n 0, 1) := by decide +kernel
theorem dd_X1_live_131 : decode cX1_live 131 = .ok (.getfield 15, 3) := by decide +kernel
theorem dd_X1_live_134 : decode cX1_live 134 = .ok (.iconst 0, 1) := by decide +kernel
theorem dd_X1_live_135 : decode cX1_live 135 = .ok (.iload_n 3, 1) := by decide +kernel
theorem dd_X1_live_136 : decode cX1_live 136 = .ok (.iastore, 1) := by decide +kernel
theorem dd_X1_live_137 : decode cX1_live 137 = .ok (.aload_n 0, 1) := by decide +kernel
theorem dd_X1_live_138 : decode cX1_live 138 = .ok (.getfield 15, 3) := by decide +kernel
theorem dd_X1_live_141 : decode cX1_live 141 = .ok (.iconst 1, 1) := by decide +kernel
theorem dd_X1_live_142 : decode cX1_live 142 = .ok (.iload 4, 2) := by decide +kernel
theorem dd_X1_live_144 : decode cX1_live 144 = .ok (.iastore, 1) := by decide +kernel
theorem dd_X1_live_145 : decode cX1_live 145 = .ok (.aload_n 0, 1) := by decide +kernel
theorem dd_X1_live_146 : decode cX1_live 146 = .ok (.getfield 15, 3) := by decide +kernel
theorem dd_X1_live_149 : decode cX1_live 149 = .ok (.iconst 2, 1) := by decide +kernel
theorem dd_X1_live_150 : decode cX1_live 150 = .ok (.aload_n 2, 1) := by decide +kernel
theorem dd_X1_live_151 : decode cX1_live 151 = .ok (.getfield 80, 3) := by decide +kernel
theorem dd_X1_live_154 : decode cX1_live 154 = .ok (.iastore, 1) := by decide +kernel
theorem dd_X1_live_155 : decode cX1_live 155 = .ok (.aload_n 0, 1) := by decide +kernel
theorem dd_X1_live_156 : decode cX1_live 156 = .ok (.getfield 15, 3) := by decide +kernel
theorem dd_X1_live_159 : decode cX1_live 159 = .ok (.iconst 3, 1) := by decide +kernel
theorem dd_X1_live_160 : decode cX1_live 160 = .ok (.aload_n 2, 1) := by decide +kernel
theorem dd_X1_live_161 : decode cX1_live 161 = .ok (.invokevirtual 85, 3) := by decide +kernel
theorem dd_X1_live_164 : decode cX1_live 164 = .ok (.iastore, 1) := by decide +kernel
theorem dd_X1_live_165 : decode cX1_live 165 = .ok (.aload_n 0, 1) := by decide +kernel
theorem dd_X1_live_166 : decode cX1_live 166 = .ok (.iconst 4, 1) := by decide +kernel
theorem dd_X1_live_167 : decode cX1_live 167 = .ok (.putfield 89, 3) := by decide +kernel
theorem dd_X1_live_170 : decode cX1_live 170 = .ok (.iload_n 3, 1) := by decide +kernel
theorem dd_X1_live_171 : decode cX1_live 171 = .ok (.ifCond .ne 7, 3) := by decide +kernel
theorem dd_X1_live_174 : decode cX1_live 174 = .ok (.iconst (-1), 1) := by decide +kernel
theorem dd_X1_live_175 : decode cX1_live 175 = .ok (.goto 5, 3) := by decide +kernel
theorem dd_X1_live_180 : decode cX1_live 180 = .ok (.ireturn, 1) := by decide +kernel
theorem dd_X1_readLines_0 : decode cX1_readLines 0 = .ok (.aload_n 0, 1) := by decide +kernel
theorem dd_X1_readLines_1 : decode cX1_readLines 1 = .ok (.iconst 0, 1) := by decide +kernel
theorem dd_X1_readLines_2 : decode cX1_readLines 2 = .ok (.putfield 18, 3) := by decide +kernel
theorem dd_X1_readLines_5 : decode cX1_readLines 5 = .ok (.iconst 0, 1) := by decide +kernel
theorem dd_X1_readLines_6 : decode cX1_readLines 6 = .ok (.istore_n 3, 1) := by decide +kernel
theorem dd_X1_readLines_7 : decode cX1_readLines 7 = .ok (.iload_n 3, 1) := by decide +kernel
theorem dd_X1_readLines_8 : decode cX1_readLines 8 = .ok (.bipush 40, 2) := by decide +kernel
theorem dd_X1_readLines_10 : decode cX1_readLines 10 = .ok (.if_icmp .gt 51, 3) := by decide +kernel
theorem dd_X1_readLines_13 : decode cX1_readLines 13 = .ok (.aload_n 1, 1) := by decide +kernel
theorem dd_X1_readLines_14 : decode cX1_readLines 14 = .ok (.getfield 22, 3) := by decide +kernel
theorem dd_X1_readLines_17 : decode cX1_readLines 17 = .ok (.ifCond .ne 44, 3) := by decide +kernel
theorem dd_X1_readLines_20 : decode cX1_readLines 20 = .ok (.aload_n 1, 1) := by decide +kernel
theorem dd_X1_readLines_21 : decode cX1_readLines 21 = .ok (.getfield 27, 3) := by decide +kernel
theorem dd_X1_readLines_24 : decode cX1_readLines 24 = .ok (.ifCond .eq 37, 3) := by decide +kernel
theorem dd_X1_readLines_61 : decode cX1_readLines 61 = .ok (.aload_n 1, 1) := by decide +kernel
theorem dd_X1_readLines_62 : decode cX1_readLines 62 = .ok (.getfield 22, 3) := by decide +kernel
theorem dd_X1_readLines_65 : decode cX1_readLines 65 = .ok (.ifCond .ne 7, 3) := by decide +kernel
theorem dd_X1_readLines_68 : decode cX1_readLines 68 = .ok (.iconst 1, 1) := by decide +kernel
theorem dd_X1_readLines_69 : decode cX1_readLines 69 = .ok (.goto 4, 3) := by decide +kernel
theorem dd_X1_readLines_73 : decode cX1_readLines 73 = .ok (.ireturn, 1) := by decide +kernel
theorem dd_X2_clear_0 : decode cX2_clear 0 = .ok (.aload_n 0, 1) := by decide +kernel
theorem dd_X2_clear_1 : decode cX2_clear 1 = .ok (.getfield 11, 3) := by decide +kernel
theorem dd_X2_clear_4 : decode cX2_clear 4 = .ok (.iconst 0, 1) := by decide +kernel
theorem dd_X2_clear_5 : decode cX2_clear 5 = .ok (.invokestatic 98, 3) := by decide +kernel
theorem dd_X2_clear_8 : decode cX2_clear 8 = .ok (.aload_n 0, 1) := by decide +kernel
theorem dd_X2_clear_9 : decode cX2_clear 9 = .ok (.getfield 25, 3) := by decide +kernel
theorem dd_X2_clear_12 : decode cX2_clear 12 = .ok (.iconst (-1), 1) := by decide +kernel
theorem dd_X2_clear_13 : decode cX2_clear 13 = .ok (.invokestatic 98, 3) := by decide +kernel
theorem dd_X2_clear_16 : decode cX2_clear 16 = .ok (.aload_n 0, 1) := by decide +kernel
theorem dd_X2_clear_17 : decode cX2_clear 17 = .ok (.iconst (-1), 1) := by decide +kernel
theorem dd_X2_clear_18 : decode cX2_clear 18 = .ok (.putfield 45, 3) := by decide +kernel
theorem dd_X2_clear_21 : decode cX2_clear 21 = .ok (.aload_n 0, 1) := by decide +kernel
theorem dd_X2_clear_22 : decode cX2_clear 22 = .ok (.iconst (-1), 1) := by decide +kernel
theorem dd_X2_clear_23 : decode cX2_clear 23 = .ok (.putfield 49, 3) := by decide +kernel
theorem dd_X2_clear_26 : decode cX2_clear 26 = .ok (.aload_n 0, 1) := by decide +kernel
theorem dd_X2_clear_27 : decode cX2_clear 27 = .ok (.getfield 34, 3) := by decide +kernel
theorem dd_X2_clear_30 : decode cX2_clear 30 = .ok (.invokevirtual 104, 3) := by decide +kernel
theorem dd_X2_clear_33 : decode cX2_clear 33 = .ok (.aload_n 0, 1) := by decide +kernel
theorem dd_X2_clear_34 : decode cX2_clear 34 = .ok (.getfield 41, 3) := by decide +kernel
theorem dd_X2_clear_37 : decode cX2_clear 37 = .ok (.invokevirtual 105, 3) := by decide +kernel
theorem dd_X2_clear_40 : decode cX2_clear 40 = .ok (.return_, 1) := by decide +kernel
theorem dd_X2_fillWhatWasNotTold_0 : decode cX2_fillWhatWasNotTold 0 = .ok (.aload_n 0, 1) := by decide +kernel
theorem dd_X2_fillWhatWasNotTold_1 : decode cX2_fillWhatWasNotTold 1 = .ok (.aload_n 0, 1) := by decide +kernel
theorem dd_X2_fillWhatWasNotTold_2 : decode cX2_fillWhatWasNotTold 2 = .ok (.getfield 45, 3) := by decide +kernel
theorem dd_X2_fillWhatWasNotTold_5 : decode cX2_fillWhatWasNotTold 5 = .ok (.iconst (-1), 1) := by decide +kernel
theorem dd_X2_fillWhatWasNotTold_6 : decode cX2_fillWhatWasNotTold 6 = .ok (.if_icmp .ne 7, 3) := by decide +kernel
theorem dd_X2_fillWhatWasNotTold_9 : decode cX2_fillWhatWasNotTold 9 = .ok (.iconst 1, 1) := by decide +kernel
theorem dd_X2_fillWhatWasNotTold_10 : decode cX2_fillWhatWasNotTold 10 = .ok (.goto 7, 3) := by decide +kernel
theorem dd_X2_fillWhatWasNotTold_17 : decode cX2_fillWhatWasNotTold 17 = .ok (.putfield 45, 3) := by decide +kernel
theorem dd_X2_fillWhatWasNotTold_20 : decode cX2_fillWhatWasNotTold 20 = .ok (.aload_n 0, 1) := by decide +kernel
theorem dd_X2_fillWhatWasNotTold_21 : decode cX2_fillWhatWasNotTold 21 = .ok (.aload_n 0, 1) := by decide +kernel
theorem dd_X2_fillWhatWasNotTold_22 : decode cX2_fillWhatWasNotTold 22 = .ok (.getfield 49, 3) := by decide +kernel
theorem dd_X2_fillWhatWasNotTold_25 : decode cX2_fillWhatWasNotTold 25 = .ok (.iconst (-1), 1) := by decide +kernel
theorem dd_X2_fillWhatWasNotTold_26 : decode cX2_fillWhatWasNotTold 26 = .ok (.if_icmp .ne 7, 3) := by decide +kernel
theorem dd_X2_fillWhatWasNotTold_29 : decode cX2_fillWhatWasNotTold 29 = .ok (.iconst 1, 1) := by decide +kernel
theorem dd_X2_fillWhatWasNotTold_30 : decode cX2_fillWhatWasNotTold 30 = .ok (.goto 7, 3) := by decide +kernel
theorem dd_X2_fillWhatWasNotTold_37 : decode cX2_fillWhatWasNotTold 37 = .ok (.putfield 49, 3) := by decide +kernel
theorem dd_X2_fillWhatWasNotTold_40 : decode cX2_fillWhatWasNotTold 40 = .ok (.iconst 0, 1) := by decide +kernel
theorem dd_X2_fillWhatWasNotTold_41 : decode cX2_fillWhatWasNotTold 41 = .ok (.istore_n 1, 1) := by decide +kernel
theorem dd_X2_fillWhatWasNotTold_42 : decode cX2_fillWhatWasNotTold 42 = .ok (.iload_n 1, 1) := by decide +kernel
theorem dd_X2_fillWhatWasNotTold_43 : decode cX2_fillWhatWasNotTold 43 = .ok (.bipush 36, 2) := by decide +kernel
theorem dd_X2_fillWhatWasNotTold_45 : decode cX2_fillWhatWasNotTold 45 = .ok (.if_icmp .ge 49, 3) := by decide +kernel
theorem dd_X2_fillWhatWasNotTold_48 : decode cX2_fillWhatWasNotTold 48 = .ok (.aload_n 0, 1) := by decide +kernel
theorem dd_X2_fillWhatWasNotTold_49 : decode cX2_fillWhatWasNotTold 49 = .ok (.getfield 25, 3) := by decide +kernel
theorem dd_X2_fillWhatWasNotTold_52 : decode cX2_fillWhatWasNotTold 52 = .ok (.iload_n 1, 1) := by decide +kernel
theorem dd_X2_fillWhatWasNotTold_53 : decode cX2_fillWhatWasNotTold 53 = .ok (.iaload, 1) := by decide +kernel
theorem dd_X2_fillWhatWasNotTold_54 : decode cX2_fillWhatWasNotTold 54 = .ok (.iconst (-1), 1) := by decide +kernel
theorem dd_X2_fillWhatWasNotTold_55 : decode cX2_fillWhatWasNotTold 55 = .ok (.if_icmp .ne 33, 3) := by decide +kernel
theorem dd_X2_fillWhatWasNotTold_58 : decode cX2_fillWhatWasNotTold 58 = .ok (.aload_n 0, 1) := by decide +kernel
theorem dd_X2_fillWhatWasNotTold_59 : decode cX2_fillWhatWasNotTold 59 = .ok (.getfield 25, 3) := by decide +kernel
theorem dd_X2_fillWhatWasNotTold_62 : decode cX2_fillWhatWasNotTold 62 = .ok (.iload_n 1, 1) := by decide +kernel
theorem dd_X2_fillWhatWasNotTold_63 : decode cX2_fillWhatWasNotTold 63 = .ok (.iload_n 1, 1) := by decide +kernel
theorem dd_X2_fillWhatWasNotTold_64 : decode cX2_fillWhatWasNotTold 64 = .ok (.bipush 6, 2) := by decide +kernel
theorem dd_X2_fillWhatWasNotTold_66 : decode cX2_fillWhatWasNotTold 66 = .ok (.irem, 1) := by decide +kernel
theorem dd_X2_fillWhatWasNotTold_67 : decode cX2_fillWhatWasNotTold 67 = .ok (.aload_n 0, 1) := by decide +kernel
theorem dd_X2_fillWhatWasNotTold_68 : decode cX2_fillWhatWasNotTold 68 = .ok (.invokevirtual 106, 3) := by decide +kernel
theorem dd_X2_fillWhatWasNotTold_71 : decode cX2_fillWhatWasNotTold 71 = .ok (.if_icmp .ge 15, 3) := by decide +kernel
theorem dd_X2_fillWhatWasNotTold_86 : decode cX2_fillWhatWasNotTold 86 = .ok (.iconst 0, 1) := by decide +kernel
theorem dd_X2_fillWhatWasNotTold_87 : decode cX2_fillWhatWasNotTold 87 = .ok (.iastore, 1) := by decide +kernel
theorem dd_X2_fillWhatWasNotTold_88 : decode cX2_fillWhatWasNotTold 88 = .ok (.iinc 1 1, 3) := by decide +kernel
