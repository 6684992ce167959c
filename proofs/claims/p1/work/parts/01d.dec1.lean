theorem dd_X11_sum_39 : decode cX11_sum 39 = .ok (.iload 6, 2) := by decide +kernel
theorem dd_X11_sum_41 : decode cX11_sum 41 = .ok (.iload_n 2, 1) := by decide +kernel
theorem dd_X11_sum_42 : decode cX11_sum 42 = .ok (.iadd, 1) := by decide +kernel
theorem dd_X11_sum_43 : decode cX11_sum 43 = .ok (.istore 6, 2) := by decide +kernel
theorem dd_X11_sum_45 : decode cX11_sum 45 = .ok (.goto (-36), 3) := by decide +kernel
theorem dd_X11_sum_48 : decode cX11_sum 48 = .ok (.iload 4, 2) := by decide +kernel
theorem dd_X11_sum_50 : decode cX11_sum 50 = .ok (.ireturn, 1) := by decide +kernel
theorem dd_X11_tax_0 : decode cX11_tax 0 = .ok (.iload_n 1, 1) := by decide +kernel
theorem dd_X11_tax_1 : decode cX11_tax 1 = .ok (.ifCond .lt 10, 3) := by decide +kernel
theorem dd_X11_tax_4 : decode cX11_tax 4 = .ok (.iload_n 1, 1) := by decide +kernel
theorem dd_X11_tax_5 : decode cX11_tax 5 = .ok (.sipush 200, 3) := by decide +kernel
theorem dd_X11_tax_8 : decode cX11_tax 8 = .ok (.if_icmp .le 7, 3) := by decide +kernel
theorem dd_X11_tax_11 : decode cX11_tax 11 = .ok (.iconst (-1), 1) := by decide +kernel
theorem dd_X11_tax_12 : decode cX11_tax 12 = .ok (.goto 15, 3) := by decide +kernel
theorem dd_X11_tax_15 : decode cX11_tax 15 = .ok (.aload_n 0, 1) := by decide +kernel
theorem dd_X11_tax_16 : decode cX11_tax 16 = .ok (.getfield 82, 3) := by decide +kernel
theorem dd_X11_tax_19 : decode cX11_tax 19 = .ok (.aload_n 0, 1) := by decide +kernel
theorem dd_X11_tax_20 : decode cX11_tax 20 = .ok (.getfield 34, 3) := by decide +kernel
theorem dd_X11_tax_23 : decode cX11_tax 23 = .ok (.iload_n 1, 1) := by decide +kernel
theorem dd_X11_tax_24 : decode cX11_tax 24 = .ok (.invokevirtual 280, 3) := by decide +kernel
theorem dd_X11_tax_27 : decode cX11_tax 27 = .ok (.ireturn, 1) := by decide +kernel
theorem dd_X11_taxOf_0 : decode cX11_taxOf 0 = .ok (.iload_n 1, 1) := by decide +kernel
theorem dd_X11_taxOf_1 : decode cX11_taxOf 1 = .ok (.ifCond .lt 26, 3) := by decide +kernel
theorem dd_X11_taxOf_4 : decode cX11_taxOf 4 = .ok (.iload_n 1, 1) := by decide +kernel
theorem dd_X11_taxOf_5 : decode cX11_taxOf 5 = .ok (.aload_n 0, 1) := by decide +kernel
theorem dd_X11_taxOf_6 : decode cX11_taxOf 6 = .ok (.getfield 82, 3) := by decide +kernel
theorem dd_X11_taxOf_9 : decode cX11_taxOf 9 = .ok (.getfield 283, 3) := by decide +kernel
theorem dd_X11_taxOf_12 : decode cX11_taxOf 12 = .ok (.if_icmp .ge 15, 3) := by decide +kernel
theorem dd_X11_taxOf_27 : decode cX11_taxOf 27 = .ok (.iconst (-1), 1) := by decide +kernel
theorem dd_X11_taxOf_28 : decode cX11_taxOf 28 = .ok (.ireturn, 1) := by decide +kernel
theorem dd_X11_tells_0 : decode cX11_tells 0 = .ok (.aload_n 0, 1) := by decide +kernel
theorem dd_X11_tells_1 : decode cX11_tells 1 = .ok (.getfield 89, 3) := by decide +kernel
theorem dd_X11_tells_4 : decode cX11_tells 4 = .ok (.getfield 274, 3) := by decide +kernel
theorem dd_X11_tells_7 : decode cX11_tells 7 = .ok (.ireturn, 1) := by decide +kernel
theorem dd_X11_times_0 : decode cX11_times 0 = .ok (.aload_n 0, 1) := by decide +kernel
theorem dd_X11_times_1 : decode cX11_times 1 = .ok (.getfield 34, 3) := by decide +kernel
theorem dd_X11_times_4 : decode cX11_times 4 = .ok (.iconst 0, 1) := by decide +kernel
theorem dd_X11_times_5 : decode cX11_times 5 = .ok (.iload_n 1, 1) := by decide +kernel
theorem dd_X11_times_6 : decode cX11_times 6 = .ok (.invokevirtual 138, 3) := by decide +kernel
theorem dd_X11_times_9 : decode cX11_times 9 = .ok (.ifCond .eq 35, 3) := by decide +kernel
theorem dd_X11_times_44 : decode cX11_times 44 = .ok (.iconst (-1), 1) := by decide +kernel
theorem dd_X11_times_45 : decode cX11_times 45 = .ok (.ireturn, 1) := by decide +kernel
theorem dd_X11_told_0 : decode cX11_told 0 = .ok (.iload_n 1, 1) := by decide +kernel
theorem dd_X11_told_1 : decode cX11_told 1 = .ok (.ifCond .lt 26, 3) := by decide +kernel
theorem dd_X11_told_4 : decode cX11_told 4 = .ok (.iload_n 1, 1) := by decide +kernel
theorem dd_X11_told_5 : decode cX11_told 5 = .ok (.aload_n 0, 1) := by decide +kernel
theorem dd_X11_told_6 : decode cX11_told 6 = .ok (.getfield 96, 3) := by decide +kernel
theorem dd_X11_told_9 : decode cX11_told 9 = .ok (.getfield 339, 3) := by decide +kernel
theorem dd_X11_told_12 : decode cX11_told 12 = .ok (.if_icmp .ge 15, 3) := by decide +kernel
theorem dd_X11_told_27 : decode cX11_told 27 = .ok (.iconst (-1), 1) := by decide +kernel
theorem dd_X11_told_28 : decode cX11_told 28 = .ok (.ireturn, 1) := by decide +kernel
theorem dd_X11_triedBetween_0 : decode cX11_triedBetween 0 = .ok (.aload_n 0, 1) := by decide +kernel
theorem dd_X11_triedBetween_1 : decode cX11_triedBetween 1 = .ok (.getfield 34, 3) := by decide +kernel
theorem dd_X11_triedBetween_4 : decode cX11_triedBetween 4 = .ok (.iconst 0, 1) := by decide +kernel
theorem dd_X11_triedBetween_5 : decode cX11_triedBetween 5 = .ok (.iload_n 2, 1) := by decide +kernel
theorem dd_X11_triedBetween_6 : decode cX11_triedBetween 6 = .ok (.invokevirtual 138, 3) := by decide +kernel
theorem dd_X11_triedBetween_9 : decode cX11_triedBetween 9 = .ok (.ifCond .eq 28, 3) := by decide +kernel
theorem dd_X11_triedBetween_37 : decode cX11_triedBetween 37 = .ok (.iconst (-1), 1) := by decide +kernel
theorem dd_X11_triedBetween_38 : decode cX11_triedBetween 38 = .ok (.ireturn, 1) := by decide +kernel
theorem dd_X11_undo_0 : decode cX11_undo 0 = .ok (.aload_n 0, 1) := by decide +kernel
theorem dd_X11_undo_1 : decode cX11_undo 1 = .ok (.getfield 61, 3) := by decide +kernel
theorem dd_X11_undo_4 : decode cX11_undo 4 = .ok (.aload_n 0, 1) := by decide +kernel
theorem dd_X11_undo_5 : decode cX11_undo 5 = .ok (.getfield 34, 3) := by decide +kernel
theorem dd_X11_undo_8 : decode cX11_undo 8 = .ok (.getfield 145, 3) := by decide +kernel
theorem dd_X11_undo_11 : decode cX11_undo 11 = .ok (.invokevirtual 232, 3) := by decide +kernel
theorem dd_X11_undo_14 : decode cX11_undo 14 = .ok (.ireturn, 1) := by decide +kernel
theorem dd_X11_weeks_0 : decode cX11_weeks 0 = .ok (.iload_n 1, 1) := by decide +kernel
theorem dd_X11_weeks_1 : decode cX11_weeks 1 = .ok (.iconst 1, 1) := by decide +kernel
theorem dd_X11_weeks_2 : decode cX11_weeks 2 = .ok (.if_icmp .lt 9, 3) := by decide +kernel
theorem dd_X11_weeks_5 : decode cX11_weeks 5 = .ok (.iload_n 1, 1) := by decide +kernel
theorem dd_X11_weeks_6 : decode cX11_weeks 6 = .ok (.bipush 60, 2) := by decide +kernel
theorem dd_X11_weeks_8 : decode cX11_weeks 8 = .ok (.if_icmp .le 5, 3) := by decide +kernel
theorem dd_X11_weeks_11 : decode cX11_weeks 11 = .ok (.iconst (-1), 1) := by decide +kernel
theorem dd_X11_weeks_12 : decode cX11_weeks 12 = .ok (.ireturn, 1) := by decide +kernel
theorem dd_X11_weeks_13 : decode cX11_weeks 13 = .ok (.aload_n 0, 1) := by decide +kernel
theorem dd_X11_weeks_14 : decode cX11_weeks 14 = .ok (.getfield 34, 3) := by decide +kernel
theorem dd_X11_weeks_17 : decode cX11_weeks 17 = .ok (.getfield 145, 3) := by decide +kernel
theorem dd_X11_weeks_20 : decode cX11_weeks 20 = .ok (.iload_n 1, 1) := by decide +kernel
theorem dd_X11_weeks_21 : decode cX11_weeks 21 = .ok (.invokestatic 222, 3) := by decide +kernel
theorem dd_X11_weeks_24 : decode cX11_weeks 24 = .ok (.istore_n 2, 1) := by decide +kernel
theorem dd_X11_weeks_25 : decode cX11_weeks 25 = .ok (.iload_n 2, 1) := by decide +kernel
theorem dd_X11_weeks_26 : decode cX11_weeks 26 = .ok (.ifCond .le 12, 3) := by decide +kernel
theorem dd_X11_weeks_29 : decode cX11_weeks 29 = .ok (.aload_n 0, 1) := by decide +kernel
theorem dd_X11_weeks_30 : decode cX11_weeks 30 = .ok (.iconst 5, 1) := by decide +kernel
theorem dd_X11_weeks_31 : decode cX11_weeks 31 = .ok (.iconst 0, 1) := by decide +kernel
theorem dd_X11_weeks_32 : decode cX11_weeks 32 = .ok (.iconst 0, 1) := by decide +kernel
theorem dd_X11_weeks_33 : decode cX11_weeks 33 = .ok (.iload_n 2, 1) := by decide +kernel
theorem dd_X11_weeks_34 : decode cX11_weeks 34 = .ok (.invokevirtual 205, 3) := by decide +kernel
theorem dd_X11_weeks_37 : decode cX11_weeks 37 = .ok (.pop, 1) := by decide +kernel
theorem dd_X11_weeks_38 : decode cX11_weeks 38 = .ok (.iload_n 2, 1) := by decide +kernel
theorem dd_X11_weeks_39 : decode cX11_weeks 39 = .ok (.ireturn, 1) := by decide +kernel
theorem dd_X11_weeksToGo_0 : decode cX11_weeksToGo 0 = .ok (.iload_n 1, 1) := by decide +kernel
theorem dd_X11_weeksToGo_1 : decode cX11_weeksToGo 1 = .ok (.sipush 200, 3) := by decide +kernel
theorem dd_X11_weeksToGo_4 : decode cX11_weeksToGo 4 = .ok (.aload_n 0, 1) := by decide +kernel
theorem dd_X11_weeksToGo_5 : decode cX11_weeksToGo 5 = .ok (.getfield 195, 3) := by decide +kernel
theorem dd_X11_weeksToGo_8 : decode cX11_weeksToGo 8 = .ok (.isub, 1) := by decide +kernel
theorem dd_X11_weeksToGo_9 : decode cX11_weeksToGo 9 = .ok (.invokestatic 226, 3) := by decide +kernel
theorem dd_X11_weeksToGo_12 : decode cX11_weeksToGo 12 = .ok (.ireturn, 1) := by decide +kernel
theorem dd_X11_worth_0 : decode cX11_worth 0 = .ok (.aload_n 0, 1) := by decide +kernel
theorem dd_X11_worth_1 : decode cX11_worth 1 = .ok (.getfield 34, 3) := by decide +kernel
theorem dd_X11_worth_4 : decode cX11_worth 4 = .ok (.iconst 0, 1) := by decide +kernel
theorem dd_X11_worth_5 : decode cX11_worth 5 = .ok (.iload_n 1, 1) := by decide +kernel
theorem dd_X11_worth_6 : decode cX11_worth 6 = .ok (.invokevirtual 138, 3) := by decide +kernel
theorem dd_X11_worth_9 : decode cX11_worth 9 = .ok (.ifCond .eq 15, 3) := by decide +kernel
theorem dd_X11_worth_24 : decode cX11_worth 24 = .ok (.iconst (-1), 1) := by decide +kernel
theorem dd_X11_worth_25 : decode cX11_worth 25 = .ok (.ireturn, 1) := by decide +kernel
theorem dd_X12_bad_0 : decode cX12_bad 0 = .ok (.aload_n 0, 1) := by decide +kernel
theorem dd_X12_bad_1 : decode cX12_bad 1 = .ok (.aload_n 0, 1) := by decide +kernel
theorem dd_X12_bad_2 : decode cX12_bad 2 = .ok (.getfield 30, 3) := by decide +kernel
theorem dd_X12_bad_5 : decode cX12_bad 5 = .ok (.iconst 1, 1) := by decide +kernel
theorem dd_X12_bad_6 : decode cX12_bad 6 = .ok (.if_icmp .ne 7, 3) := by decide +kernel
theorem dd_X12_bad_13 : decode cX12_bad 13 = .ok (.iload_n 1, 1) := by decide +kernel
theorem dd_X12_bad_14 : decode cX12_bad 14 = .ok (.putfield 66, 3) := by decide +kernel
theorem dd_X12_bad_17 : decode cX12_bad 17 = .ok (.aload_n 0, 1) := by decide +kernel
theorem dd_X12_bad_18 : decode cX12_bad 18 = .ok (.aload_n 0, 1) := by decide +kernel
theorem dd_X12_bad_19 : decode cX12_bad 19 = .ok (.getfield 24, 3) := by decide +kernel
theorem dd_X12_bad_22 : decode cX12_bad 22 = .ok (.putfield 69, 3) := by decide +kernel
theorem dd_X12_bad_25 : decode cX12_bad 25 = .ok (.iconst 0, 1) := by decide +kernel
theorem dd_X12_bad_26 : decode cX12_bad 26 = .ok (.ireturn, 1) := by decide +kernel
theorem dd_X12_begin_0 : decode cX12_begin 0 = .ok (.aload_n 0, 1) := by decide +kernel
theorem dd_X12_begin_1 : decode cX12_begin 1 = .ok (.iconst 0, 1) := by decide +kernel
theorem dd_X12_begin_2 : decode cX12_begin 2 = .ok (.putfield 1, 3) := by decide +kernel
theorem dd_X12_begin_5 : decode cX12_begin 5 = .ok (.aload_n 0, 1) := by decide +kernel
theorem dd_X12_begin_6 : decode cX12_begin 6 = .ok (.aload_n 0, 1) := by decide +kernel
theorem dd_X12_begin_7 : decode cX12_begin 7 = .ok (.invokevirtual 89, 3) := by decide +kernel
theorem dd_X12_begin_10 : decode cX12_begin 10 = .ok (.putfield 18, 3) := by decide +kernel
theorem dd_X12_begin_13 : decode cX12_begin 13 = .ok (.aload_n 0, 1) := by decide +kernel
theorem dd_X12_begin_14 : decode cX12_begin 14 = .ok (.iload_n 1, 1) := by decide +kernel
theorem dd_X12_begin_15 : decode cX12_begin 15 = .ok (.putfield 27, 3) := by decide +kernel
theorem dd_X12_begin_18 : decode cX12_begin 18 = .ok (.aload_n 0, 1) := by decide +kernel
theorem dd_X12_begin_19 : decode cX12_begin 19 = .ok (.iconst 0, 1) := by decide +kernel
theorem dd_X12_begin_20 : decode cX12_begin 20 = .ok (.putfield 66, 3) := by decide +kernel
theorem dd_X12_begin_23 : decode cX12_begin 23 = .ok (.aload_n 0, 1) := by decide +kernel
theorem dd_X12_begin_24 : decode cX12_begin 24 = .ok (.iconst 0, 1) := by decide +kernel
theorem dd_X12_begin_25 : decode cX12_begin 25 = .ok (.putfield 21, 3) := by decide +kernel
theorem dd_X12_begin_28 : decode cX12_begin 28 = .ok (.aload_n 0, 1) := by decide +kernel
theorem dd_X12_begin_29 : decode cX12_begin 29 = .ok (.invokevirtual 82, 3) := by decide +kernel
theorem dd_X12_begin_32 : decode cX12_begin 32 = .ok (.return_, 1) := by decide +kernel
theorem dd_X12_book_0 : decode cX12_book 0 = .ok (.aload_n 0, 1) := by decide +kernel
theorem dd_X12_book_1 : decode cX12_book 1 = .ok (.iconst 0, 1) := by decide +kernel
theorem dd_X12_book_2 : decode cX12_book 2 = .ok (.putfield 1, 3) := by decide +kernel
theorem dd_X12_book_5 : decode cX12_book 5 = .ok (.iload_n 1, 1) := by decide +kernel
theorem dd_X12_book_6 : decode cX12_book 6 = .ok (.iconst 0, 1) := by decide +kernel
theorem dd_X12_book_7 : decode cX12_book 7 = .ok (.iconst 1, 1) := by decide +kernel
theorem dd_X12_book_8 : decode cX12_book 8 = .ok (.invokestatic 75, 3) := by decide +kernel
theorem dd_X12_book_11 : decode cX12_book 11 = .ok (.ifCond .ne 7, 3) := by decide +kernel
theorem dd_X12_book_14 : decode cX12_book 14 = .ok (.sipush (-1000), 3) := by decide +kernel
theorem dd_X12_book_17 : decode cX12_book 17 = .ok (.ireturn, 1) := by decide +kernel
theorem dd_X12_book_18 : decode cX12_book 18 = .ok (.aload_n 0, 1) := by decide +kernel
theorem dd_X12_book_19 : decode cX12_book 19 = .ok (.sipush 400, 3) := by decide +kernel
theorem dd_X12_book_22 : decode cX12_book 22 = .ok (.invokevirtual 222, 3) := by decide +kernel
theorem dd_X12_book_25 : decode cX12_book 25 = .ok (.aload_n 0, 1) := by decide +kernel
theorem dd_X12_book_26 : decode cX12_book 26 = .ok (.iconst 0, 1) := by decide +kernel
theorem dd_X12_book_27 : decode cX12_book 27 = .ok (.putfield 392, 3) := by decide +kernel
theorem dd_X12_book_30 : decode cX12_book 30 = .ok (.aload_n 0, 1) := by decide +kernel
theorem dd_X12_book_31 : decode cX12_book 31 = .ok (.getfield 30, 3) := by decide +kernel
theorem dd_X12_book_34 : decode cX12_book 34 = .ok (.ifCond .eq 31, 3) := by decide +kernel
theorem dd_X12_book_65 : decode cX12_book 65 = .ok (.aload_n 0, 1) := by decide +kernel
theorem dd_X12_book_66 : decode cX12_book 66 = .ok (.invokevirtual 380, 3) := by decide +kernel
theorem dd_X12_book_69 : decode cX12_book 69 = .ok (.iconst 0, 1) := by decide +kernel
theorem dd_X12_book_70 : decode cX12_book 70 = .ok (.istore_n 2, 1) := by decide +kernel
theorem dd_X12_book_71 : decode cX12_book 71 = .ok (.iconst 0, 1) := by decide +kernel
theorem dd_X12_book_72 : decode cX12_book 72 = .ok (.istore_n 3, 1) := by decide +kernel
theorem dd_X12_book_73 : decode cX12_book 73 = .ok (.iload_n 2, 1) := by decide +kernel
theorem dd_X12_book_74 : decode cX12_book 74 = .ok (.aload_n 0, 1) := by decide +kernel
theorem dd_X12_book_75 : decode cX12_book 75 = .ok (.getfield 392, 3) := by decide +kernel
theorem dd_X12_book_78 : decode cX12_book 78 = .ok (.if_icmp .ge 25, 3) := by decide +kernel
theorem dd_X12_book_103 : decode cX12_book 103 = .ok (.aload_n 0, 1) := by decide +kernel
theorem dd_X12_book_104 : decode cX12_book 104 = .ok (.getfield 166, 3) := by decide +kernel
theorem dd_X12_book_107 : decode cX12_book 107 = .ok (.iconst 0, 1) := by decide +kernel
theorem dd_X12_book_108 : decode cX12_book 108 = .ok (.iload_n 3, 1) := by decide +kernel
theorem dd_X12_book_109 : decode cX12_book 109 = .ok (.iastore, 1) := by decide +kernel
theorem dd_X12_book_110 : decode cX12_book 110 = .ok (.aload_n 0, 1) := by decide +kernel
theorem dd_X12_book_111 : decode cX12_book 111 = .ok (.getfield 166, 3) := by decide +kernel
theorem dd_X12_book_114 : decode cX12_book 114 = .ok (.iconst 1, 1) := by decide +kernel
theorem dd_X12_book_115 : decode cX12_book 115 = .ok (.iload_n 2, 1) := by decide +kernel
theorem dd_X12_book_116 : decode cX12_book 116 = .ok (.iastore, 1) := by decide +kernel
theorem dd_X12_book_117 : decode cX12_book 117 = .ok (.aload_n 0, 1) := by decide +kernel
theorem dd_X12_book_118 : decode cX12_book 118 = .ok (.getfield 166, 3) := by decide +kernel
theorem dd_X12_book_121 : decode cX12_book 121 = .ok (.iconst 2, 1) := by decide +kernel
theorem dd_X12_book_122 : decode cX12_book 122 = .ok (.aload_n 0, 1) := by decide +kernel
theorem dd_X12_book_123 : decode cX12_book 123 = .ok (.getfield 98, 3) := by decide +kernel
theorem dd_X12_book_126 : decode cX12_book 126 = .ok (.bipush 101, 2) := by decide +kernel
theorem dd_X12_book_128 : decode cX12_book 128 = .ok (.iaload, 1) := by decide +kernel
theorem dd_X12_book_129 : decode cX12_book 129 = .ok (.iastore, 1) := by decide +kernel
theorem dd_X12_book_130 : decode cX12_book 130 = .ok (.aload_n 0, 1) := by decide +kernel
theorem dd_X12_book_131 : decode cX12_book 131 = .ok (.getfield 166, 3) := by decide +kernel
theorem dd_X12_book_134 : decode cX12_book 134 = .ok (.iconst 3, 1) := by decide +kernel
theorem dd_X12_book_135 : decode cX12_book 135 = .ok (.aload_n 0, 1) := by decide +kernel
theorem dd_X12_book_136 : decode cX12_book 136 = .ok (.bipush 108, 2) := by decide +kernel
theorem dd_X12_book_138 : decode cX12_book 138 = .ok (.bipush 6, 2) := by decide +kernel
theorem dd_X12_book_140 : decode cX12_book 140 = .ok (.invokevirtual 266, 3) := by decide +kernel
theorem dd_X12_book_143 : decode cX12_book 143 = .ok (.iastore, 1) := by decide +kernel
theorem dd_X12_book_144 : decode cX12_book 144 = .ok (.aload_n 0, 1) := by decide +kernel
theorem dd_X12_book_145 : decode cX12_book 145 = .ok (.iconst 1, 1) := by decide +kernel
theorem dd_X12_book_146 : decode cX12_book 146 = .ok (.putfield 404, 3) := by decide +kernel
theorem dd_X12_book_149 : decode cX12_book 149 = .ok (.aload_n 0, 1) := by decide +kernel
theorem dd_X12_book_150 : decode cX12_book 150 = .ok (.iload_n 1, 1) := by decide +kernel
theorem dd_X12_book_151 : decode cX12_book 151 = .ok (.iconst 1, 1) := by decide +kernel
theorem dd_X12_book_152 : decode cX12_book 152 = .ok (.if_icmp .ne 11, 3) := by decide +kernel
theorem dd_X12_book_155 : decode cX12_book 155 = .ok (.iload_n 2, 1) := by decide +kernel
theorem dd_X12_book_156 : decode cX12_book 156 = .ok (.ifCond .le 7, 3) := by decide +kernel
theorem dd_X12_book_163 : decode cX12_book 163 = .ok (.iconst 0, 1) := by decide +kernel
theorem dd_X12_book_164 : decode cX12_book 164 = .ok (.invokevirtual 407, 3) := by decide +kernel
theorem dd_X12_book_167 : decode cX12_book 167 = .ok (.iload_n 3, 1) := by decide +kernel
theorem dd_X12_book_168 : decode cX12_book 168 = .ok (.ifCond .ne 7, 3) := by decide +kernel
theorem dd_X12_book_171 : decode cX12_book 171 = .ok (.iconst (-1), 1) := by decide +kernel
theorem dd_X12_book_172 : decode cX12_book 172 = .ok (.goto 4, 3) := by decide +kernel
theorem dd_X12_book_176 : decode cX12_book 176 = .ok (.ireturn, 1) := by decide +kernel
theorem dd_X12_bought_0 : decode cX12_bought 0 = .ok (.aload_n 0, 1) := by decide +kernel
theorem dd_X12_bought_1 : decode cX12_bought 1 = .ok (.iconst 0, 1) := by decide +kernel
theorem dd_X12_bought_2 : decode cX12_bought 2 = .ok (.putfield 1, 3) := by decide +kernel
theorem dd_X12_bought_5 : decode cX12_bought 5 = .ok (.aload_n 0, 1) := by decide +kernel
theorem dd_X12_bought_6 : decode cX12_bought 6 = .ok (.iload_n 1, 1) := by decide +kernel
theorem dd_X12_bought_7 : decode cX12_bought 7 = .ok (.invokevirtual 251, 3) := by decide +kernel
theorem dd_X12_bought_10 : decode cX12_bought 10 = .ok (.ifCond .eq 29, 3) := by decide +kernel
theorem dd_X12_bought_39 : decode cX12_bought 39 = .ok (.iconst (-1), 1) := by decide +kernel
theorem dd_X12_bought_40 : decode cX12_bought 40 = .ok (.ireturn, 1) := by decide +kernel
theorem dd_X12_buy_0 : decode cX12_buy 0 = .ok (.aload_n 0, 1) := by decide +kernel
theorem dd_X12_buy_1 : decode cX12_buy 1 = .ok (.iconst 0, 1) := by decide +kernel
theorem dd_X12_buy_2 : decode cX12_buy 2 = .ok (.putfield 1, 3) := by decide +kernel
theorem dd_X12_buy_5 : decode cX12_buy 5 = .ok (.aload_n 0, 1) := by decide +kernel
theorem dd_X12_buy_6 : decode cX12_buy 6 = .ok (.iload_n 1, 1) := by decide +kernel
theorem dd_X12_buy_7 : decode cX12_buy 7 = .ok (.invokevirtual 251, 3) := by decide +kernel
theorem dd_X12_buy_10 : decode cX12_buy 10 = .ok (.ifCond .eq 22, 3) := by decide +kernel
theorem dd_X12_buy_32 : decode cX12_buy 32 = .ok (.iconst (-1), 1) := by decide +kernel
theorem dd_X12_buy_33 : decode cX12_buy 33 = .ok (.ireturn, 1) := by decide +kernel
theorem dd_X12_byteAt_0 : decode cX12_byteAt 0 = .ok (.aload_n 0, 1) := by decide +kernel
theorem dd_X12_byteAt_1 : decode cX12_byteAt 1 = .ok (.iconst 0, 1) := by decide +kernel
theorem dd_X12_byteAt_2 : decode cX12_byteAt 2 = .ok (.putfield 1, 3) := by decide +kernel
theorem dd_X12_byteAt_5 : decode cX12_byteAt 5 = .ok (.iload_n 1, 1) := by decide +kernel
theorem dd_X12_byteAt_6 : decode cX12_byteAt 6 = .ok (.iconst 0, 1) := by decide +kernel
theorem dd_X12_byteAt_7 : decode cX12_byteAt 7 = .ok (.aload_n 0, 1) := by decide +kernel
theorem dd_X12_byteAt_8 : decode cX12_byteAt 8 = .ok (.getfield 351, 3) := by decide +kernel
theorem dd_X12_byteAt_11 : decode cX12_byteAt 11 = .ok (.iconst 1, 1) := by decide +kernel
theorem dd_X12_byteAt_12 : decode cX12_byteAt 12 = .ok (.isub, 1) := by decide +kernel
theorem dd_X12_byteAt_13 : decode cX12_byteAt 13 = .ok (.invokestatic 75, 3) := by decide +kernel
theorem dd_X12_byteAt_16 : decode cX12_byteAt 16 = .ok (.ifCond .eq 12, 3) := by decide +kernel
theorem dd_X12_byteAt_28 : decode cX12_byteAt 28 = .ok (.iconst (-1), 1) := by decide +kernel
theorem dd_X12_byteAt_29 : decode cX12_byteAt 29 = .ok (.ireturn, 1) := by decide +kernel
theorem dd_X12_come_0 : decode cX12_come 0 = .ok (.bipush 24, 2) := by decide +kernel
theorem dd_X12_come_2 : decode cX12_come 2 = .ok (.istore_n 2, 1) := by decide +kernel
theorem dd_X12_come_3 : decode cX12_come 3 = .ok (.iload_n 2, 1) := by decide +kernel
theorem dd_X12_come_4 : decode cX12_come 4 = .ok (.ifCond .lt 35, 3) := by decide +kernel
theorem dd_X12_come_7 : decode cX12_come 7 = .ok (.aload_n 0, 1) := by decide +kernel
theorem dd_X12_come_8 : decode cX12_come 8 = .ok (.getfield 7, 3) := by decide +kernel
theorem dd_X12_come_11 : decode cX12_come 11 = .ok (.aload_n 0, 1) := by decide +kernel
theorem dd_X12_come_12 : decode cX12_come 12 = .ok (.getfield 11, 3) := by decide +kernel
theorem dd_X12_come_15 : decode cX12_come 15 = .ok (.iload_n 1, 1) := by decide +kernel
theorem dd_X12_come_16 : decode cX12_come 16 = .ok (.iload_n 2, 1) := by decide +kernel
theorem dd_X12_come_17 : decode cX12_come 17 = .ok (.iushr, 1) := by decide +kernel
theorem dd_X12_come_18 : decode cX12_come 18 = .ok (.sipush 255, 3) := by decide +kernel
theorem dd_X12_come_21 : decode cX12_come 21 = .ok (.iand, 1) := by decide +kernel
theorem dd_X12_come_22 : decode cX12_come 22 = .ok (.iastore, 1) := by decide +kernel
theorem dd_X12_come_23 : decode cX12_come 23 = .ok (.aload_n 0, 1) := by decide +kernel
theorem dd_X12_come_24 : decode cX12_come 24 = .ok (.dup, 1) := by decide +kernel
theorem dd_X12_come_25 : decode cX12_come 25 = .ok (.getfield 11, 3) := by decide +kernel
theorem dd_X12_come_28 : decode cX12_come 28 = .ok (.iconst 1, 1) := by decide +kernel
theorem dd_X12_come_29 : decode cX12_come 29 = .ok (.iadd, 1) := by decide +kernel
theorem dd_X12_come_30 : decode cX12_come 30 = .ok (.putfield 11, 3) := by decide +kernel
theorem dd_X12_come_33 : decode cX12_come 33 = .ok (.iinc 2 (-8), 3) := by decide +kernel
theorem dd_X12_come_36 : decode cX12_come 36 = .ok (.goto (-33), 3) := by decide +kernel
theorem dd_X12_come_39 : decode cX12_come 39 = .ok (.return_, 1) := by decide +kernel
theorem dd_X12_cost_0 : decode cX12_cost 0 = .ok (.aload_n 0, 1) := by decide +kernel
theorem dd_X12_cost_1 : decode cX12_cost 1 = .ok (.iconst 0, 1) := by decide +kernel
theorem dd_X12_cost_2 : decode cX12_cost 2 = .ok (.putfield 1, 3) := by decide +kernel
theorem dd_X12_cost_5 : decode cX12_cost 5 = .ok (.aload_n 0, 1) := by decide +kernel
theorem dd_X12_cost_6 : decode cX12_cost 6 = .ok (.iload_n 1, 1) := by decide +kernel
theorem dd_X12_cost_7 : decode cX12_cost 7 = .ok (.invokevirtual 251, 3) := by decide +kernel
theorem dd_X12_cost_10 : decode cX12_cost 10 = .ok (.ifCond .eq 20, 3) := by decide +kernel
theorem dd_X12_cost_30 : decode cX12_cost 30 = .ok (.iconst (-1), 1) := by decide +kernel
theorem dd_X12_cost_31 : decode cX12_cost 31 = .ok (.ireturn, 1) := by decide +kernel
theorem dd_X12_count_0 : decode cX12_count 0 = .ok (.aload_n 0, 1) := by decide +kernel
theorem dd_X12_count_1 : decode cX12_count 1 = .ok (.iconst 0, 1) := by decide +kernel
theorem dd_X12_count_2 : decode cX12_count 2 = .ok (.putfield 1, 3) := by decide +kernel
theorem dd_X12_count_5 : decode cX12_count 5 = .ok (.iload_n 1, 1) := by decide +kernel
theorem dd_X12_count_6 : decode cX12_count 6 = .ok (.tableswitch 78 0 5 #[38, 45, 52, 59, 66, 73], 38) := by decide +kernel
theorem dd_X12_count_44 : decode cX12_count 44 = .ok (.aload_n 0, 1) := by decide +kernel
theorem dd_X12_count_45 : decode cX12_count 45 = .ok (.getfield 98, 3) := by decide +kernel
theorem dd_X12_count_48 : decode cX12_count 48 = .ok (.iconst 0, 1) := by decide +kernel
theorem dd_X12_count_49 : decode cX12_count 49 = .ok (.iaload, 1) := by decide +kernel
theorem dd_X12_count_50 : decode cX12_count 50 = .ok (.ireturn, 1) := by decide +kernel
theorem dd_X12_count_51 : decode cX12_count 51 = .ok (.aload_n 0, 1) := by decide +kernel
theorem dd_X12_count_52 : decode cX12_count 52 = .ok (.getfield 98, 3) := by decide +kernel
theorem dd_X12_count_55 : decode cX12_count 55 = .ok (.iconst 1, 1) := by decide +kernel
theorem dd_X12_count_56 : decode cX12_count 56 = .ok (.iaload, 1) := by decide +kernel
theorem dd_X12_count_57 : decode cX12_count 57 = .ok (.ireturn, 1) := by decide +kernel
theorem dd_X12_count_58 : decode cX12_count 58 = .ok (.aload_n 0, 1) := by decide +kernel
theorem dd_X12_count_59 : decode cX12_count 59 = .ok (.getfield 98, 3) := by decide +kernel
theorem dd_X12_count_62 : decode cX12_count 62 = .ok (.iconst 2, 1) := by decide +kernel
theorem dd_X12_count_63 : decode cX12_count 63 = .ok (.iaload, 1) := by decide +kernel
theorem dd_X12_count_64 : decode cX12_count 64 = .ok (.ireturn, 1) := by decide +kernel
theorem dd_X12_count_65 : decode cX12_count 65 = .ok (.aload_n 0, 1) := by decide +kernel
theorem dd_X12_count_66 : decode cX12_count 66 = .ok (.getfield 98, 3) := by decide +kernel
theorem dd_X12_count_69 : decode cX12_count 69 = .ok (.iconst 3, 1) := by decide +kernel
theorem dd_X12_count_70 : decode cX12_count 70 = .ok (.iaload, 1) := by decide +kernel
theorem dd_X12_count_71 : decode cX12_count 71 = .ok (.ireturn, 1) := by decide +kernel
theorem dd_X12_count_72 : decode cX12_count 72 = .ok (.aload_n 0, 1) := by decide +kernel
theorem dd_X12_count_73 : decode cX12_count 73 = .ok (.getfield 98, 3) := by decide +kernel
theorem dd_X12_count_76 : decode cX12_count 76 = .ok (.iconst 4, 1) := by decide +kernel
theorem dd_X12_count_77 : decode cX12_count 77 = .ok (.iaload, 1) := by decide +kernel
theorem dd_X12_count_78 : decode cX12_count 78 = .ok (.ireturn, 1) := by decide +kernel
theorem dd_X12_count_79 : decode cX12_count 79 = .ok (.aload_n 0, 1) := by decide +kernel
theorem dd_X12_count_80 : decode cX12_count 80 = .ok (.getfield 11, 3) := by decide +kernel
theorem dd_X12_count_83 : decode cX12_count 83 = .ok (.ireturn, 1) := by decide +kernel
theorem dd_X12_count_84 : decode cX12_count 84 = .ok (.iconst (-1), 1) := by decide +kernel
theorem dd_X12_count_85 : decode cX12_count 85 = .ok (.ireturn, 1) := by decide +kernel
theorem dd_X12_drawn_0 : decode cX12_drawn 0 = .ok (.aload_n 0, 1) := by decide +kernel
theorem dd_X12_drawn_1 : decode cX12_drawn 1 = .ok (.iconst 0, 1) := by decide +kernel
theorem dd_X12_drawn_2 : decode cX12_drawn 2 = .ok (.putfield 1, 3) := by decide +kernel
theorem dd_X12_drawn_5 : decode cX12_drawn 5 = .ok (.iload_n 1, 1) := by decide +kernel
theorem dd_X12_drawn_6 : decode cX12_drawn 6 = .ok (.iconst 1, 1) := by decide +kernel
theorem dd_X12_drawn_7 : decode cX12_drawn 7 = .ok (.bipush 60, 2) := by decide +kernel
theorem dd_X12_drawn_9 : decode cX12_drawn 9 = .ok (.invokestatic 75, 3) := by decide +kernel
theorem dd_X12_drawn_12 : decode cX12_drawn 12 = .ok (.ifCond .eq 12, 3) := by decide +kernel
theorem dd_X12_drawn_15 : decode cX12_drawn 15 = .ok (.aload_n 0, 1) := by decide +kernel
theorem dd_X12_drawn_16 : decode cX12_drawn 16 = .ok (.getfield 98, 3) := by decide +kernel
theorem dd_X12_drawn_19 : decode cX12_drawn 19 = .ok (.iconst 0, 1) := by decide +kernel
theorem dd_X12_drawn_20 : decode cX12_drawn 20 = .ok (.iaload, 1) := by decide +kernel
theorem dd_X12_drawn_21 : decode cX12_drawn 21 = .ok (.ifCond .ne 5, 3) := by decide +kernel
theorem dd_X12_drawn_24 : decode cX12_drawn 24 = .ok (.iconst (-1), 1) := by decide +kernel
theorem dd_X12_drawn_25 : decode cX12_drawn 25 = .ok (.ireturn, 1) := by decide +kernel
theorem dd_X12_duchy_0 : decode cX12_duchy 0 = .ok (.aload_n 0, 1) := by decide +kernel
theorem dd_X12_duchy_1 : decode cX12_duchy 1 = .ok (.sipush 900, 3) := by decide +kernel
theorem dd_X12_duchy_4 : decode cX12_duchy 4 = .ok (.invokevirtual 222, 3) := by decide +kernel
theorem dd_X12_duchy_7 : decode cX12_duchy 7 = .ok (.iconst 0, 1) := by decide +kernel
theorem dd_X12_duchy_8 : decode cX12_duchy 8 = .ok (.istore_n 1, 1) := by decide +kernel
theorem dd_X12_duchy_9 : decode cX12_duchy 9 = .ok (.iload_n 1, 1) := by decide +kernel
theorem dd_X12_duchy_10 : decode cX12_duchy 10 = .ok (.bipush 101, 2) := by decide +kernel
theorem dd_X12_duchy_12 : decode cX12_duchy 12 = .ok (.if_icmp .ge 16, 3) := by decide +kernel
theorem dd_X12_duchy_15 : decode cX12_duchy 15 = .ok (.aload_n 0, 1) := by decide +kernel
theorem dd_X12_duchy_16 : decode cX12_duchy 16 = .ok (.getfield 101, 3) := by decide +kernel
theorem dd_X12_duchy_19 : decode cX12_duchy 19 = .ok (.iload_n 1, 1) := by decide +kernel
theorem dd_X12_duchy_20 : decode cX12_duchy 20 = .ok (.iconst 0, 1) := by decide +kernel
theorem dd_X12_duchy_21 : decode cX12_duchy 21 = .ok (.iastore, 1) := by decide +kernel
theorem dd_X12_duchy_22 : decode cX12_duchy 22 = .ok (.iinc 1 1, 3) := by decide +kernel
theorem dd_X12_duchy_25 : decode cX12_duchy 25 = .ok (.goto (-16), 3) := by decide +kernel
theorem dd_X12_duchy_28 : decode cX12_duchy 28 = .ok (.iconst 0, 1) := by decide +kernel
theorem dd_X12_duchy_29 : decode cX12_duchy 29 = .ok (.istore_n 1, 1) := by decide +kernel
theorem dd_X12_duchy_30 : decode cX12_duchy 30 = .ok (.iload_n 1, 1) := by decide +kernel
theorem dd_X12_duchy_31 : decode cX12_duchy 31 = .ok (.bipush 36, 2) := by decide +kernel
theorem dd_X12_duchy_33 : decode cX12_duchy 33 = .ok (.if_icmp .ge 19, 3) := by decide +kernel
theorem dd_X12_duchy_36 : decode cX12_duchy 36 = .ok (.aload_n 0, 1) := by decide +kernel
theorem dd_X12_duchy_37 : decode cX12_duchy 37 = .ok (.getfield 101, 3) := by decide +kernel
theorem dd_X12_duchy_40 : decode cX12_duchy 40 = .ok (.bipush 17, 2) := by decide +kernel
theorem dd_X12_duchy_42 : decode cX12_duchy 42 = .ok (.iload_n 1, 1) := by decide +kernel
theorem dd_X12_duchy_43 : decode cX12_duchy 43 = .ok (.iadd, 1) := by decide +kernel
theorem dd_X12_duchy_44 : decode cX12_duchy 44 = .ok (.iconst (-1), 1) := by decide +kernel
theorem dd_X12_duchy_45 : decode cX12_duchy 45 = .ok (.iastore, 1) := by decide +kernel
theorem dd_X12_duchy_46 : decode cX12_duchy 46 = .ok (.iinc 1 1, 3) := by decide +kernel
theorem dd_X12_duchy_49 : decode cX12_duchy 49 = .ok (.goto (-19), 3) := by decide +kernel
theorem dd_X12_duchy_52 : decode cX12_duchy 52 = .ok (.aload_n 0, 1) := by decide +kernel
theorem dd_X12_duchy_53 : decode cX12_duchy 53 = .ok (.getfield 101, 3) := by decide +kernel
theorem dd_X12_duchy_56 : decode cX12_duchy 56 = .ok (.iconst 3, 1) := by decide +kernel
theorem dd_X12_duchy_57 : decode cX12_duchy 57 = .ok (.iconst 1, 1) := by decide +kernel
theorem dd_X12_duchy_58 : decode cX12_duchy 58 = .ok (.iastore, 1) := by decide +kernel
theorem dd_X12_duchy_59 : decode cX12_duchy 59 = .ok (.aload_n 0, 1) := by decide +kernel
theorem dd_X12_duchy_60 : decode cX12_duchy 60 = .ok (.getfield 101, 3) := by decide +kernel
theorem dd_X12_duchy_63 : decode cX12_duchy 63 = .ok (.iconst 4, 1) := by decide +kernel
theorem dd_X12_duchy_64 : decode cX12_duchy 64 = .ok (.iconst 1, 1) := by decide +kernel
theorem dd_X12_duchy_65 : decode cX12_duchy 65 = .ok (.iastore, 1) := by decide +kernel
theorem dd_X12_duchy_66 : decode cX12_duchy 66 = .ok (.aload_n 0, 1) := by decide +kernel
theorem dd_X12_duchy_67 : decode cX12_duchy 67 = .ok (.iconst 0, 1) := by decide +kernel
theorem dd_X12_duchy_68 : decode cX12_duchy 68 = .ok (.putfield 215, 3) := by decide +kernel
theorem dd_X12_duchy_71 : decode cX12_duchy 71 = .ok (.aload_n 0, 1) := by decide +kernel
theorem dd_X12_duchy_72 : decode cX12_duchy 72 = .ok (.iconst 0, 1) := by decide +kernel
theorem dd_X12_duchy_73 : decode cX12_duchy 73 = .ok (.putfield 219, 3) := by decide +kernel
theorem dd_X12_duchy_76 : decode cX12_duchy 76 = .ok (.iconst 0, 1) := by decide +kernel
theorem dd_X12_duchy_77 : decode cX12_duchy 77 = .ok (.istore_n 1, 1) := by decide +kernel
theorem dd_X12_duchy_78 : decode cX12_duchy 78 = .ok (.aload_n 0, 1) := by decide +kernel
theorem dd_X12_duchy_79 : decode cX12_duchy 79 = .ok (.getfield 30, 3) := by decide +kernel
theorem dd_X12_duchy_82 : decode cX12_duchy 82 = .ok (.ifCond .eq 30, 3) := by decide +kernel
theorem dd_X12_duchy_112 : decode cX12_duchy 112 = .ok (.iconst 0, 1) := by decide +kernel
theorem dd_X12_duchy_113 : decode cX12_duchy 113 = .ok (.istore_n 2, 1) := by decide +kernel
theorem dd_X12_duchy_114 : decode cX12_duchy 114 = .ok (.iload_n 2, 1) := by decide +kernel
theorem dd_X12_duchy_115 : decode cX12_duchy 115 = .ok (.bipush 36, 2) := by decide +kernel
theorem dd_X12_duchy_117 : decode cX12_duchy 117 = .ok (.if_icmp .ge 43, 3) := by decide +kernel
theorem dd_X12_duchy_120 : decode cX12_duchy 120 = .ok (.aload_n 0, 1) := by decide +kernel
theorem dd_X12_duchy_121 : decode cX12_duchy 121 = .ok (.getfield 101, 3) := by decide +kernel
theorem dd_X12_duchy_124 : decode cX12_duchy 124 = .ok (.bipush 17, 2) := by decide +kernel
theorem dd_X12_duchy_126 : decode cX12_duchy 126 = .ok (.iload_n 2, 1) := by decide +kernel
theorem dd_X12_duchy_127 : decode cX12_duchy 127 = .ok (.iadd, 1) := by decide +kernel
theorem dd_X12_duchy_128 : decode cX12_duchy 128 = .ok (.iaload, 1) := by decide +kernel
theorem dd_X12_duchy_129 : decode cX12_duchy 129 = .ok (.iconst (-1), 1) := by decide +kernel
theorem dd_X12_duchy_130 : decode cX12_duchy 130 = .ok (.if_icmp .ne 24, 3) := by decide +kernel
theorem dd_X12_duchy_133 : decode cX12_duchy 133 = .ok (.aload_n 0, 1) := by decide +kernel
theorem dd_X12_duchy_134 : decode cX12_duchy 134 = .ok (.getfield 101, 3) := by decide +kernel
theorem dd_X12_duchy_137 : decode cX12_duchy 137 = .ok (.bipush 17, 2) := by decide +kernel
theorem dd_X12_duchy_139 : decode cX12_duchy 139 = .ok (.iload_n 2, 1) := by decide +kernel
theorem dd_X12_duchy_140 : decode cX12_duchy 140 = .ok (.iadd, 1) := by decide +kernel
theorem dd_X12_duchy_141 : decode cX12_duchy 141 = .ok (.aload_n 0, 1) := by decide +kernel
theorem dd_X12_duchy_142 : decode cX12_duchy 142 = .ok (.getfield 101, 3) := by decide +kernel
theorem dd_X12_duchy_145 : decode cX12_duchy 145 = .ok (.bipush 11, 2) := by decide +kernel
theorem dd_X12_duchy_147 : decode cX12_duchy 147 = .ok (.iload_n 2, 1) := by decide +kernel
theorem dd_X12_duchy_148 : decode cX12_duchy 148 = .ok (.bipush 6, 2) := by decide +kernel
theorem dd_X12_duchy_150 : decode cX12_duchy 150 = .ok (.irem, 1) := by decide +kernel
theorem dd_X12_duchy_151 : decode cX12_duchy 151 = .ok (.iadd, 1) := by decide +kernel
theorem dd_X12_duchy_152 : decode cX12_duchy 152 = .ok (.iaload, 1) := by decide +kernel
theorem dd_X12_duchy_153 : decode cX12_duchy 153 = .ok (.iastore, 1) := by decide +kernel
theorem dd_X12_duchy_154 : decode cX12_duchy 154 = .ok (.iinc 2 1, 3) := by decide +kernel
theorem dd_X12_duchy_157 : decode cX12_duchy 157 = .ok (.goto (-43), 3) := by decide +kernel
theorem dd_X12_duchy_160 : decode cX12_duchy 160 = .ok (.iconst 0, 1) := by decide +kernel
theorem dd_X12_duchy_161 : decode cX12_duchy 161 = .ok (.istore_n 2, 1) := by decide +kernel
theorem dd_X12_duchy_162 : decode cX12_duchy 162 = .ok (.iload_n 2, 1) := by decide +kernel
theorem dd_X12_duchy_163 : decode cX12_duchy 163 = .ok (.bipush 101, 2) := by decide +kernel
theorem dd_X12_duchy_165 : decode cX12_duchy 165 = .ok (.if_icmp .ge 21, 3) := by decide +kernel
theorem dd_X12_duchy_168 : decode cX12_duchy 168 = .ok (.aload_n 0, 1) := by decide +kernel
theorem dd_X12_duchy_169 : decode cX12_duchy 169 = .ok (.getfield 98, 3) := by decide +kernel
theorem dd_X12_duchy_172 : decode cX12_duchy 172 = .ok (.iload_n 2, 1) := by decide +kernel
theorem dd_X12_duchy_173 : decode cX12_duchy 173 = .ok (.aload_n 0, 1) := by decide +kernel
theorem dd_X12_duchy_174 : decode cX12_duchy 174 = .ok (.getfield 101, 3) := by decide +kernel
theorem dd_X12_duchy_177 : decode cX12_duchy 177 = .ok (.iload_n 2, 1) := by decide +kernel
theorem dd_X12_duchy_178 : decode cX12_duchy 178 = .ok (.iaload, 1) := by decide +kernel
theorem dd_X12_duchy_179 : decode cX12_duchy 179 = .ok (.iastore, 1) := by decide +kernel
theorem dd_X12_duchy_180 : decode cX12_duchy 180 = .ok (.iinc 2 1, 3) := by decide +kernel
theorem dd_X12_duchy_183 : decode cX12_duchy 183 = .ok (.goto (-21), 3) := by decide +kernel
theorem dd_X12_duchy_186 : decode cX12_duchy 186 = .ok (.iconst 0, 1) := by decide +kernel
theorem dd_X12_duchy_187 : decode cX12_duchy 187 = .ok (.istore_n 2, 1) := by decide +kernel
theorem dd_X12_duchy_188 : decode cX12_duchy 188 = .ok (.iload_n 2, 1) := by decide +kernel
theorem dd_X12_duchy_189 : decode cX12_duchy 189 = .ok (.bipush 18, 2) := by decide +kernel
theorem dd_X12_duchy_191 : decode cX12_duchy 191 = .ok (.if_icmp .ge 21, 3) := by decide +kernel
theorem dd_X12_duchy_194 : decode cX12_duchy 194 = .ok (.aload_n 0, 1) := by decide +kernel
theorem dd_X12_duchy_195 : decode cX12_duchy 195 = .ok (.getfield 113, 3) := by decide +kernel
theorem dd_X12_duchy_198 : decode cX12_duchy 198 = .ok (.iload_n 2, 1) := by decide +kernel
theorem dd_X12_duchy_199 : decode cX12_duchy 199 = .ok (.aload_n 0, 1) := by decide +kernel
theorem dd_X12_duchy_200 : decode cX12_duchy 200 = .ok (.getfield 117, 3) := by decide +kernel
theorem dd_X12_duchy_203 : decode cX12_duchy 203 = .ok (.iload_n 2, 1) := by decide +kernel
theorem dd_X12_duchy_204 : decode cX12_duchy 204 = .ok (.laload, 1) := by decide +kernel
theorem dd_X12_duchy_205 : decode cX12_duchy 205 = .ok (.lastore, 1) := by decide +kernel
theorem dd_X12_duchy_206 : decode cX12_duchy 206 = .ok (.iinc 2 1, 3) := by decide +kernel
theorem dd_X12_duchy_209 : decode cX12_duchy 209 = .ok (.goto (-21), 3) := by decide +kernel
theorem dd_X12_duchy_212 : decode cX12_duchy 212 = .ok (.aload_n 0, 1) := by decide +kernel
theorem dd_X12_duchy_213 : decode cX12_duchy 213 = .ok (.invokevirtual 231, 3) := by decide +kernel
theorem dd_X12_duchy_216 : decode cX12_duchy 216 = .ok (.aload_n 0, 1) := by decide +kernel
theorem dd_X12_duchy_217 : decode cX12_duchy 217 = .ok (.iconst 0, 1) := by decide +kernel
theorem dd_X12_duchy_218 : decode cX12_duchy 218 = .ok (.putfield 234, 3) := by decide +kernel
theorem dd_X12_duchy_221 : decode cX12_duchy 221 = .ok (.iload_n 1, 1) := by decide +kernel
theorem dd_X12_duchy_222 : decode cX12_duchy 222 = .ok (.ireturn, 1) := by decide +kernel
theorem dd_X12_end_0 : decode cX12_end 0 = .ok (.aload_n 0, 1) := by decide +kernel
theorem dd_X12_end_1 : decode cX12_end 1 = .ok (.iconst 0, 1) := by decide +kernel
theorem dd_X12_end_2 : decode cX12_end 2 = .ok (.putfield 1, 3) := by decide +kernel
theorem dd_X12_end_5 : decode cX12_end 5 = .ok (.iload_n 1, 1) := by decide +kernel
theorem dd_X12_end_6 : decode cX12_end 6 = .ok (.ifCond .lt 11, 3) := by decide +kernel
theorem dd_X12_end_9 : decode cX12_end 9 = .ok (.iload_n 1, 1) := by decide +kernel
theorem dd_X12_end_10 : decode cX12_end 10 = .ok (.aload_n 0, 1) := by decide +kernel
theorem dd_X12_end_11 : decode cX12_end 11 = .ok (.getfield 11, 3) := by decide +kernel
theorem dd_X12_end_14 : decode cX12_end 14 = .ok (.if_icmp .le 5, 3) := by decide +kernel
theorem dd_X12_end_17 : decode cX12_end 17 = .ok (.iconst 0, 1) := by decide +kernel
theorem dd_X12_end_18 : decode cX12_end 18 = .ok (.ireturn, 1) := by decide +kernel
theorem dd_X12_end_19 : decode cX12_end 19 = .ok (.aload_n 0, 1) := by decide +kernel
theorem dd_X12_end_20 : decode cX12_end 20 = .ok (.iload_n 1, 1) := by decide +kernel
theorem dd_X12_end_21 : decode cX12_end 21 = .ok (.putfield 11, 3) := by decide +kernel
theorem dd_X12_end_24 : decode cX12_end 24 = .ok (.iconst 1, 1) := by decide +kernel
theorem dd_X12_end_25 : decode cX12_end 25 = .ok (.ireturn, 1) := by decide +kernel
theorem dd_X12_even_0 : decode cX12_even 0 = .ok (.aload_n 0, 1) := by decide +kernel
theorem dd_X12_even_1 : decode cX12_even 1 = .ok (.iconst 0, 1) := by decide +kernel
theorem dd_X12_even_2 : decode cX12_even 2 = .ok (.putfield 1, 3) := by decide +kernel
theorem dd_X12_even_5 : decode cX12_even 5 = .ok (.iconst 0, 1) := by decide +kernel
theorem dd_X12_even_6 : decode cX12_even 6 = .ok (.istore_n 1, 1) := by decide +kernel
theorem dd_X12_even_7 : decode cX12_even 7 = .ok (.iconst 0, 1) := by decide +kernel
theorem dd_X12_even_8 : decode cX12_even 8 = .ok (.istore_n 2, 1) := by decide +kernel
theorem dd_X12_even_9 : decode cX12_even 9 = .ok (.iload_n 2, 1) := by decide +kernel
theorem dd_X12_even_10 : decode cX12_even 10 = .ok (.aload_n 0, 1) := by decide +kernel
theorem dd_X12_even_11 : decode cX12_even 11 = .ok (.getfield 98, 3) := by decide +kernel
theorem dd_X12_even_14 : decode cX12_even 14 = .ok (.iconst 0, 1) := by decide +kernel
theorem dd_X12_even_15 : decode cX12_even 15 = .ok (.iaload, 1) := by decide +kernel
theorem dd_X12_even_16 : decode cX12_even 16 = .ok (.if_icmp .ge 38, 3) := by decide +kernel
theorem dd_X12_even_54 : decode cX12_even 54 = .ok (.aload_n 0, 1) := by decide +kernel
theorem dd_X12_even_55 : decode cX12_even 55 = .ok (.getfield 139, 3) := by decide +kernel
theorem dd_X12_even_58 : decode cX12_even 58 = .ok (.iconst 0, 1) := by decide +kernel
theorem dd_X12_even_59 : decode cX12_even 59 = .ok (.iconst 0, 1) := by decide +kernel
theorem dd_X12_even_60 : decode cX12_even 60 = .ok (.iastore, 1) := by decide +kernel
theorem dd_X12_even_61 : decode cX12_even 61 = .ok (.iconst 1, 1) := by decide +kernel
theorem dd_X12_even_62 : decode cX12_even 62 = .ok (.istore_n 2, 1) := by decide +kernel
theorem dd_X12_even_63 : decode cX12_even 63 = .ok (.iload_n 2, 1) := by decide +kernel
theorem dd_X12_even_64 : decode cX12_even 64 = .ok (.iconst 1, 1) := by decide +kernel
theorem dd_X12_even_65 : decode cX12_even 65 = .ok (.iload_n 1, 1) := by decide +kernel
theorem dd_X12_even_66 : decode cX12_even 66 = .ok (.ishl, 1) := by decide +kernel
theorem dd_X12_even_67 : decode cX12_even 67 = .ok (.if_icmp .ge 103, 3) := by decide +kernel
theorem dd_X12_even_170 : decode cX12_even 170 = .ok (.iload_n 1, 1) := by decide +kernel
theorem dd_X12_even_171 : decode cX12_even 171 = .ok (.aload_n 0, 1) := by decide +kernel
theorem dd_X12_even_172 : decode cX12_even 172 = .ok (.getfield 139, 3) := by decide +kernel
theorem dd_X12_even_175 : decode cX12_even 175 = .ok (.iconst 1, 1) := by decide +kernel
theorem dd_X12_even_176 : decode cX12_even 176 = .ok (.iload_n 1, 1) := by decide +kernel
theorem dd_X12_even_177 : decode cX12_even 177 = .ok (.ishl, 1) := by decide +kernel
theorem dd_X12_even_178 : decode cX12_even 178 = .ok (.iconst 1, 1) := by decide +kernel
theorem dd_X12_even_179 : decode cX12_even 179 = .ok (.isub, 1) := by decide +kernel
theorem dd_X12_even_180 : decode cX12_even 180 = .ok (.iaload, 1) := by decide +kernel
theorem dd_X12_even_181 : decode cX12_even 181 = .ok (.isub, 1) := by decide +kernel
theorem dd_X12_even_182 : decode cX12_even 182 = .ok (.ireturn, 1) := by decide +kernel
theorem dd_X12_fault_0 : decode cX12_fault 0 = .ok (.aload_n 0, 1) := by decide +kernel
theorem dd_X12_fault_1 : decode cX12_fault 1 = .ok (.iconst 0, 1) := by decide +kernel
theorem dd_X12_fault_2 : decode cX12_fault 2 = .ok (.putfield 1, 3) := by decide +kernel
theorem dd_X12_fault_5 : decode cX12_fault 5 = .ok (.aload_n 0, 1) := by decide +kernel
theorem dd_X12_fault_6 : decode cX12_fault 6 = .ok (.getfield 66, 3) := by decide +kernel
theorem dd_X12_fault_9 : decode cX12_fault 9 = .ok (.ireturn, 1) := by decide +kernel
theorem dd_X12_feed_0 : decode cX12_feed 0 = .ok (.aload_n 0, 1) := by decide +kernel
theorem dd_X12_feed_1 : decode cX12_feed 1 = .ok (.iconst 0, 1) := by decide +kernel
theorem dd_X12_feed_2 : decode cX12_feed 2 = .ok (.putfield 1, 3) := by decide +kernel
theorem dd_X12_feed_5 : decode cX12_feed 5 = .ok (.aload_n 0, 1) := by decide +kernel
theorem dd_X12_feed_6 : decode cX12_feed 6 = .ok (.getfield 11, 3) := by decide +kernel
theorem dd_X12_feed_9 : decode cX12_feed 9 = .ok (.bipush 20, 2) := by decide +kernel
theorem dd_X12_feed_11 : decode cX12_feed 11 = .ok (.iadd, 1) := by decide +kernel
theorem dd_X12_feed_12 : decode cX12_feed 12 = .ok (.sipush 940, 3) := by decide +kernel
theorem dd_X12_feed_15 : decode cX12_feed 15 = .ok (.if_icmp .le 5, 3) := by decide +kernel
theorem dd_X12_feed_20 : decode cX12_feed 20 = .ok (.aload_n 0, 1) := by decide +kernel
theorem dd_X12_feed_21 : decode cX12_feed 21 = .ok (.iload_n 1, 1) := by decide +kernel
theorem dd_X12_feed_22 : decode cX12_feed 22 = .ok (.invokevirtual 14, 3) := by decide +kernel
theorem dd_X12_feed_25 : decode cX12_feed 25 = .ok (.aload_n 0, 1) := by decide +kernel
theorem dd_X12_feed_26 : decode cX12_feed 26 = .ok (.iload_n 2, 1) := by decide +kernel
theorem dd_X12_feed_27 : decode cX12_feed 27 = .ok (.invokevirtual 14, 3) := by decide +kernel
theorem dd_X12_feed_30 : decode cX12_feed 30 = .ok (.aload_n 0, 1) := by decide +kernel
theorem dd_X12_feed_31 : decode cX12_feed 31 = .ok (.iload_n 3, 1) := by decide +kernel
theorem dd_X12_feed_32 : decode cX12_feed 32 = .ok (.invokevirtual 14, 3) := by decide +kernel
theorem dd_X12_feed_35 : decode cX12_feed 35 = .ok (.aload_n 0, 1) := by decide +kernel
theorem dd_X12_feed_36 : decode cX12_feed 36 = .ok (.iload 4, 2) := by decide +kernel
theorem dd_X12_feed_38 : decode cX12_feed 38 = .ok (.invokevirtual 14, 3) := by decide +kernel
theorem dd_X12_feed_41 : decode cX12_feed 41 = .ok (.aload_n 0, 1) := by decide +kernel
theorem dd_X12_feed_42 : decode cX12_feed 42 = .ok (.iload 5, 2) := by decide +kernel
theorem dd_X12_feed_44 : decode cX12_feed 44 = .ok (.invokevirtual 14, 3) := by decide +kernel
theorem dd_X12_feed_47 : decode cX12_feed 47 = .ok (.aload_n 0, 1) := by decide +kernel
theorem dd_X12_feed_48 : decode cX12_feed 48 = .ok (.getfield 11, 3) := by decide +kernel
theorem dd_X12_feed_51 : decode cX12_feed 51 = .ok (.ireturn, 1) := by decide +kernel
theorem dd_X12_fits_0 : decode cX12_fits 0 = .ok (.aload_n 0, 1) := by decide +kernel
theorem dd_X12_fits_1 : decode cX12_fits 1 = .ok (.iconst 0, 1) := by decide +kernel
theorem dd_X12_fits_2 : decode cX12_fits 2 = .ok (.putfield 1, 3) := by decide +kernel
theorem dd_X12_fits_5 : decode cX12_fits 5 = .ok (.aload_n 0, 1) := by decide +kernel
theorem dd_X12_fits_6 : decode cX12_fits 6 = .ok (.invokevirtual 89, 3) := by decide +kernel
theorem dd_X12_fits_9 : decode cX12_fits 9 = .ok (.istore_n 1, 1) := by decide +kernel
theorem dd_X12_fits_10 : decode cX12_fits 10 = .ok (.iload_n 1, 1) := by decide +kernel
theorem dd_X12_fits_11 : decode cX12_fits 11 = .ok (.iconst 2, 1) := by decide +kernel
theorem dd_X12_fits_12 : decode cX12_fits 12 = .ok (.irem, 1) := by decide +kernel
theorem dd_X12_fits_13 : decode cX12_fits 13 = .ok (.ifCond .ne 15, 3) := by decide +kernel
theorem dd_X12_fits_16 : decode cX12_fits 16 = .ok (.iload_n 1, 1) := by decide +kernel
theorem dd_X12_fits_17 : decode cX12_fits 17 = .ok (.iconst 2, 1) := by decide +kernel
theorem dd_X12_fits_18 : decode cX12_fits 18 = .ok (.idiv, 1) := by decide +kernel
theorem dd_X12_fits_19 : decode cX12_fits 19 = .ok (.iconst 1, 1) := by decide +kernel
theorem dd_X12_fits_20 : decode cX12_fits 20 = .ok (.bipush 10, 2) := by decide +kernel
theorem dd_X12_fits_22 : decode cX12_fits 22 = .ok (.invokestatic 75, 3) := by decide +kernel
theorem dd_X12_fits_25 : decode cX12_fits 25 = .ok (.ifCond .ne 5, 3) := by decide +kernel
theorem dd_X12_fits_28 : decode cX12_fits 28 = .ok (.iconst (-1), 1) := by decide +kernel
theorem dd_X12_fits_29 : decode cX12_fits 29 = .ok (.ireturn, 1) := by decide +kernel
theorem dd_X12_forfeit_0 : decode cX12_forfeit 0 = .ok (.aload_n 0, 1) := by decide +kernel
theorem dd_X12_forfeit_1 : decode cX12_forfeit 1 = .ok (.iconst 0, 1) := by decide +kernel
theorem dd_X12_forfeit_2 : decode cX12_forfeit 2 = .ok (.putfield 1, 3) := by decide +kernel
theorem dd_X12_forfeit_5 : decode cX12_forfeit 5 = .ok (.aload_n 0, 1) := by decide +kernel
theorem dd_X12_forfeit_6 : decode cX12_forfeit 6 = .ok (.iload_n 1, 1) := by decide +kernel
theorem dd_X12_forfeit_7 : decode cX12_forfeit 7 = .ok (.invokevirtual 251, 3) := by decide +kernel
theorem dd_X12_forfeit_10 : decode cX12_forfeit 10 = .ok (.ifCond .eq 11, 3) := by decide +kernel
theorem dd_X12_forfeit_21 : decode cX12_forfeit 21 = .ok (.iconst (-1), 1) := by decide +kernel
theorem dd_X12_forfeit_22 : decode cX12_forfeit 22 = .ok (.ireturn, 1) := by decide +kernel
theorem dd_X12_go_0 : decode cX12_go 0 = .ok (.aload_n 0, 1) := by decide +kernel
theorem dd_X12_go_1 : decode cX12_go 1 = .ok (.getfield 21, 3) := by decide +kernel
theorem dd_X12_go_4 : decode cX12_go 4 = .ok (.aload_n 0, 1) := by decide +kernel
theorem dd_X12_go_5 : decode cX12_go 5 = .ok (.getfield 18, 3) := by decide +kernel
theorem dd_X12_go_8 : decode cX12_go 8 = .ok (.if_icmp .ge 44, 3) := by decide +kernel
theorem dd_X12_go_52 : decode cX12_go 52 = .ok (.aload_n 0, 1) := by decide +kernel
theorem dd_X12_go_53 : decode cX12_go 53 = .ok (.aload_n 0, 1) := by decide +kernel
theorem dd_X12_go_54 : decode cX12_go 54 = .ok (.getfield 21, 3) := by decide +kernel
theorem dd_X12_go_57 : decode cX12_go 57 = .ok (.putfield 24, 3) := by decide +kernel
theorem dd_X12_go_60 : decode cX12_go 60 = .ok (.aload_n 0, 1) := by decide +kernel
theorem dd_X12_go_61 : decode cX12_go 61 = .ok (.getfield 18, 3) := by decide +kernel
theorem dd_X12_go_64 : decode cX12_go 64 = .ok (.aload_n 0, 1) := by decide +kernel
theorem dd_X12_go_65 : decode cX12_go 65 = .ok (.getfield 27, 3) := by decide +kernel
theorem dd_X12_go_68 : decode cX12_go 68 = .ok (.if_icmp .le 28, 3) := by decide +kernel
theorem dd_X12_go_96 : decode cX12_go 96 = .ok (.aload_n 0, 1) := by decide +kernel
theorem dd_X12_go_97 : decode cX12_go 97 = .ok (.getfield 21, 3) := by decide +kernel
theorem dd_X12_go_100 : decode cX12_go 100 = .ok (.aload_n 0, 1) := by decide +kernel
theorem dd_X12_go_101 : decode cX12_go 101 = .ok (.getfield 18, 3) := by decide +kernel
theorem dd_X12_go_104 : decode cX12_go 104 = .ok (.if_icmp .lt 9, 3) := by decide +kernel
theorem dd_X12_go_107 : decode cX12_go 107 = .ok (.aload_n 0, 1) := by decide +kernel
theorem dd_X12_go_108 : decode cX12_go 108 = .ok (.iconst 0, 1) := by decide +kernel
theorem dd_X12_go_109 : decode cX12_go 109 = .ok (.putfield 30, 3) := by decide +kernel
theorem dd_X12_go_112 : decode cX12_go 112 = .ok (.return_, 1) := by decide +kernel
theorem dd_X12_good_0 : decode cX12_good 0 = .ok (.aload_n 0, 1) := by decide +kernel
theorem dd_X12_good_1 : decode cX12_good 1 = .ok (.iconst 0, 1) := by decide +kernel
theorem dd_X12_good_2 : decode cX12_good 2 = .ok (.putfield 1, 3) := by decide +kernel
theorem dd_X12_good_5 : decode cX12_good 5 = .ok (.aload_n 0, 1) := by decide +kernel
theorem dd_X12_good_6 : decode cX12_good 6 = .ok (.iload_n 1, 1) := by decide +kernel
theorem dd_X12_good_7 : decode cX12_good 7 = .ok (.invokevirtual 275, 3) := by decide +kernel
theorem dd_X12_good_10 : decode cX12_good 10 = .ok (.ifCond .ne 5, 3) := by decide +kernel
theorem dd_X12_good_13 : decode cX12_good 13 = .ok (.iconst (-1), 1) := by decide +kernel
theorem dd_X12_good_14 : decode cX12_good 14 = .ok (.ireturn, 1) := by decide +kernel
theorem dd_X12_image_0 : decode cX12_image 0 = .ok (.aload_n 0, 1) := by decide +kernel
theorem dd_X12_image_1 : decode cX12_image 1 = .ok (.iconst 0, 1) := by decide +kernel
theorem dd_X12_image_2 : decode cX12_image 2 = .ok (.putfield 1, 3) := by decide +kernel
theorem dd_X12_image_5 : decode cX12_image 5 = .ok (.iload_n 1, 1) := by decide +kernel
theorem dd_X12_image_6 : decode cX12_image 6 = .ok (.iconst 0, 1) := by decide +kernel
theorem dd_X12_image_7 : decode cX12_image 7 = .ok (.iconst 1, 1) := by decide +kernel
theorem dd_X12_image_8 : decode cX12_image 8 = .ok (.invokestatic 75, 3) := by decide +kernel
theorem dd_X12_image_11 : decode cX12_image 11 = .ok (.ifCond .ne 5, 3) := by decide +kernel
theorem dd_X12_image_14 : decode cX12_image 14 = .ok (.iconst 0, 1) := by decide +kernel
theorem dd_X12_image_15 : decode cX12_image 15 = .ok (.ireturn, 1) := by decide +kernel
theorem dd_X12_image_16 : decode cX12_image 16 = .ok (.iconst 0, 1) := by decide +kernel
theorem dd_X12_image_17 : decode cX12_image 17 = .ok (.istore_n 2, 1) := by decide +kernel
theorem dd_X12_image_18 : decode cX12_image 18 = .ok (.iload_n 2, 1) := by decide +kernel
theorem dd_X12_image_19 : decode cX12_image 19 = .ok (.sipush 476, 3) := by decide +kernel
theorem dd_X12_image_22 : decode cX12_image 22 = .ok (.if_icmp .ge 27, 3) := by decide +kernel
theorem dd_X12_image_25 : decode cX12_image 25 = .ok (.aload_n 0, 1) := by decide +kernel
theorem dd_X12_image_26 : decode cX12_image 26 = .ok (.getfield 104, 3) := by decide +kernel
theorem dd_X12_image_29 : decode cX12_image 29 = .ok (.sipush 476, 3) := by decide +kernel
theorem dd_X12_image_32 : decode cX12_image 32 = .ok (.iload_n 1, 1) := by decide +kernel
theorem dd_X12_image_33 : decode cX12_image 33 = .ok (.imul, 1) := by decide +kernel
theorem dd_X12_image_34 : decode cX12_image 34 = .ok (.iload_n 2, 1) := by decide +kernel
theorem dd_X12_image_35 : decode cX12_image 35 = .ok (.iadd, 1) := by decide +kernel
theorem dd_X12_image_36 : decode cX12_image 36 = .ok (.aload_n 0, 1) := by decide +kernel
theorem dd_X12_image_37 : decode cX12_image 37 = .ok (.getfield 98, 3) := by decide +kernel
theorem dd_X12_image_40 : decode cX12_image 40 = .ok (.iload_n 2, 1) := by decide +kernel
theorem dd_X12_image_41 : decode cX12_image 41 = .ok (.iaload, 1) := by decide +kernel
theorem dd_X12_image_42 : decode cX12_image 42 = .ok (.iastore, 1) := by decide +kernel
theorem dd_X12_image_43 : decode cX12_image 43 = .ok (.iinc 2 1, 3) := by decide +kernel
theorem dd_X12_image_46 : decode cX12_image 46 = .ok (.goto (-28), 3) := by decide +kernel
theorem dd_X12_image_49 : decode cX12_image 49 = .ok (.iconst 0, 1) := by decide +kernel
theorem dd_X12_image_50 : decode cX12_image 50 = .ok (.istore_n 2, 1) := by decide +kernel
theorem dd_X12_image_51 : decode cX12_image 51 = .ok (.iload_n 2, 1) := by decide +kernel
theorem dd_X12_image_52 : decode cX12_image 52 = .ok (.bipush 18, 2) := by decide +kernel
theorem dd_X12_image_54 : decode cX12_image 54 = .ok (.if_icmp .ge 26, 3) := by decide +kernel
theorem dd_X12_image_57 : decode cX12_image 57 = .ok (.aload_n 0, 1) := by decide +kernel
theorem dd_X12_image_58 : decode cX12_image 58 = .ok (.getfield 120, 3) := by decide +kernel
theorem dd_X12_image_61 : decode cX12_image 61 = .ok (.bipush 18, 2) := by decide +kernel
theorem dd_X12_image_63 : decode cX12_image 63 = .ok (.iload_n 1, 1) := by decide +kernel
theorem dd_X12_image_64 : decode cX12_image 64 = .ok (.imul, 1) := by decide +kernel
theorem dd_X12_image_65 : decode cX12_image 65 = .ok (.iload_n 2, 1) := by decide +kernel
theorem dd_X12_image_66 : decode cX12_image 66 = .ok (.iadd, 1) := by decide +kernel
theorem dd_X12_image_67 : decode cX12_image 67 = .ok (.aload_n 0, 1) := by decide +kernel
theorem dd_X12_image_68 : decode cX12_image 68 = .ok (.getfield 113, 3) := by decide +kernel
theorem dd_X12_image_71 : decode cX12_image 71 = .ok (.iload_n 2, 1) := by decide +kernel
theorem dd_X12_image_72 : decode cX12_image 72 = .ok (.laload, 1) := by decide +kernel
theorem dd_X12_image_73 : decode cX12_image 73 = .ok (.lastore, 1) := by decide +kernel
theorem dd_X12_image_74 : decode cX12_image 74 = .ok (.iinc 2 1, 3) := by decide +kernel
theorem dd_X12_image_77 : decode cX12_image 77 = .ok (.goto (-26), 3) := by decide +kernel
theorem dd_X12_image_80 : decode cX12_image 80 = .ok (.aload_n 0, 1) := by decide +kernel
theorem dd_X12_image_81 : decode cX12_image 81 = .ok (.getfield 123, 3) := by decide +kernel
theorem dd_X12_image_84 : decode cX12_image 84 = .ok (.iload_n 1, 1) := by decide +kernel
theorem dd_X12_image_85 : decode cX12_image 85 = .ok (.iconst 1, 1) := by decide +kernel
theorem dd_X12_image_86 : decode cX12_image 86 = .ok (.bastore, 1) := by decide +kernel
theorem dd_X12_image_87 : decode cX12_image 87 = .ok (.iconst 1, 1) := by decide +kernel
theorem dd_X12_image_88 : decode cX12_image 88 = .ok (.ireturn, 1) := by decide +kernel
theorem dd_X12_init_0 : decode cX12_init 0 = .ok (.aload_n 0, 1) := by decide +kernel
theorem dd_X12_init_1 : decode cX12_init 1 = .ok (.invokespecial 93, 3) := by decide +kernel
theorem dd_X12_init_4 : decode cX12_init 4 = .ok (.aload_n 0, 1) := by decide +kernel
theorem dd_X12_init_5 : decode cX12_init 5 = .ok (.sipush 940, 3) := by decide +kernel
theorem dd_X12_init_8 : decode cX12_init 8 = .ok (.newarray .int, 2) := by decide +kernel
theorem dd_X12_init_10 : decode cX12_init 10 = .ok (.putfield 7, 3) := by decide +kernel
theorem dd_X12_init_13 : decode cX12_init 13 = .ok (.aload_n 0, 1) := by decide +kernel
theorem dd_X12_init_14 : decode cX12_init 14 = .ok (.sipush 476, 3) := by decide +kernel
theorem dd_X12_init_17 : decode cX12_init 17 = .ok (.newarray .int, 2) := by decide +kernel
theorem dd_X12_init_19 : decode cX12_init 19 = .ok (.putfield 98, 3) := by decide +kernel
theorem dd_X12_init_22 : decode cX12_init 22 = .ok (.aload_n 0, 1) := by decide +kernel
theorem dd_X12_init_23 : decode cX12_init 23 = .ok (.bipush 101, 2) := by decide +kernel
theorem dd_X12_init_25 : decode cX12_init 25 = .ok (.newarray .int, 2) := by decide +kernel
theorem dd_X12_init_27 : decode cX12_init 27 = .ok (.putfield 101, 3) := by decide +kernel
theorem dd_X12_init_30 : decode cX12_init 30 = .ok (.aload_n 0, 1) := by decide +kernel
theorem dd_X12_init_31 : decode cX12_init 31 = .ok (.sipush 952, 3) := by decide +kernel
theorem dd_X12_init_34 : decode cX12_init 34 = .ok (.newarray .int, 2) := by decide +kernel
theorem dd_X12_init_36 : decode cX12_init 36 = .ok (.putfield 104, 3) := by decide +kernel
theorem dd_X12_init_39 : decode cX12_init 39 = .ok (.aload_n 0, 1) := by decide +kernel
theorem dd_X12_init_40 : decode cX12_init 40 = .ok (.sipush 1064, 3) := by decide +kernel
theorem dd_X12_init_43 : decode cX12_init 43 = .ok (.newarray .int, 2) := by decide +kernel
theorem dd_X12_init_45 : decode cX12_init 45 = .ok (.putfield 107, 3) := by decide +kernel
theorem dd_X12_init_48 : decode cX12_init 48 = .ok (.aload_n 0, 1) := by decide +kernel
theorem dd_X12_init_49 : decode cX12_init 49 = .ok (.sipush 133, 3) := by decide +kernel
theorem dd_X12_init_52 : decode cX12_init 52 = .ok (.newarray .int, 2) := by decide +kernel
theorem dd_X12_init_54 : decode cX12_init 54 = .ok (.putfield 110, 3) := by decide +kernel
theorem dd_X12_init_57 : decode cX12_init 57 = .ok (.aload_n 0, 1) := by decide +kernel
theorem dd_X12_init_58 : decode cX12_init 58 = .ok (.bipush 18, 2) := by decide +kernel
theorem dd_X12_init_60 : decode cX12_init 60 = .ok (.newarray .long, 2) := by decide +kernel
theorem dd_X12_init_62 : decode cX12_init 62 = .ok (.putfield 113, 3) := by decide +kernel
theorem dd_X12_init_65 : decode cX12_init 65 = .ok (.aload_n 0, 1) := by decide +kernel
theorem dd_X12_init_66 : decode cX12_init 66 = .ok (.bipush 18, 2) := by decide +kernel
theorem dd_X12_init_68 : decode cX12_init 68 = .ok (.newarray .long, 2) := by decide +kernel
theorem dd_X12_init_70 : decode cX12_init 70 = .ok (.putfield 117, 3) := by decide +kernel
theorem dd_X12_init_73 : decode cX12_init 73 = .ok (.aload_n 0, 1) := by decide +kernel
theorem dd_X12_init_74 : decode cX12_init 74 = .ok (.bipush 36, 2) := by decide +kernel
theorem dd_X12_init_76 : decode cX12_init 76 = .ok (.newarray .long, 2) := by decide +kernel
theorem dd_X12_init_78 : decode cX12_init 78 = .ok (.putfield 120, 3) := by decide +kernel
theorem dd_X12_init_81 : decode cX12_init 81 = .ok (.aload_n 0, 1) := by decide +kernel
theorem dd_X12_init_82 : decode cX12_init 82 = .ok (.iconst 2, 1) := by decide +kernel
theorem dd_X12_init_83 : decode cX12_init 83 = .ok (.newarray .boolean, 2) := by decide +kernel
theorem dd_X12_init_85 : decode cX12_init 85 = .ok (.putfield 123, 3) := by decide +kernel
theorem dd_X12_init_88 : decode cX12_init 88 = .ok (.aload_n 0, 1) := by decide +kernel
theorem dd_X12_init_89 : decode cX12_init 89 = .ok (.bipush 6, 2) := by decide +kernel
theorem dd_X12_init_91 : decode cX12_init 91 = .ok (.newarray .int, 2) := by decide +kernel
theorem dd_X12_init_93 : decode cX12_init 93 = .ok (.putfield 127, 3) := by decide +kernel
theorem dd_X12_init_96 : decode cX12_init 96 = .ok (.aload_n 0, 1) := by decide +kernel
theorem dd_X12_init_97 : decode cX12_init 97 = .ok (.bipush 6, 2) := by decide +kernel
theorem dd_X12_init_99 : decode cX12_init 99 = .ok (.newarray .int, 2) := by decide +kernel
theorem dd_X12_init_101 : decode cX12_init 101 = .ok (.putfield 130, 3) := by decide +kernel
theorem dd_X12_init_104 : decode cX12_init 104 = .ok (.aload_n 0, 1) := by decide +kernel
theorem dd_X12_init_105 : decode cX12_init 105 = .ok (.sipush 700, 3) := by decide +kernel
theorem dd_X12_init_108 : decode cX12_init 108 = .ok (.newarray .int, 2) := by decide +kernel
theorem dd_X12_init_110 : decode cX12_init 110 = .ok (.putfield 133, 3) := by decide +kernel
theorem dd_X12_init_113 : decode cX12_init 113 = .ok (.aload_n 0, 1) := by decide +kernel
theorem dd_X12_init_114 : decode cX12_init 114 = .ok (.bipush 6, 2) := by decide +kernel
theorem dd_X12_init_116 : decode cX12_init 116 = .ok (.newarray .int, 2) := by decide +kernel
theorem dd_X12_init_118 : decode cX12_init 118 = .ok (.putfield 136, 3) := by decide +kernel
theorem dd_X12_init_121 : decode cX12_init 121 = .ok (.aload_n 0, 1) := by decide +kernel
theorem dd_X12_init_122 : decode cX12_init 122 = .ok (.bipush 64, 2) := by decide +kernel
theorem dd_X12_init_124 : decode cX12_init 124 = .ok (.newarray .int, 2) := by decide +kernel
theorem dd_X12_init_126 : decode cX12_init 126 = .ok (.putfield 139, 3) := by decide +kernel
theorem dd_X12_init_129 : decode cX12_init 129 = .ok (.aload_n 0, 1) := by decide +kernel
theorem dd_X12_init_130 : decode cX12_init 130 = .ok (.bipush 6, 2) := by decide +kernel
theorem dd_X12_init_132 : decode cX12_init 132 = .ok (.newarray .int, 2) := by decide +kernel
theorem dd_X12_init_134 : decode cX12_init 134 = .ok (.putfield 142, 3) := by decide +kernel
theorem dd_X12_init_137 : decode cX12_init 137 = .ok (.aload_n 0, 1) := by decide +kernel
theorem dd_X12_init_138 : decode cX12_init 138 = .ok (.iconst (-1), 1) := by decide +kernel
theorem dd_X12_init_139 : decode cX12_init 139 = .ok (.putfield 145, 3) := by decide +kernel
theorem dd_X12_init_142 : decode cX12_init 142 = .ok (.aload_n 0, 1) := by decide +kernel
theorem dd_X12_init_143 : decode cX12_init 143 = .ok (.bipush 6, 2) := by decide +kernel
theorem dd_X12_init_145 : decode cX12_init 145 = .ok (.newarray .int, 2) := by decide +kernel
theorem dd_X12_init_147 : decode cX12_init 147 = .ok (.putfield 148, 3) := by decide +kernel
theorem dd_X12_init_150 : decode cX12_init 150 = .ok (.aload_n 0, 1) := by decide +kernel
theorem dd_X12_init_151 : decode cX12_init 151 = .ok (.bipush 36, 2) := by decide +kernel
theorem dd_X12_init_153 : decode cX12_init 153 = .ok (.newarray .int, 2) := by decide +kernel
theorem dd_X12_init_155 : decode cX12_init 155 = .ok (.putfield 151, 3) := by decide +kernel
theorem dd_X12_init_158 : decode cX12_init 158 = .ok (.aload_n 0, 1) := by decide +kernel
theorem dd_X12_init_159 : decode cX12_init 159 = .ok (.sipush 847, 3) := by decide +kernel
theorem dd_X12_init_162 : decode cX12_init 162 = .ok (.newarray .boolean, 2) := by decide +kernel
theorem dd_X12_init_164 : decode cX12_init 164 = .ok (.putfield 154, 3) := by decide +kernel
theorem dd_X12_init_167 : decode cX12_init 167 = .ok (.aload_n 0, 1) := by decide +kernel
theorem dd_X12_init_168 : decode cX12_init 168 = .ok (.bipush 6, 2) := by decide +kernel
theorem dd_X12_init_170 : decode cX12_init 170 = .ok (.newarray .int, 2) := by decide +kernel
theorem dd_X12_init_172 : decode cX12_init 172 = .ok (.putfield 157, 3) := by decide +kernel
theorem dd_X12_init_175 : decode cX12_init 175 = .ok (.aload_n 0, 1) := by decide +kernel
theorem dd_X12_init_176 : decode cX12_init 176 = .ok (.bipush 64, 2) := by decide +kernel
theorem dd_X12_init_178 : decode cX12_init 178 = .ok (.newarray .int, 2) := by decide +kernel
theorem dd_X12_init_180 : decode cX12_init 180 = .ok (.putfield 160, 3) := by decide +kernel
theorem dd_X12_init_183 : decode cX12_init 183 = .ok (.aload_n 0, 1) := by decide +kernel
theorem dd_X12_init_184 : decode cX12_init 184 = .ok (.sipush 160, 3) := by decide +kernel
theorem dd_X12_init_187 : decode cX12_init 187 = .ok (.newarray .int, 2) := by decide +kernel
theorem dd_X12_init_189 : decode cX12_init 189 = .ok (.putfield 163, 3) := by decide +kernel
theorem dd_X12_init_192 : decode cX12_init 192 = .ok (.aload_n 0, 1) := by decide +kernel
theorem dd_X12_init_193 : decode cX12_init 193 = .ok (.iconst 4, 1) := by decide +kernel
theorem dd_X12_init_194 : decode cX12_init 194 = .ok (.newarray .int, 2) := by decide +kernel
theorem dd_X12_init_196 : decode cX12_init 196 = .ok (.putfield 166, 3) := by decide +kernel
theorem dd_X12_init_199 : decode cX12_init 199 = .ok (.aload_n 0, 1) := by decide +kernel
theorem dd_X12_init_200 : decode cX12_init 200 = .ok (.sipush 240, 3) := by decide +kernel
theorem dd_X12_init_203 : decode cX12_init 203 = .ok (.newarray .int, 2) := by decide +kernel
theorem dd_X12_init_205 : decode cX12_init 205 = .ok (.putfield 169, 3) := by decide +kernel
theorem dd_X12_init_208 : decode cX12_init 208 = .ok (.aload_n 0, 1) := by decide +kernel
theorem dd_X12_init_209 : decode cX12_init 209 = .ok (.getfield 98, 3) := by decide +kernel
theorem dd_X12_init_212 : decode cX12_init 212 = .ok (.iconst 3, 1) := by decide +kernel
theorem dd_X12_init_213 : decode cX12_init 213 = .ok (.iconst 1, 1) := by decide +kernel
theorem dd_X12_init_214 : decode cX12_init 214 = .ok (.iastore, 1) := by decide +kernel
theorem dd_X12_init_215 : decode cX12_init 215 = .ok (.aload_n 0, 1) := by decide +kernel
theorem dd_X12_init_216 : decode cX12_init 216 = .ok (.getfield 98, 3) := by decide +kernel
theorem dd_X12_init_219 : decode cX12_init 219 = .ok (.iconst 4, 1) := by decide +kernel
theorem dd_X12_init_220 : decode cX12_init 220 = .ok (.iconst 1, 1) := by decide +kernel
theorem dd_X12_init_221 : decode cX12_init 221 = .ok (.iastore, 1) := by decide +kernel
theorem dd_X12_init_222 : decode cX12_init 222 = .ok (.return_, 1) := by decide +kernel
theorem dd_X12_isGood_0 : decode cX12_isGood 0 = .ok (.iload_n 1, 1) := by decide +kernel
theorem dd_X12_isGood_1 : decode cX12_isGood 1 = .ok (.iconst 0, 1) := by decide +kernel
theorem dd_X12_isGood_2 : decode cX12_isGood 2 = .ok (.aload_n 0, 1) := by decide +kernel
theorem dd_X12_isGood_3 : decode cX12_isGood 3 = .ok (.getfield 98, 3) := by decide +kernel
theorem dd_X12_isGood_6 : decode cX12_isGood 6 = .ok (.iconst 2, 1) := by decide +kernel
theorem dd_X12_isGood_7 : decode cX12_isGood 7 = .ok (.iaload, 1) := by decide +kernel
theorem dd_X12_isGood_8 : decode cX12_isGood 8 = .ok (.iconst 1, 1) := by decide +kernel
theorem dd_X12_isGood_9 : decode cX12_isGood 9 = .ok (.isub, 1) := by decide +kernel
theorem dd_X12_isGood_10 : decode cX12_isGood 10 = .ok (.invokestatic 75, 3) := by decide +kernel
theorem dd_X12_isGood_13 : decode cX12_isGood 13 = .ok (.ireturn, 1) := by decide +kernel
theorem dd_X12_isIn_0 : decode cX12_isIn 0 = .ok (.iload_n 0, 1) := by decide +kernel
theorem dd_X12_isIn_1 : decode cX12_isIn 1 = .ok (.iload_n 1, 1) := by decide +kernel
theorem dd_X12_isIn_2 : decode cX12_isIn 2 = .ok (.if_icmp .lt 12, 3) := by decide +kernel
theorem dd_X12_isIn_5 : decode cX12_isIn 5 = .ok (.iload_n 0, 1) := by decide +kernel
theorem dd_X12_isIn_6 : decode cX12_isIn 6 = .ok (.iload_n 2, 1) := by decide +kernel
theorem dd_X12_isIn_7 : decode cX12_isIn 7 = .ok (.if_icmp .gt 7, 3) := by decide +kernel
theorem dd_X12_isIn_10 : decode cX12_isIn 10 = .ok (.iconst 1, 1) := by decide +kernel
theorem dd_X12_isIn_11 : decode cX12_isIn 11 = .ok (.goto 4, 3) := by decide +kernel
theorem dd_X12_isIn_14 : decode cX12_isIn 14 = .ok (.iconst 0, 1) := by decide +kernel
theorem dd_X12_isIn_15 : decode cX12_isIn 15 = .ok (.ireturn, 1) := by decide +kernel
theorem dd_X12_isMan_0 : decode cX12_isMan 0 = .ok (.iload_n 1, 1) := by decide +kernel
theorem dd_X12_isMan_1 : decode cX12_isMan 1 = .ok (.iconst 0, 1) := by decide +kernel
theorem dd_X12_isMan_2 : decode cX12_isMan 2 = .ok (.aload_n 0, 1) := by decide +kernel
theorem dd_X12_isMan_3 : decode cX12_isMan 3 = .ok (.getfield 98, 3) := by decide +kernel
theorem dd_X12_isMan_6 : decode cX12_isMan 6 = .ok (.iconst 0, 1) := by decide +kernel
theorem dd_X12_isMan_7 : decode cX12_isMan 7 = .ok (.iaload, 1) := by decide +kernel
theorem dd_X12_isMan_8 : decode cX12_isMan 8 = .ok (.iconst 1, 1) := by decide +kernel
theorem dd_X12_isMan_9 : decode cX12_isMan 9 = .ok (.isub, 1) := by decide +kernel
theorem dd_X12_isMan_10 : decode cX12_isMan 10 = .ok (.invokestatic 75, 3) := by decide +kernel
theorem dd_X12_isMan_13 : decode cX12_isMan 13 = .ok (.ireturn, 1) := by decide +kernel
theorem dd_X12_isSign_0 : decode cX12_isSign 0 = .ok (.aload_n 0, 1) := by decide +kernel
theorem dd_X12_isSign_1 : decode cX12_isSign 1 = .ok (.getfield 30, 3) := by decide +kernel
theorem dd_X12_isSign_4 : decode cX12_isSign 4 = .ok (.iconst 4, 1) := by decide +kernel
theorem dd_X12_isSign_5 : decode cX12_isSign 5 = .ok (.if_icmp .ne 15, 3) := by decide +kernel
theorem dd_X12_isSign_20 : decode cX12_isSign 20 = .ok (.iconst 0, 1) := by decide +kernel
theorem dd_X12_isSign_21 : decode cX12_isSign 21 = .ok (.ireturn, 1) := by decide +kernel
theorem dd_X12_isWord_0 : decode cX12_isWord 0 = .ok (.aload_n 0, 1) := by decide +kernel
theorem dd_X12_isWord_1 : decode cX12_isWord 1 = .ok (.getfield 30, 3) := by decide +kernel
theorem dd_X12_isWord_4 : decode cX12_isWord 4 = .ok (.iconst 2, 1) := by decide +kernel
theorem dd_X12_isWord_5 : decode cX12_isWord 5 = .ok (.if_icmp .ne 19, 3) := by decide +kernel
theorem dd_X12_isWord_24 : decode cX12_isWord 24 = .ok (.iconst 0, 1) := by decide +kernel
theorem dd_X12_isWord_25 : decode cX12_isWord 25 = .ok (.ireturn, 1) := by decide +kernel
theorem dd_X12_lasts_0 : decode cX12_lasts 0 = .ok (.aload_n 0, 1) := by decide +kernel
theorem dd_X12_lasts_1 : decode cX12_lasts 1 = .ok (.iconst 0, 1) := by decide +kernel
theorem dd_X12_lasts_2 : decode cX12_lasts 2 = .ok (.putfield 1, 3) := by decide +kernel
theorem dd_X12_lasts_5 : decode cX12_lasts 5 = .ok (.aload_n 0, 1) := by decide +kernel
theorem dd_X12_lasts_6 : decode cX12_lasts 6 = .ok (.iload_n 1, 1) := by decide +kernel
theorem dd_X12_lasts_7 : decode cX12_lasts 7 = .ok (.invokevirtual 251, 3) := by decide +kernel
theorem dd_X12_lasts_10 : decode cX12_lasts 10 = .ok (.ifCond .eq 20, 3) := by decide +kernel
theorem dd_X12_lasts_30 : decode cX12_lasts 30 = .ok (.iconst (-1), 1) := by decide +kernel
