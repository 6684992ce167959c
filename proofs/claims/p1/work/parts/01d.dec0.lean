theorem dd_J7_fill_53178_0 : decode cJ7_fill_53178 0 = .ok (.iconst 0, 1) := by decide +kernel
theorem dd_J7_fill_53178_1 : decode cJ7_fill_53178 1 = .ok (.istore_n 2, 1) := by decide +kernel
theorem dd_J7_fill_53178_2 : decode cJ7_fill_53178 2 = .ok (.aload_n 0, 1) := by decide +kernel
theorem dd_J7_fill_53178_3 : decode cJ7_fill_53178 3 = .ok (.arraylength, 1) := by decide +kernel
theorem dd_J7_fill_53178_4 : decode cJ7_fill_53178 4 = .ok (.istore_n 3, 1) := by decide +kernel
theorem dd_J7_fill_53178_5 : decode cJ7_fill_53178 5 = .ok (.iload_n 2, 1) := by decide +kernel
theorem dd_J7_fill_53178_6 : decode cJ7_fill_53178 6 = .ok (.iload_n 3, 1) := by decide +kernel
theorem dd_J7_fill_53178_7 : decode cJ7_fill_53178 7 = .ok (.if_icmp .ge 13, 3) := by decide +kernel
theorem dd_J7_fill_53178_10 : decode cJ7_fill_53178 10 = .ok (.aload_n 0, 1) := by decide +kernel
theorem dd_J7_fill_53178_11 : decode cJ7_fill_53178 11 = .ok (.iload_n 2, 1) := by decide +kernel
theorem dd_J7_fill_53178_12 : decode cJ7_fill_53178 12 = .ok (.iload_n 1, 1) := by decide +kernel
theorem dd_J7_fill_53178_13 : decode cJ7_fill_53178 13 = .ok (.iastore, 1) := by decide +kernel
theorem dd_J7_fill_53178_14 : decode cJ7_fill_53178 14 = .ok (.iinc 2 1, 3) := by decide +kernel
theorem dd_J7_fill_53178_17 : decode cJ7_fill_53178 17 = .ok (.goto (-12), 3) := by decide +kernel
theorem dd_J7_fill_53178_20 : decode cJ7_fill_53178 20 = .ok (.return_, 1) := by decide +kernel
theorem dd_X0_fewestPayments_0 : decode cX0_fewestPayments 0 = .ok (.aload_n 0, 1) := by decide +kernel
theorem dd_X0_fewestPayments_1 : decode cX0_fewestPayments 1 = .ok (.getfield 12, 3) := by decide +kernel
theorem dd_X0_fewestPayments_4 : decode cX0_fewestPayments 4 = .ok (.invokevirtual 53, 3) := by decide +kernel
theorem dd_X0_fewestPayments_7 : decode cX0_fewestPayments 7 = .ok (.istore_n 1, 1) := by decide +kernel
theorem dd_X0_fewestPayments_8 : decode cX0_fewestPayments 8 = .ok (.iconst 1, 1) := by decide +kernel
theorem dd_X0_fewestPayments_9 : decode cX0_fewestPayments 9 = .ok (.iload_n 1, 1) := by decide +kernel
theorem dd_X0_fewestPayments_10 : decode cX0_fewestPayments 10 = .ok (.ishl, 1) := by decide +kernel
theorem dd_X0_fewestPayments_11 : decode cX0_fewestPayments 11 = .ok (.istore_n 2, 1) := by decide +kernel
theorem dd_X0_fewestPayments_12 : decode cX0_fewestPayments 12 = .ok (.aload_n 0, 1) := by decide +kernel
theorem dd_X0_fewestPayments_13 : decode cX0_fewestPayments 13 = .ok (.getfield 25, 3) := by decide +kernel
theorem dd_X0_fewestPayments_16 : decode cX0_fewestPayments 16 = .ok (.iconst 0, 1) := by decide +kernel
theorem dd_X0_fewestPayments_17 : decode cX0_fewestPayments 17 = .ok (.iconst 0, 1) := by decide +kernel
theorem dd_X0_fewestPayments_18 : decode cX0_fewestPayments 18 = .ok (.iastore, 1) := by decide +kernel
theorem dd_X0_fewestPayments_19 : decode cX0_fewestPayments 19 = .ok (.aload_n 0, 1) := by decide +kernel
theorem dd_X0_fewestPayments_20 : decode cX0_fewestPayments 20 = .ok (.getfield 29, 3) := by decide +kernel
theorem dd_X0_fewestPayments_23 : decode cX0_fewestPayments 23 = .ok (.iconst 0, 1) := by decide +kernel
theorem dd_X0_fewestPayments_24 : decode cX0_fewestPayments 24 = .ok (.iconst 0, 1) := by decide +kernel
theorem dd_X0_fewestPayments_25 : decode cX0_fewestPayments 25 = .ok (.iastore, 1) := by decide +kernel
theorem dd_X0_fewestPayments_26 : decode cX0_fewestPayments 26 = .ok (.iconst 1, 1) := by decide +kernel
theorem dd_X0_fewestPayments_27 : decode cX0_fewestPayments 27 = .ok (.istore_n 3, 1) := by decide +kernel
theorem dd_X0_fewestPayments_28 : decode cX0_fewestPayments 28 = .ok (.iload_n 3, 1) := by decide +kernel
theorem dd_X0_fewestPayments_29 : decode cX0_fewestPayments 29 = .ok (.iload_n 2, 1) := by decide +kernel
theorem dd_X0_fewestPayments_30 : decode cX0_fewestPayments 30 = .ok (.if_icmp .ge 111, 3) := by decide +kernel
theorem dd_X0_fewestPayments_141 : decode cX0_fewestPayments 141 = .ok (.iload_n 1, 1) := by decide +kernel
theorem dd_X0_fewestPayments_142 : decode cX0_fewestPayments 142 = .ok (.aload_n 0, 1) := by decide +kernel
theorem dd_X0_fewestPayments_143 : decode cX0_fewestPayments 143 = .ok (.getfield 25, 3) := by decide +kernel
theorem dd_X0_fewestPayments_146 : decode cX0_fewestPayments 146 = .ok (.iload_n 2, 1) := by decide +kernel
theorem dd_X0_fewestPayments_147 : decode cX0_fewestPayments 147 = .ok (.iconst 1, 1) := by decide +kernel
theorem dd_X0_fewestPayments_148 : decode cX0_fewestPayments 148 = .ok (.isub, 1) := by decide +kernel
theorem dd_X0_fewestPayments_149 : decode cX0_fewestPayments 149 = .ok (.iaload, 1) := by decide +kernel
theorem dd_X0_fewestPayments_150 : decode cX0_fewestPayments 150 = .ok (.isub, 1) := by decide +kernel
theorem dd_X0_fewestPayments_151 : decode cX0_fewestPayments 151 = .ok (.ireturn, 1) := by decide +kernel
theorem dd_X0_init_0 : decode cX0_init 0 = .ok (.aload_n 0, 1) := by decide +kernel
theorem dd_X0_init_1 : decode cX0_init 1 = .ok (.invokespecial 3, 3) := by decide +kernel
theorem dd_X0_init_4 : decode cX0_init 4 = .ok (.aload_n 0, 1) := by decide +kernel
theorem dd_X0_init_5 : decode cX0_init 5 = .ok (.new 9, 3) := by decide +kernel
theorem dd_X0_init_8 : decode cX0_init 8 = .ok (.dup, 1) := by decide +kernel
theorem dd_X0_init_9 : decode cX0_init 9 = .ok (.invokespecial 11, 3) := by decide +kernel
theorem dd_X0_init_12 : decode cX0_init 12 = .ok (.putfield 12, 3) := by decide +kernel
theorem dd_X0_init_15 : decode cX0_init 15 = .ok (.aload_n 0, 1) := by decide +kernel
theorem dd_X0_init_16 : decode cX0_init 16 = .ok (.new 18, 3) := by decide +kernel
theorem dd_X0_init_19 : decode cX0_init 19 = .ok (.dup, 1) := by decide +kernel
theorem dd_X0_init_20 : decode cX0_init 20 = .ok (.invokespecial 20, 3) := by decide +kernel
theorem dd_X0_init_23 : decode cX0_init 23 = .ok (.putfield 21, 3) := by decide +kernel
theorem dd_X0_init_26 : decode cX0_init 26 = .ok (.aload_n 0, 1) := by decide +kernel
theorem dd_X0_init_27 : decode cX0_init 27 = .ok (.bipush 64, 2) := by decide +kernel
theorem dd_X0_init_29 : decode cX0_init 29 = .ok (.newarray .int, 2) := by decide +kernel
theorem dd_X0_init_31 : decode cX0_init 31 = .ok (.putfield 25, 3) := by decide +kernel
theorem dd_X0_init_34 : decode cX0_init 34 = .ok (.aload_n 0, 1) := by decide +kernel
theorem dd_X0_init_35 : decode cX0_init 35 = .ok (.bipush 64, 2) := by decide +kernel
theorem dd_X0_init_37 : decode cX0_init 37 = .ok (.newarray .int, 2) := by decide +kernel
theorem dd_X0_init_39 : decode cX0_init 39 = .ok (.putfield 29, 3) := by decide +kernel
theorem dd_X0_init_42 : decode cX0_init 42 = .ok (.return_, 1) := by decide +kernel
theorem dd_X0_passWeeks_0 : decode cX0_passWeeks 0 = .ok (.iconst 0, 1) := by decide +kernel
theorem dd_X0_passWeeks_1 : decode cX0_passWeeks 1 = .ok (.istore_n 3, 1) := by decide +kernel
theorem dd_X0_passWeeks_2 : decode cX0_passWeeks 2 = .ok (.iload_n 3, 1) := by decide +kernel
theorem dd_X0_passWeeks_3 : decode cX0_passWeeks 3 = .ok (.aload_n 0, 1) := by decide +kernel
theorem dd_X0_passWeeks_4 : decode cX0_passWeeks 4 = .ok (.getfield 12, 3) := by decide +kernel
theorem dd_X0_passWeeks_7 : decode cX0_passWeeks 7 = .ok (.invokevirtual 53, 3) := by decide +kernel
theorem dd_X0_passWeeks_10 : decode cX0_passWeeks 10 = .ok (.if_icmp .ge 43, 3) := by decide +kernel
theorem dd_X0_passWeeks_53 : decode cX0_passWeeks 53 = .ok (.aload_n 1, 1) := by decide +kernel
theorem dd_X0_passWeeks_54 : decode cX0_passWeeks 54 = .ok (.dup, 1) := by decide +kernel
theorem dd_X0_passWeeks_55 : decode cX0_passWeeks 55 = .ok (.getfield 61, 3) := by decide +kernel
theorem dd_X0_passWeeks_58 : decode cX0_passWeeks 58 = .ok (.iload_n 2, 1) := by decide +kernel
theorem dd_X0_passWeeks_59 : decode cX0_passWeeks 59 = .ok (.iadd, 1) := by decide +kernel
theorem dd_X0_passWeeks_60 : decode cX0_passWeeks 60 = .ok (.putfield 61, 3) := by decide +kernel
theorem dd_X0_passWeeks_63 : decode cX0_passWeeks 63 = .ok (.return_, 1) := by decide +kernel
theorem dd_X0_perform_0 : decode cX0_perform 0 = .ok (.iload_n 2, 1) := by decide +kernel
theorem dd_X0_perform_1 : decode cX0_perform 1 = .ok (.tableswitch 188 0 4 #[35, 44, 93, 136, 179], 35) := by decide +kernel
theorem dd_X0_perform_189 : decode cX0_perform 189 = .ok (.aload_n 0, 1) := by decide +kernel
theorem dd_X0_perform_190 : decode cX0_perform 190 = .ok (.aload_n 1, 1) := by decide +kernel
theorem dd_X0_perform_191 : decode cX0_perform 191 = .ok (.iload 5, 2) := by decide +kernel
theorem dd_X0_perform_193 : decode cX0_perform 193 = .ok (.invokevirtual 75, 3) := by decide +kernel
theorem dd_X0_perform_196 : decode cX0_perform 196 = .ok (.iload 5, 2) := by decide +kernel
theorem dd_X0_perform_198 : decode cX0_perform 198 = .ok (.ireturn, 1) := by decide +kernel
theorem dd_X0_whyNot_0 : decode cX0_whyNot 0 = .ok (.iload_n 2, 1) := by decide +kernel
theorem dd_X0_whyNot_1 : decode cX0_whyNot 1 = .ok (.tableswitch 202 0 4 #[35, 74, 113, 140, 178], 35) := by decide +kernel
theorem dd_X0_whyNot_179 : decode cX0_whyNot 179 = .ok (.aload_n 0, 1) := by decide +kernel
theorem dd_X0_whyNot_180 : decode cX0_whyNot 180 = .ok (.getfield 21, 3) := by decide +kernel
theorem dd_X0_whyNot_183 : decode cX0_whyNot 183 = .ok (.aload_n 1, 1) := by decide +kernel
theorem dd_X0_whyNot_184 : decode cX0_whyNot 184 = .ok (.aload_n 0, 1) := by decide +kernel
theorem dd_X0_whyNot_185 : decode cX0_whyNot 185 = .ok (.getfield 12, 3) := by decide +kernel
theorem dd_X0_whyNot_188 : decode cX0_whyNot 188 = .ok (.invokevirtual 53, 3) := by decide +kernel
theorem dd_X0_whyNot_191 : decode cX0_whyNot 191 = .ok (.invokevirtual 57, 3) := by decide +kernel
theorem dd_X0_whyNot_194 : decode cX0_whyNot 194 = .ok (.ifCond .eq 7, 3) := by decide +kernel
theorem dd_X0_whyNot_201 : decode cX0_whyNot 201 = .ok (.iconst 1, 1) := by decide +kernel
theorem dd_X0_whyNot_202 : decode cX0_whyNot 202 = .ok (.ireturn, 1) := by decide +kernel
theorem dd_X10_fails_0 : decode cX10_fails 0 = .ok (.aload_n 0, 1) := by decide +kernel
theorem dd_X10_fails_1 : decode cX10_fails 1 = .ok (.iload_n 1, 1) := by decide +kernel
theorem dd_X10_fails_2 : decode cX10_fails 2 = .ok (.putfield 46, 3) := by decide +kernel
theorem dd_X10_fails_5 : decode cX10_fails 5 = .ok (.aload_n 0, 1) := by decide +kernel
theorem dd_X10_fails_6 : decode cX10_fails 6 = .ok (.iload_n 2, 1) := by decide +kernel
theorem dd_X10_fails_7 : decode cX10_fails 7 = .ok (.putfield 49, 3) := by decide +kernel
theorem dd_X10_fails_10 : decode cX10_fails 10 = .ok (.iconst 0, 1) := by decide +kernel
theorem dd_X10_fails_11 : decode cX10_fails 11 = .ok (.ireturn, 1) := by decide +kernel
theorem dd_X10_isSign_0 : decode cX10_isSign 0 = .ok (.aload_n 0, 1) := by decide +kernel
theorem dd_X10_isSign_1 : decode cX10_isSign 1 = .ok (.getfield 61, 3) := by decide +kernel
theorem dd_X10_isSign_4 : decode cX10_isSign 4 = .ok (.iconst 3, 1) := by decide +kernel
theorem dd_X10_isSign_5 : decode cX10_isSign 5 = .ok (.if_icmp .ne 15, 3) := by decide +kernel
theorem dd_X10_isSign_20 : decode cX10_isSign 20 = .ok (.iconst 0, 1) := by decide +kernel
theorem dd_X10_isSign_21 : decode cX10_isSign 21 = .ok (.ireturn, 1) := by decide +kernel
theorem dd_X10_next_0 : decode cX10_next 0 = .ok (.aload_n 0, 1) := by decide +kernel
theorem dd_X10_next_1 : decode cX10_next 1 = .ok (.getfield 43, 3) := by decide +kernel
theorem dd_X10_next_4 : decode cX10_next 4 = .ok (.aload_n 0, 1) := by decide +kernel
theorem dd_X10_next_5 : decode cX10_next 5 = .ok (.getfield 37, 3) := by decide +kernel
theorem dd_X10_next_8 : decode cX10_next 8 = .ok (.if_icmp .ge 55, 3) := by decide +kernel
theorem dd_X10_next_63 : decode cX10_next 63 = .ok (.aload_n 0, 1) := by decide +kernel
theorem dd_X10_next_64 : decode cX10_next 64 = .ok (.iconst (-1), 1) := by decide +kernel
theorem dd_X10_next_65 : decode cX10_next 65 = .ok (.putfield 55, 3) := by decide +kernel
theorem dd_X10_next_68 : decode cX10_next 68 = .ok (.aload_n 0, 1) := by decide +kernel
theorem dd_X10_next_69 : decode cX10_next 69 = .ok (.getfield 43, 3) := by decide +kernel
theorem dd_X10_next_72 : decode cX10_next 72 = .ok (.aload_n 0, 1) := by decide +kernel
theorem dd_X10_next_73 : decode cX10_next 73 = .ok (.getfield 40, 3) := by decide +kernel
theorem dd_X10_next_76 : decode cX10_next 76 = .ok (.if_icmp .lt 30, 3) := by decide +kernel
theorem dd_X10_next_106 : decode cX10_next 106 = .ok (.aload_n 0, 1) := by decide +kernel
theorem dd_X10_next_107 : decode cX10_next 107 = .ok (.getfield 43, 3) := by decide +kernel
theorem dd_X10_next_110 : decode cX10_next 110 = .ok (.aload_n 0, 1) := by decide +kernel
theorem dd_X10_next_111 : decode cX10_next 111 = .ok (.getfield 37, 3) := by decide +kernel
theorem dd_X10_next_114 : decode cX10_next 114 = .ok (.if_icmp .lt 19, 3) := by decide +kernel
theorem dd_X10_next_117 : decode cX10_next 117 = .ok (.aload_n 0, 1) := by decide +kernel
theorem dd_X10_next_118 : decode cX10_next 118 = .ok (.aload_n 0, 1) := by decide +kernel
theorem dd_X10_next_119 : decode cX10_next 119 = .ok (.getfield 37, 3) := by decide +kernel
theorem dd_X10_next_122 : decode cX10_next 122 = .ok (.putfield 58, 3) := by decide +kernel
theorem dd_X10_next_125 : decode cX10_next 125 = .ok (.aload_n 0, 1) := by decide +kernel
theorem dd_X10_next_126 : decode cX10_next 126 = .ok (.iconst 0, 1) := by decide +kernel
theorem dd_X10_next_127 : decode cX10_next 127 = .ok (.putfield 61, 3) := by decide +kernel
theorem dd_X10_next_130 : decode cX10_next 130 = .ok (.goto 53, 3) := by decide +kernel
theorem dd_X10_next_183 : decode cX10_next 183 = .ok (.return_, 1) := by decide +kernel
theorem dd_X10_start_0 : decode cX10_start 0 = .ok (.aload_n 0, 1) := by decide +kernel
theorem dd_X10_start_1 : decode cX10_start 1 = .ok (.iload_n 1, 1) := by decide +kernel
theorem dd_X10_start_2 : decode cX10_start 2 = .ok (.sipush 940, 3) := by decide +kernel
theorem dd_X10_start_5 : decode cX10_start 5 = .ok (.invokestatic 31, 3) := by decide +kernel
theorem dd_X10_start_8 : decode cX10_start 8 = .ok (.putfield 37, 3) := by decide +kernel
theorem dd_X10_start_11 : decode cX10_start 11 = .ok (.aload_n 0, 1) := by decide +kernel
theorem dd_X10_start_12 : decode cX10_start 12 = .ok (.iload_n 2, 1) := by decide +kernel
theorem dd_X10_start_13 : decode cX10_start 13 = .ok (.putfield 40, 3) := by decide +kernel
theorem dd_X10_start_16 : decode cX10_start 16 = .ok (.aload_n 0, 1) := by decide +kernel
theorem dd_X10_start_17 : decode cX10_start 17 = .ok (.iconst 0, 1) := by decide +kernel
theorem dd_X10_start_18 : decode cX10_start 18 = .ok (.putfield 43, 3) := by decide +kernel
theorem dd_X10_start_21 : decode cX10_start 21 = .ok (.aload_n 0, 1) := by decide +kernel
theorem dd_X10_start_22 : decode cX10_start 22 = .ok (.iconst 0, 1) := by decide +kernel
theorem dd_X10_start_23 : decode cX10_start 23 = .ok (.putfield 46, 3) := by decide +kernel
theorem dd_X10_start_26 : decode cX10_start 26 = .ok (.aload_n 0, 1) := by decide +kernel
theorem dd_X10_start_27 : decode cX10_start 27 = .ok (.iconst 0, 1) := by decide +kernel
theorem dd_X10_start_28 : decode cX10_start 28 = .ok (.putfield 49, 3) := by decide +kernel
theorem dd_X10_start_31 : decode cX10_start 31 = .ok (.aload_n 0, 1) := by decide +kernel
theorem dd_X10_start_32 : decode cX10_start 32 = .ok (.invokevirtual 52, 3) := by decide +kernel
theorem dd_X10_start_35 : decode cX10_start 35 = .ok (.return_, 1) := by decide +kernel
theorem dd_X11_book_0 : decode cX11_book 0 = .ok (.iload_n 1, 1) := by decide +kernel
theorem dd_X11_book_1 : decode cX11_book 1 = .ok (.ifCond .eq 12, 3) := by decide +kernel
theorem dd_X11_book_4 : decode cX11_book 4 = .ok (.iload_n 1, 1) := by decide +kernel
theorem dd_X11_book_5 : decode cX11_book 5 = .ok (.iconst 1, 1) := by decide +kernel
theorem dd_X11_book_6 : decode cX11_book 6 = .ok (.if_icmp .eq 7, 3) := by decide +kernel
theorem dd_X11_book_9 : decode cX11_book 9 = .ok (.sipush (-1000), 3) := by decide +kernel
theorem dd_X11_book_12 : decode cX11_book 12 = .ok (.ireturn, 1) := by decide +kernel
theorem dd_X11_book_13 : decode cX11_book 13 = .ok (.aload_n 0, 1) := by decide +kernel
theorem dd_X11_book_14 : decode cX11_book 14 = .ok (.sipush 400, 3) := by decide +kernel
theorem dd_X11_book_17 : decode cX11_book 17 = .ok (.invokevirtual 111, 3) := by decide +kernel
theorem dd_X11_book_20 : decode cX11_book 20 = .ok (.aload_n 0, 1) := by decide +kernel
theorem dd_X11_book_21 : decode cX11_book 21 = .ok (.getfield 96, 3) := by decide +kernel
theorem dd_X11_book_24 : decode cX11_book 24 = .ok (.aload_n 0, 1) := by decide +kernel
theorem dd_X11_book_25 : decode cX11_book 25 = .ok (.getfield 12, 3) := by decide +kernel
theorem dd_X11_book_28 : decode cX11_book 28 = .ok (.aload_n 0, 1) := by decide +kernel
theorem dd_X11_book_29 : decode cX11_book 29 = .ok (.getfield 34, 3) := by decide +kernel
theorem dd_X11_book_32 : decode cX11_book 32 = .ok (.invokevirtual 332, 3) := by decide +kernel
theorem dd_X11_book_35 : decode cX11_book 35 = .ok (.istore_n 2, 1) := by decide +kernel
theorem dd_X11_book_36 : decode cX11_book 36 = .ok (.aload_n 0, 1) := by decide +kernel
theorem dd_X11_book_37 : decode cX11_book 37 = .ok (.aload_n 0, 1) := by decide +kernel
theorem dd_X11_book_38 : decode cX11_book 38 = .ok (.getfield 12, 3) := by decide +kernel
theorem dd_X11_book_41 : decode cX11_book 41 = .ok (.getfield 118, 3) := by decide +kernel
theorem dd_X11_book_44 : decode cX11_book 44 = .ok (.putfield 121, 3) := by decide +kernel
theorem dd_X11_book_47 : decode cX11_book 47 = .ok (.iload_n 2, 1) := by decide +kernel
theorem dd_X11_book_48 : decode cX11_book 48 = .ok (.ifCond .ne 14, 3) := by decide +kernel
theorem dd_X11_book_62 : decode cX11_book 62 = .ok (.iload_n 1, 1) := by decide +kernel
theorem dd_X11_book_63 : decode cX11_book 63 = .ok (.iconst 1, 1) := by decide +kernel
theorem dd_X11_book_64 : decode cX11_book 64 = .ok (.if_icmp .ne 36, 3) := by decide +kernel
theorem dd_X11_book_67 : decode cX11_book 67 = .ok (.aload_n 0, 1) := by decide +kernel
theorem dd_X11_book_68 : decode cX11_book 68 = .ok (.getfield 61, 3) := by decide +kernel
theorem dd_X11_book_71 : decode cX11_book 71 = .ok (.aload_n 0, 1) := by decide +kernel
theorem dd_X11_book_72 : decode cX11_book 72 = .ok (.getfield 34, 3) := by decide +kernel
theorem dd_X11_book_75 : decode cX11_book 75 = .ok (.getfield 145, 3) := by decide +kernel
theorem dd_X11_book_78 : decode cX11_book 78 = .ok (.invokevirtual 215, 3) := by decide +kernel
theorem dd_X11_book_81 : decode cX11_book 81 = .ok (.aload_n 0, 1) := by decide +kernel
theorem dd_X11_book_82 : decode cX11_book 82 = .ok (.getfield 96, 3) := by decide +kernel
theorem dd_X11_book_85 : decode cX11_book 85 = .ok (.aload_n 0, 1) := by decide +kernel
theorem dd_X11_book_86 : decode cX11_book 86 = .ok (.getfield 26, 3) := by decide +kernel
theorem dd_X11_book_89 : decode cX11_book 89 = .ok (.aload_n 0, 1) := by decide +kernel
theorem dd_X11_book_90 : decode cX11_book 90 = .ok (.getfield 34, 3) := by decide +kernel
theorem dd_X11_book_93 : decode cX11_book 93 = .ok (.getfield 145, 3) := by decide +kernel
theorem dd_X11_book_96 : decode cX11_book 96 = .ok (.invokevirtual 335, 3) := by decide +kernel
theorem dd_X11_book_99 : decode cX11_book 99 = .ok (.ireturn, 1) := by decide +kernel
theorem dd_X11_book_100 : decode cX11_book 100 = .ok (.aload_n 0, 1) := by decide +kernel
theorem dd_X11_book_101 : decode cX11_book 101 = .ok (.getfield 54, 3) := by decide +kernel
theorem dd_X11_book_104 : decode cX11_book 104 = .ok (.aload_n 0, 1) := by decide +kernel
theorem dd_X11_book_105 : decode cX11_book 105 = .ok (.getfield 34, 3) := by decide +kernel
theorem dd_X11_book_108 : decode cX11_book 108 = .ok (.getfield 145, 3) := by decide +kernel
theorem dd_X11_book_111 : decode cX11_book 111 = .ok (.invokevirtual 330, 3) := by decide +kernel
theorem dd_X11_book_114 : decode cX11_book 114 = .ok (.aload_n 0, 1) := by decide +kernel
theorem dd_X11_book_115 : decode cX11_book 115 = .ok (.getfield 96, 3) := by decide +kernel
theorem dd_X11_book_118 : decode cX11_book 118 = .ok (.aload_n 0, 1) := by decide +kernel
theorem dd_X11_book_119 : decode cX11_book 119 = .ok (.getfield 26, 3) := by decide +kernel
theorem dd_X11_book_122 : decode cX11_book 122 = .ok (.aload_n 0, 1) := by decide +kernel
theorem dd_X11_book_123 : decode cX11_book 123 = .ok (.getfield 54, 3) := by decide +kernel
theorem dd_X11_book_126 : decode cX11_book 126 = .ok (.invokevirtual 335, 3) := by decide +kernel
theorem dd_X11_book_129 : decode cX11_book 129 = .ok (.ireturn, 1) := by decide +kernel
theorem dd_X11_bought_0 : decode cX11_bought 0 = .ok (.aload_n 0, 1) := by decide +kernel
theorem dd_X11_bought_1 : decode cX11_bought 1 = .ok (.getfield 34, 3) := by decide +kernel
theorem dd_X11_bought_4 : decode cX11_bought 4 = .ok (.iconst 0, 1) := by decide +kernel
theorem dd_X11_bought_5 : decode cX11_bought 5 = .ok (.iload_n 1, 1) := by decide +kernel
theorem dd_X11_bought_6 : decode cX11_bought 6 = .ok (.invokevirtual 138, 3) := by decide +kernel
theorem dd_X11_bought_9 : decode cX11_bought 9 = .ok (.ifCond .eq 35, 3) := by decide +kernel
theorem dd_X11_bought_44 : decode cX11_bought 44 = .ok (.iconst (-1), 1) := by decide +kernel
theorem dd_X11_bought_45 : decode cX11_bought 45 = .ok (.ireturn, 1) := by decide +kernel
theorem dd_X11_buy_0 : decode cX11_buy 0 = .ok (.aload_n 0, 1) := by decide +kernel
theorem dd_X11_buy_1 : decode cX11_buy 1 = .ok (.getfield 34, 3) := by decide +kernel
theorem dd_X11_buy_4 : decode cX11_buy 4 = .ok (.iconst 0, 1) := by decide +kernel
theorem dd_X11_buy_5 : decode cX11_buy 5 = .ok (.iload_n 1, 1) := by decide +kernel
theorem dd_X11_buy_6 : decode cX11_buy 6 = .ok (.invokevirtual 138, 3) := by decide +kernel
theorem dd_X11_buy_9 : decode cX11_buy 9 = .ok (.ifCond .eq 15, 3) := by decide +kernel
theorem dd_X11_buy_24 : decode cX11_buy 24 = .ok (.iconst (-1), 1) := by decide +kernel
theorem dd_X11_buy_25 : decode cX11_buy 25 = .ok (.ireturn, 1) := by decide +kernel
theorem dd_X11_byteAt_0 : decode cX11_byteAt 0 = .ok (.iload_n 1, 1) := by decide +kernel
theorem dd_X11_byteAt_1 : decode cX11_byteAt 1 = .ok (.ifCond .lt 24, 3) := by decide +kernel
theorem dd_X11_byteAt_4 : decode cX11_byteAt 4 = .ok (.iload_n 1, 1) := by decide +kernel
theorem dd_X11_byteAt_5 : decode cX11_byteAt 5 = .ok (.aload_n 0, 1) := by decide +kernel
theorem dd_X11_byteAt_6 : decode cX11_byteAt 6 = .ok (.getfield 288, 3) := by decide +kernel
theorem dd_X11_byteAt_9 : decode cX11_byteAt 9 = .ok (.if_icmp .ge 16, 3) := by decide +kernel
theorem dd_X11_byteAt_25 : decode cX11_byteAt 25 = .ok (.iconst (-1), 1) := by decide +kernel
theorem dd_X11_byteAt_26 : decode cX11_byteAt 26 = .ok (.ireturn, 1) := by decide +kernel
theorem dd_X11_copyRow_0 : decode cX11_copyRow 0 = .ok (.aload_n 0, 1) := by decide +kernel
theorem dd_X11_copyRow_1 : decode cX11_copyRow 1 = .ok (.iconst 0, 1) := by decide +kernel
theorem dd_X11_copyRow_2 : decode cX11_copyRow 2 = .ok (.aload_n 1, 1) := by decide +kernel
theorem dd_X11_copyRow_3 : decode cX11_copyRow 3 = .ok (.iconst 0, 1) := by decide +kernel
theorem dd_X11_copyRow_4 : decode cX11_copyRow 4 = .ok (.aload_n 0, 1) := by decide +kernel
theorem dd_X11_copyRow_5 : decode cX11_copyRow 5 = .ok (.arraylength, 1) := by decide +kernel
theorem dd_X11_copyRow_6 : decode cX11_copyRow 6 = .ok (.aload_n 1, 1) := by decide +kernel
theorem dd_X11_copyRow_7 : decode cX11_copyRow 7 = .ok (.arraylength, 1) := by decide +kernel
theorem dd_X11_copyRow_8 : decode cX11_copyRow 8 = .ok (.invokestatic 226, 3) := by decide +kernel
theorem dd_X11_copyRow_11 : decode cX11_copyRow 11 = .ok (.invokestatic 377, 3) := by decide +kernel
theorem dd_X11_copyRow_14 : decode cX11_copyRow 14 = .ok (.return_, 1) := by decide +kernel
theorem dd_X11_cost_0 : decode cX11_cost 0 = .ok (.aload_n 0, 1) := by decide +kernel
theorem dd_X11_cost_1 : decode cX11_cost 1 = .ok (.getfield 34, 3) := by decide +kernel
theorem dd_X11_cost_4 : decode cX11_cost 4 = .ok (.iconst 0, 1) := by decide +kernel
theorem dd_X11_cost_5 : decode cX11_cost 5 = .ok (.iload_n 1, 1) := by decide +kernel
theorem dd_X11_cost_6 : decode cX11_cost 6 = .ok (.invokevirtual 138, 3) := by decide +kernel
theorem dd_X11_cost_9 : decode cX11_cost 9 = .ok (.ifCond .eq 34, 3) := by decide +kernel
theorem dd_X11_cost_43 : decode cX11_cost 43 = .ok (.iconst (-1), 1) := by decide +kernel
theorem dd_X11_cost_44 : decode cX11_cost 44 = .ok (.ireturn, 1) := by decide +kernel
theorem dd_X11_count_0 : decode cX11_count 0 = .ok (.iload_n 1, 1) := by decide +kernel
theorem dd_X11_count_1 : decode cX11_count 1 = .ok (.tableswitch 84 0 5 #[39, 47, 55, 63, 71, 79], 39) := by decide +kernel
theorem dd_X11_count_40 : decode cX11_count 40 = .ok (.aload_n 0, 1) := by decide +kernel
theorem dd_X11_count_41 : decode cX11_count 41 = .ok (.getfield 34, 3) := by decide +kernel
theorem dd_X11_count_44 : decode cX11_count 44 = .ok (.invokevirtual 239, 3) := by decide +kernel
theorem dd_X11_count_47 : decode cX11_count 47 = .ok (.ireturn, 1) := by decide +kernel
theorem dd_X11_count_48 : decode cX11_count 48 = .ok (.aload_n 0, 1) := by decide +kernel
theorem dd_X11_count_49 : decode cX11_count 49 = .ok (.getfield 34, 3) := by decide +kernel
theorem dd_X11_count_52 : decode cX11_count 52 = .ok (.invokevirtual 369, 3) := by decide +kernel
theorem dd_X11_count_55 : decode cX11_count 55 = .ok (.ireturn, 1) := by decide +kernel
theorem dd_X11_count_56 : decode cX11_count 56 = .ok (.aload_n 0, 1) := by decide +kernel
theorem dd_X11_count_57 : decode cX11_count 57 = .ok (.getfield 34, 3) := by decide +kernel
theorem dd_X11_count_60 : decode cX11_count 60 = .ok (.invokevirtual 178, 3) := by decide +kernel
theorem dd_X11_count_63 : decode cX11_count 63 = .ok (.ireturn, 1) := by decide +kernel
theorem dd_X11_count_64 : decode cX11_count 64 = .ok (.aload_n 0, 1) := by decide +kernel
theorem dd_X11_count_65 : decode cX11_count 65 = .ok (.getfield 34, 3) := by decide +kernel
theorem dd_X11_count_68 : decode cX11_count 68 = .ok (.getfield 371, 3) := by decide +kernel
theorem dd_X11_count_71 : decode cX11_count 71 = .ok (.ireturn, 1) := by decide +kernel
theorem dd_X11_count_72 : decode cX11_count 72 = .ok (.aload_n 0, 1) := by decide +kernel
theorem dd_X11_count_73 : decode cX11_count 73 = .ok (.getfield 34, 3) := by decide +kernel
theorem dd_X11_count_76 : decode cX11_count 76 = .ok (.getfield 374, 3) := by decide +kernel
theorem dd_X11_count_79 : decode cX11_count 79 = .ok (.ireturn, 1) := by decide +kernel
theorem dd_X11_count_80 : decode cX11_count 80 = .ok (.aload_n 0, 1) := by decide +kernel
theorem dd_X11_count_81 : decode cX11_count 81 = .ok (.getfield 103, 3) := by decide +kernel
theorem dd_X11_count_84 : decode cX11_count 84 = .ok (.ireturn, 1) := by decide +kernel
theorem dd_X11_count_85 : decode cX11_count 85 = .ok (.iconst (-1), 1) := by decide +kernel
theorem dd_X11_count_86 : decode cX11_count 86 = .ok (.ireturn, 1) := by decide +kernel
theorem dd_X11_done_0 : decode cX11_done 0 = .ok (.aload_n 0, 1) := by decide +kernel
theorem dd_X11_done_1 : decode cX11_done 1 = .ok (.getfield 61, 3) := by decide +kernel
theorem dd_X11_done_4 : decode cX11_done 4 = .ok (.aload_n 0, 1) := by decide +kernel
theorem dd_X11_done_5 : decode cX11_done 5 = .ok (.getfield 34, 3) := by decide +kernel
theorem dd_X11_done_8 : decode cX11_done 8 = .ok (.getfield 145, 3) := by decide +kernel
theorem dd_X11_done_11 : decode cX11_done 11 = .ok (.invokevirtual 215, 3) := by decide +kernel
theorem dd_X11_done_14 : decode cX11_done 14 = .ok (.aload_n 0, 1) := by decide +kernel
theorem dd_X11_done_15 : decode cX11_done 15 = .ok (.getfield 26, 3) := by decide +kernel
theorem dd_X11_done_18 : decode cX11_done 18 = .ok (.aload_n 0, 1) := by decide +kernel
theorem dd_X11_done_19 : decode cX11_done 19 = .ok (.getfield 34, 3) := by decide +kernel
theorem dd_X11_done_22 : decode cX11_done 22 = .ok (.getfield 145, 3) := by decide +kernel
theorem dd_X11_done_25 : decode cX11_done 25 = .ok (.iload_n 1, 1) := by decide +kernel
theorem dd_X11_done_26 : decode cX11_done 26 = .ok (.iload_n 2, 1) := by decide +kernel
theorem dd_X11_done_27 : decode cX11_done 27 = .ok (.iload_n 3, 1) := by decide +kernel
theorem dd_X11_done_28 : decode cX11_done 28 = .ok (.iload 4, 2) := by decide +kernel
theorem dd_X11_done_30 : decode cX11_done 30 = .ok (.invokevirtual 219, 3) := by decide +kernel
theorem dd_X11_done_33 : decode cX11_done 33 = .ok (.ireturn, 1) := by decide +kernel
theorem dd_X11_drawn_0 : decode cX11_drawn 0 = .ok (.iload_n 1, 1) := by decide +kernel
theorem dd_X11_drawn_1 : decode cX11_drawn 1 = .ok (.iconst 1, 1) := by decide +kernel
theorem dd_X11_drawn_2 : decode cX11_drawn 2 = .ok (.if_icmp .lt 19, 3) := by decide +kernel
theorem dd_X11_drawn_5 : decode cX11_drawn 5 = .ok (.iload_n 1, 1) := by decide +kernel
theorem dd_X11_drawn_6 : decode cX11_drawn 6 = .ok (.bipush 60, 2) := by decide +kernel
theorem dd_X11_drawn_8 : decode cX11_drawn 8 = .ok (.if_icmp .gt 13, 3) := by decide +kernel
theorem dd_X11_drawn_11 : decode cX11_drawn 11 = .ok (.aload_n 0, 1) := by decide +kernel
theorem dd_X11_drawn_12 : decode cX11_drawn 12 = .ok (.getfield 34, 3) := by decide +kernel
theorem dd_X11_drawn_15 : decode cX11_drawn 15 = .ok (.invokevirtual 239, 3) := by decide +kernel
theorem dd_X11_drawn_18 : decode cX11_drawn 18 = .ok (.ifCond .ne 5, 3) := by decide +kernel
theorem dd_X11_drawn_21 : decode cX11_drawn 21 = .ok (.iconst (-1), 1) := by decide +kernel
theorem dd_X11_drawn_22 : decode cX11_drawn 22 = .ok (.ireturn, 1) := by decide +kernel
theorem dd_X11_duchy_0 : decode cX11_duchy 0 = .ok (.aload_n 0, 1) := by decide +kernel
theorem dd_X11_duchy_1 : decode cX11_duchy 1 = .ok (.sipush 900, 3) := by decide +kernel
theorem dd_X11_duchy_4 : decode cX11_duchy 4 = .ok (.invokevirtual 111, 3) := by decide +kernel
theorem dd_X11_duchy_7 : decode cX11_duchy 7 = .ok (.aload_n 0, 1) := by decide +kernel
theorem dd_X11_duchy_8 : decode cX11_duchy 8 = .ok (.getfield 40, 3) := by decide +kernel
theorem dd_X11_duchy_11 : decode cX11_duchy 11 = .ok (.aload_n 0, 1) := by decide +kernel
theorem dd_X11_duchy_12 : decode cX11_duchy 12 = .ok (.getfield 12, 3) := by decide +kernel
theorem dd_X11_duchy_15 : decode cX11_duchy 15 = .ok (.invokevirtual 114, 3) := by decide +kernel
theorem dd_X11_duchy_18 : decode cX11_duchy 18 = .ok (.istore_n 1, 1) := by decide +kernel
theorem dd_X11_duchy_19 : decode cX11_duchy 19 = .ok (.aload_n 0, 1) := by decide +kernel
theorem dd_X11_duchy_20 : decode cX11_duchy 20 = .ok (.aload_n 0, 1) := by decide +kernel
theorem dd_X11_duchy_21 : decode cX11_duchy 21 = .ok (.getfield 12, 3) := by decide +kernel
theorem dd_X11_duchy_24 : decode cX11_duchy 24 = .ok (.getfield 118, 3) := by decide +kernel
theorem dd_X11_duchy_27 : decode cX11_duchy 27 = .ok (.putfield 121, 3) := by decide +kernel
theorem dd_X11_duchy_30 : decode cX11_duchy 30 = .ok (.aload_n 0, 1) := by decide +kernel
theorem dd_X11_duchy_31 : decode cX11_duchy 31 = .ok (.getfield 12, 3) := by decide +kernel
theorem dd_X11_duchy_34 : decode cX11_duchy 34 = .ok (.getfield 118, 3) := by decide +kernel
theorem dd_X11_duchy_37 : decode cX11_duchy 37 = .ok (.ifCond .eq 13, 3) := by decide +kernel
theorem dd_X11_duchy_50 : decode cX11_duchy 50 = .ok (.aload_n 0, 1) := by decide +kernel
theorem dd_X11_duchy_51 : decode cX11_duchy 51 = .ok (.getfield 34, 3) := by decide +kernel
theorem dd_X11_duchy_54 : decode cX11_duchy 54 = .ok (.aload_n 0, 1) := by decide +kernel
theorem dd_X11_duchy_55 : decode cX11_duchy 55 = .ok (.getfield 40, 3) := by decide +kernel
theorem dd_X11_duchy_58 : decode cX11_duchy 58 = .ok (.invokevirtual 127, 3) := by decide +kernel
theorem dd_X11_duchy_61 : decode cX11_duchy 61 = .ok (.aload_n 0, 1) := by decide +kernel
theorem dd_X11_duchy_62 : decode cX11_duchy 62 = .ok (.getfield 61, 3) := by decide +kernel
theorem dd_X11_duchy_65 : decode cX11_duchy 65 = .ok (.invokevirtual 131, 3) := by decide +kernel
theorem dd_X11_duchy_68 : decode cX11_duchy 68 = .ok (.iload_n 1, 1) := by decide +kernel
theorem dd_X11_duchy_69 : decode cX11_duchy 69 = .ok (.ireturn, 1) := by decide +kernel
theorem dd_X11_end_0 : decode cX11_end 0 = .ok (.iload_n 1, 1) := by decide +kernel
theorem dd_X11_end_1 : decode cX11_end 1 = .ok (.ifCond .lt 11, 3) := by decide +kernel
theorem dd_X11_end_4 : decode cX11_end 4 = .ok (.iload_n 1, 1) := by decide +kernel
theorem dd_X11_end_5 : decode cX11_end 5 = .ok (.aload_n 0, 1) := by decide +kernel
theorem dd_X11_end_6 : decode cX11_end 6 = .ok (.getfield 103, 3) := by decide +kernel
theorem dd_X11_end_9 : decode cX11_end 9 = .ok (.if_icmp .le 5, 3) := by decide +kernel
theorem dd_X11_end_12 : decode cX11_end 12 = .ok (.iconst 0, 1) := by decide +kernel
theorem dd_X11_end_13 : decode cX11_end 13 = .ok (.ireturn, 1) := by decide +kernel
theorem dd_X11_end_14 : decode cX11_end 14 = .ok (.aload_n 0, 1) := by decide +kernel
theorem dd_X11_end_15 : decode cX11_end 15 = .ok (.iload_n 1, 1) := by decide +kernel
theorem dd_X11_end_16 : decode cX11_end 16 = .ok (.putfield 103, 3) := by decide +kernel
theorem dd_X11_end_19 : decode cX11_end 19 = .ok (.iconst 1, 1) := by decide +kernel
theorem dd_X11_end_20 : decode cX11_end 20 = .ok (.ireturn, 1) := by decide +kernel
theorem dd_X11_even_0 : decode cX11_even 0 = .ok (.aload_n 0, 1) := by decide +kernel
theorem dd_X11_even_1 : decode cX11_even 1 = .ok (.getfield 26, 3) := by decide +kernel
theorem dd_X11_even_4 : decode cX11_even 4 = .ok (.invokevirtual 268, 3) := by decide +kernel
theorem dd_X11_even_7 : decode cX11_even 7 = .ok (.ireturn, 1) := by decide +kernel
theorem dd_X11_fault_0 : decode cX11_fault 0 = .ok (.aload_n 0, 1) := by decide +kernel
theorem dd_X11_fault_1 : decode cX11_fault 1 = .ok (.getfield 121, 3) := by decide +kernel
theorem dd_X11_fault_4 : decode cX11_fault 4 = .ok (.ireturn, 1) := by decide +kernel
theorem dd_X11_feed_0 : decode cX11_feed 0 = .ok (.aload_n 0, 1) := by decide +kernel
theorem dd_X11_feed_1 : decode cX11_feed 1 = .ok (.getfield 103, 3) := by decide +kernel
theorem dd_X11_feed_4 : decode cX11_feed 4 = .ok (.bipush 20, 2) := by decide +kernel
theorem dd_X11_feed_6 : decode cX11_feed 6 = .ok (.iadd, 1) := by decide +kernel
theorem dd_X11_feed_7 : decode cX11_feed 7 = .ok (.sipush 940, 3) := by decide +kernel
theorem dd_X11_feed_10 : decode cX11_feed 10 = .ok (.if_icmp .le 5, 3) := by decide +kernel
theorem dd_X11_feed_15 : decode cX11_feed 15 = .ok (.aload_n 0, 1) := by decide +kernel
theorem dd_X11_feed_16 : decode cX11_feed 16 = .ok (.iload_n 1, 1) := by decide +kernel
theorem dd_X11_feed_17 : decode cX11_feed 17 = .ok (.invokevirtual 107, 3) := by decide +kernel
theorem dd_X11_feed_20 : decode cX11_feed 20 = .ok (.aload_n 0, 1) := by decide +kernel
theorem dd_X11_feed_21 : decode cX11_feed 21 = .ok (.iload_n 2, 1) := by decide +kernel
theorem dd_X11_feed_22 : decode cX11_feed 22 = .ok (.invokevirtual 107, 3) := by decide +kernel
theorem dd_X11_feed_25 : decode cX11_feed 25 = .ok (.aload_n 0, 1) := by decide +kernel
theorem dd_X11_feed_26 : decode cX11_feed 26 = .ok (.iload_n 3, 1) := by decide +kernel
theorem dd_X11_feed_27 : decode cX11_feed 27 = .ok (.invokevirtual 107, 3) := by decide +kernel
theorem dd_X11_feed_30 : decode cX11_feed 30 = .ok (.aload_n 0, 1) := by decide +kernel
theorem dd_X11_feed_31 : decode cX11_feed 31 = .ok (.iload 4, 2) := by decide +kernel
theorem dd_X11_feed_33 : decode cX11_feed 33 = .ok (.invokevirtual 107, 3) := by decide +kernel
theorem dd_X11_feed_36 : decode cX11_feed 36 = .ok (.aload_n 0, 1) := by decide +kernel
theorem dd_X11_feed_37 : decode cX11_feed 37 = .ok (.iload 5, 2) := by decide +kernel
theorem dd_X11_feed_39 : decode cX11_feed 39 = .ok (.invokevirtual 107, 3) := by decide +kernel
theorem dd_X11_feed_42 : decode cX11_feed 42 = .ok (.aload_n 0, 1) := by decide +kernel
theorem dd_X11_feed_43 : decode cX11_feed 43 = .ok (.getfield 103, 3) := by decide +kernel
theorem dd_X11_feed_46 : decode cX11_feed 46 = .ok (.ireturn, 1) := by decide +kernel
theorem dd_X11_feedNumber_0 : decode cX11_feedNumber 0 = .ok (.bipush 24, 2) := by decide +kernel
theorem dd_X11_feedNumber_2 : decode cX11_feedNumber 2 = .ok (.istore_n 2, 1) := by decide +kernel
theorem dd_X11_feedNumber_3 : decode cX11_feedNumber 3 = .ok (.iload_n 2, 1) := by decide +kernel
theorem dd_X11_feedNumber_4 : decode cX11_feedNumber 4 = .ok (.ifCond .lt 42, 3) := by decide +kernel
theorem dd_X11_feedNumber_7 : decode cX11_feedNumber 7 = .ok (.aload_n 0, 1) := by decide +kernel
theorem dd_X11_feedNumber_8 : decode cX11_feedNumber 8 = .ok (.getfield 103, 3) := by decide +kernel
theorem dd_X11_feedNumber_11 : decode cX11_feedNumber 11 = .ok (.sipush 940, 3) := by decide +kernel
theorem dd_X11_feedNumber_14 : decode cX11_feedNumber 14 = .ok (.if_icmp .ge 32, 3) := by decide +kernel
theorem dd_X11_feedNumber_17 : decode cX11_feedNumber 17 = .ok (.aload_n 0, 1) := by decide +kernel
theorem dd_X11_feedNumber_18 : decode cX11_feedNumber 18 = .ok (.getfield 20, 3) := by decide +kernel
theorem dd_X11_feedNumber_21 : decode cX11_feedNumber 21 = .ok (.aload_n 0, 1) := by decide +kernel
theorem dd_X11_feedNumber_22 : decode cX11_feedNumber 22 = .ok (.getfield 103, 3) := by decide +kernel
theorem dd_X11_feedNumber_25 : decode cX11_feedNumber 25 = .ok (.iload_n 1, 1) := by decide +kernel
theorem dd_X11_feedNumber_26 : decode cX11_feedNumber 26 = .ok (.iload_n 2, 1) := by decide +kernel
theorem dd_X11_feedNumber_27 : decode cX11_feedNumber 27 = .ok (.iushr, 1) := by decide +kernel
theorem dd_X11_feedNumber_28 : decode cX11_feedNumber 28 = .ok (.i2b, 1) := by decide +kernel
theorem dd_X11_feedNumber_29 : decode cX11_feedNumber 29 = .ok (.bastore, 1) := by decide +kernel
theorem dd_X11_feedNumber_30 : decode cX11_feedNumber 30 = .ok (.aload_n 0, 1) := by decide +kernel
theorem dd_X11_feedNumber_31 : decode cX11_feedNumber 31 = .ok (.dup, 1) := by decide +kernel
theorem dd_X11_feedNumber_32 : decode cX11_feedNumber 32 = .ok (.getfield 103, 3) := by decide +kernel
theorem dd_X11_feedNumber_35 : decode cX11_feedNumber 35 = .ok (.iconst 1, 1) := by decide +kernel
theorem dd_X11_feedNumber_36 : decode cX11_feedNumber 36 = .ok (.iadd, 1) := by decide +kernel
theorem dd_X11_feedNumber_37 : decode cX11_feedNumber 37 = .ok (.putfield 103, 3) := by decide +kernel
theorem dd_X11_feedNumber_40 : decode cX11_feedNumber 40 = .ok (.iinc 2 (-8), 3) := by decide +kernel
theorem dd_X11_feedNumber_43 : decode cX11_feedNumber 43 = .ok (.goto (-40), 3) := by decide +kernel
theorem dd_X11_feedNumber_46 : decode cX11_feedNumber 46 = .ok (.return_, 1) := by decide +kernel
theorem dd_X11_fits_0 : decode cX11_fits 0 = .ok (.aload_n 0, 1) := by decide +kernel
theorem dd_X11_fits_1 : decode cX11_fits 1 = .ok (.getfield 103, 3) := by decide +kernel
theorem dd_X11_fits_4 : decode cX11_fits 4 = .ok (.istore_n 1, 1) := by decide +kernel
theorem dd_X11_fits_5 : decode cX11_fits 5 = .ok (.aload_n 0, 1) := by decide +kernel
theorem dd_X11_fits_6 : decode cX11_fits 6 = .ok (.iconst 0, 1) := by decide +kernel
theorem dd_X11_fits_7 : decode cX11_fits 7 = .ok (.putfield 103, 3) := by decide +kernel
theorem dd_X11_fits_10 : decode cX11_fits 10 = .ok (.aload_n 0, 1) := by decide +kernel
theorem dd_X11_fits_11 : decode cX11_fits 11 = .ok (.getfield 89, 3) := by decide +kernel
theorem dd_X11_fits_14 : decode cX11_fits 14 = .ok (.aload_n 0, 1) := by decide +kernel
theorem dd_X11_fits_15 : decode cX11_fits 15 = .ok (.getfield 34, 3) := by decide +kernel
theorem dd_X11_fits_18 : decode cX11_fits 18 = .ok (.aload_n 0, 1) := by decide +kernel
theorem dd_X11_fits_19 : decode cX11_fits 19 = .ok (.getfield 20, 3) := by decide +kernel
theorem dd_X11_fits_22 : decode cX11_fits 22 = .ok (.iload_n 1, 1) := by decide +kernel
theorem dd_X11_fits_23 : decode cX11_fits 23 = .ok (.invokevirtual 271, 3) := by decide +kernel
theorem dd_X11_fits_26 : decode cX11_fits 26 = .ok (.ireturn, 1) := by decide +kernel
theorem dd_X11_forfeit_0 : decode cX11_forfeit 0 = .ok (.aload_n 0, 1) := by decide +kernel
theorem dd_X11_forfeit_1 : decode cX11_forfeit 1 = .ok (.getfield 34, 3) := by decide +kernel
theorem dd_X11_forfeit_4 : decode cX11_forfeit 4 = .ok (.iconst 0, 1) := by decide +kernel
theorem dd_X11_forfeit_5 : decode cX11_forfeit 5 = .ok (.iload_n 1, 1) := by decide +kernel
theorem dd_X11_forfeit_6 : decode cX11_forfeit 6 = .ok (.invokevirtual 138, 3) := by decide +kernel
theorem dd_X11_forfeit_9 : decode cX11_forfeit 9 = .ok (.ifCond .eq 15, 3) := by decide +kernel
theorem dd_X11_forfeit_24 : decode cX11_forfeit 24 = .ok (.iconst (-1), 1) := by decide +kernel
theorem dd_X11_forfeit_25 : decode cX11_forfeit 25 = .ok (.ireturn, 1) := by decide +kernel
theorem dd_X11_good_0 : decode cX11_good 0 = .ok (.aload_n 0, 1) := by decide +kernel
theorem dd_X11_good_1 : decode cX11_good 1 = .ok (.getfield 34, 3) := by decide +kernel
theorem dd_X11_good_4 : decode cX11_good 4 = .ok (.iconst 2, 1) := by decide +kernel
theorem dd_X11_good_5 : decode cX11_good 5 = .ok (.iload_n 1, 1) := by decide +kernel
theorem dd_X11_good_6 : decode cX11_good 6 = .ok (.invokevirtual 138, 3) := by decide +kernel
theorem dd_X11_good_9 : decode cX11_good 9 = .ok (.ifCond .ne 5, 3) := by decide +kernel
theorem dd_X11_good_12 : decode cX11_good 12 = .ok (.iconst (-1), 1) := by decide +kernel
theorem dd_X11_good_13 : decode cX11_good 13 = .ok (.ireturn, 1) := by decide +kernel
theorem dd_X11_image_0 : decode cX11_image 0 = .ok (.iload_n 1, 1) := by decide +kernel
theorem dd_X11_image_1 : decode cX11_image 1 = .ok (.ifCond .lt 8, 3) := by decide +kernel
theorem dd_X11_image_4 : decode cX11_image 4 = .ok (.iload_n 1, 1) := by decide +kernel
theorem dd_X11_image_5 : decode cX11_image 5 = .ok (.iconst 2, 1) := by decide +kernel
theorem dd_X11_image_6 : decode cX11_image 6 = .ok (.if_icmp .lt 5, 3) := by decide +kernel
theorem dd_X11_image_9 : decode cX11_image 9 = .ok (.iconst 0, 1) := by decide +kernel
theorem dd_X11_image_10 : decode cX11_image 10 = .ok (.ireturn, 1) := by decide +kernel
theorem dd_X11_image_11 : decode cX11_image 11 = .ok (.aload_n 0, 1) := by decide +kernel
theorem dd_X11_image_12 : decode cX11_image 12 = .ok (.getfield 43, 3) := by decide +kernel
theorem dd_X11_image_15 : decode cX11_image 15 = .ok (.iload_n 1, 1) := by decide +kernel
theorem dd_X11_image_16 : decode cX11_image 16 = .ok (.aaload, 1) := by decide +kernel
theorem dd_X11_image_17 : decode cX11_image 17 = .ok (.aload_n 0, 1) := by decide +kernel
theorem dd_X11_image_18 : decode cX11_image 18 = .ok (.getfield 34, 3) := by decide +kernel
theorem dd_X11_image_21 : decode cX11_image 21 = .ok (.invokevirtual 127, 3) := by decide +kernel
theorem dd_X11_image_24 : decode cX11_image 24 = .ok (.aload_n 0, 1) := by decide +kernel
theorem dd_X11_image_25 : decode cX11_image 25 = .ok (.getfield 47, 3) := by decide +kernel
theorem dd_X11_image_28 : decode cX11_image 28 = .ok (.iload_n 1, 1) := by decide +kernel
theorem dd_X11_image_29 : decode cX11_image 29 = .ok (.iconst 1, 1) := by decide +kernel
theorem dd_X11_image_30 : decode cX11_image 30 = .ok (.bastore, 1) := by decide +kernel
theorem dd_X11_image_31 : decode cX11_image 31 = .ok (.iconst 1, 1) := by decide +kernel
theorem dd_X11_image_32 : decode cX11_image 32 = .ok (.ireturn, 1) := by decide +kernel
theorem dd_X11_init_0 : decode cX11_init 0 = .ok (.aload_n 0, 1) := by decide +kernel
theorem dd_X11_init_1 : decode cX11_init 1 = .ok (.invokespecial 3, 3) := by decide +kernel
theorem dd_X11_init_4 : decode cX11_init 4 = .ok (.aload_n 0, 1) := by decide +kernel
theorem dd_X11_init_5 : decode cX11_init 5 = .ok (.new 9, 3) := by decide +kernel
theorem dd_X11_init_8 : decode cX11_init 8 = .ok (.dup, 1) := by decide +kernel
theorem dd_X11_init_9 : decode cX11_init 9 = .ok (.invokespecial 11, 3) := by decide +kernel
theorem dd_X11_init_12 : decode cX11_init 12 = .ok (.putfield 12, 3) := by decide +kernel
theorem dd_X11_init_15 : decode cX11_init 15 = .ok (.aload_n 0, 1) := by decide +kernel
theorem dd_X11_init_16 : decode cX11_init 16 = .ok (.aload_n 0, 1) := by decide +kernel
theorem dd_X11_init_17 : decode cX11_init 17 = .ok (.getfield 12, 3) := by decide +kernel
theorem dd_X11_init_20 : decode cX11_init 20 = .ok (.getfield 16, 3) := by decide +kernel
theorem dd_X11_init_23 : decode cX11_init 23 = .ok (.putfield 20, 3) := by decide +kernel
theorem dd_X11_init_26 : decode cX11_init 26 = .ok (.aload_n 0, 1) := by decide +kernel
theorem dd_X11_init_27 : decode cX11_init 27 = .ok (.new 23, 3) := by decide +kernel
theorem dd_X11_init_30 : decode cX11_init 30 = .ok (.dup, 1) := by decide +kernel
theorem dd_X11_init_31 : decode cX11_init 31 = .ok (.invokespecial 25, 3) := by decide +kernel
theorem dd_X11_init_34 : decode cX11_init 34 = .ok (.putfield 26, 3) := by decide +kernel
theorem dd_X11_init_37 : decode cX11_init 37 = .ok (.aload_n 0, 1) := by decide +kernel
theorem dd_X11_init_38 : decode cX11_init 38 = .ok (.aload_n 0, 1) := by decide +kernel
theorem dd_X11_init_39 : decode cX11_init 39 = .ok (.getfield 26, 3) := by decide +kernel
theorem dd_X11_init_42 : decode cX11_init 42 = .ok (.getfield 30, 3) := by decide +kernel
theorem dd_X11_init_45 : decode cX11_init 45 = .ok (.putfield 34, 3) := by decide +kernel
theorem dd_X11_init_48 : decode cX11_init 48 = .ok (.aload_n 0, 1) := by decide +kernel
theorem dd_X11_init_49 : decode cX11_init 49 = .ok (.new 37, 3) := by decide +kernel
theorem dd_X11_init_52 : decode cX11_init 52 = .ok (.dup, 1) := by decide +kernel
theorem dd_X11_init_53 : decode cX11_init 53 = .ok (.invokespecial 39, 3) := by decide +kernel
theorem dd_X11_init_56 : decode cX11_init 56 = .ok (.putfield 40, 3) := by decide +kernel
theorem dd_X11_init_59 : decode cX11_init 59 = .ok (.aload_n 0, 1) := by decide +kernel
theorem dd_X11_init_60 : decode cX11_init 60 = .ok (.iconst 2, 1) := by decide +kernel
theorem dd_X11_init_61 : decode cX11_init 61 = .ok (.anewarray 37, 3) := by decide +kernel
theorem dd_X11_init_64 : decode cX11_init 64 = .ok (.putfield 43, 3) := by decide +kernel
theorem dd_X11_init_67 : decode cX11_init 67 = .ok (.aload_n 0, 1) := by decide +kernel
theorem dd_X11_init_68 : decode cX11_init 68 = .ok (.iconst 2, 1) := by decide +kernel
theorem dd_X11_init_69 : decode cX11_init 69 = .ok (.newarray .boolean, 2) := by decide +kernel
theorem dd_X11_init_71 : decode cX11_init 71 = .ok (.putfield 47, 3) := by decide +kernel
theorem dd_X11_init_74 : decode cX11_init 74 = .ok (.aload_n 0, 1) := by decide +kernel
theorem dd_X11_init_75 : decode cX11_init 75 = .ok (.new 51, 3) := by decide +kernel
theorem dd_X11_init_78 : decode cX11_init 78 = .ok (.dup, 1) := by decide +kernel
theorem dd_X11_init_79 : decode cX11_init 79 = .ok (.invokespecial 53, 3) := by decide +kernel
theorem dd_X11_init_82 : decode cX11_init 82 = .ok (.putfield 54, 3) := by decide +kernel
theorem dd_X11_init_85 : decode cX11_init 85 = .ok (.aload_n 0, 1) := by decide +kernel
theorem dd_X11_init_86 : decode cX11_init 86 = .ok (.new 58, 3) := by decide +kernel
theorem dd_X11_init_89 : decode cX11_init 89 = .ok (.dup, 1) := by decide +kernel
theorem dd_X11_init_90 : decode cX11_init 90 = .ok (.invokespecial 60, 3) := by decide +kernel
theorem dd_X11_init_93 : decode cX11_init 93 = .ok (.putfield 61, 3) := by decide +kernel
theorem dd_X11_init_96 : decode cX11_init 96 = .ok (.aload_n 0, 1) := by decide +kernel
theorem dd_X11_init_97 : decode cX11_init 97 = .ok (.new 65, 3) := by decide +kernel
theorem dd_X11_init_100 : decode cX11_init 100 = .ok (.dup, 1) := by decide +kernel
theorem dd_X11_init_101 : decode cX11_init 101 = .ok (.invokespecial 67, 3) := by decide +kernel
theorem dd_X11_init_104 : decode cX11_init 104 = .ok (.putfield 68, 3) := by decide +kernel
theorem dd_X11_init_107 : decode cX11_init 107 = .ok (.aload_n 0, 1) := by decide +kernel
theorem dd_X11_init_108 : decode cX11_init 108 = .ok (.new 72, 3) := by decide +kernel
theorem dd_X11_init_111 : decode cX11_init 111 = .ok (.dup, 1) := by decide +kernel
theorem dd_X11_init_112 : decode cX11_init 112 = .ok (.invokespecial 74, 3) := by decide +kernel
theorem dd_X11_init_115 : decode cX11_init 115 = .ok (.putfield 75, 3) := by decide +kernel
theorem dd_X11_init_118 : decode cX11_init 118 = .ok (.aload_n 0, 1) := by decide +kernel
theorem dd_X11_init_119 : decode cX11_init 119 = .ok (.new 79, 3) := by decide +kernel
theorem dd_X11_init_122 : decode cX11_init 122 = .ok (.dup, 1) := by decide +kernel
theorem dd_X11_init_123 : decode cX11_init 123 = .ok (.invokespecial 81, 3) := by decide +kernel
theorem dd_X11_init_126 : decode cX11_init 126 = .ok (.putfield 82, 3) := by decide +kernel
theorem dd_X11_init_129 : decode cX11_init 129 = .ok (.aload_n 0, 1) := by decide +kernel
theorem dd_X11_init_130 : decode cX11_init 130 = .ok (.new 86, 3) := by decide +kernel
theorem dd_X11_init_133 : decode cX11_init 133 = .ok (.dup, 1) := by decide +kernel
theorem dd_X11_init_134 : decode cX11_init 134 = .ok (.invokespecial 88, 3) := by decide +kernel
theorem dd_X11_init_137 : decode cX11_init 137 = .ok (.putfield 89, 3) := by decide +kernel
theorem dd_X11_init_140 : decode cX11_init 140 = .ok (.aload_n 0, 1) := by decide +kernel
theorem dd_X11_init_141 : decode cX11_init 141 = .ok (.new 93, 3) := by decide +kernel
theorem dd_X11_init_144 : decode cX11_init 144 = .ok (.dup, 1) := by decide +kernel
theorem dd_X11_init_145 : decode cX11_init 145 = .ok (.invokespecial 95, 3) := by decide +kernel
theorem dd_X11_init_148 : decode cX11_init 148 = .ok (.putfield 96, 3) := by decide +kernel
theorem dd_X11_init_151 : decode cX11_init 151 = .ok (.aload_n 0, 1) := by decide +kernel
theorem dd_X11_init_152 : decode cX11_init 152 = .ok (.bipush 40, 2) := by decide +kernel
theorem dd_X11_init_154 : decode cX11_init 154 = .ok (.newarray .byte, 2) := by decide +kernel
theorem dd_X11_init_156 : decode cX11_init 156 = .ok (.putfield 100, 3) := by decide +kernel
theorem dd_X11_init_159 : decode cX11_init 159 = .ok (.iconst 0, 1) := by decide +kernel
theorem dd_X11_init_160 : decode cX11_init 160 = .ok (.istore_n 1, 1) := by decide +kernel
theorem dd_X11_init_161 : decode cX11_init 161 = .ok (.iload_n 1, 1) := by decide +kernel
theorem dd_X11_init_162 : decode cX11_init 162 = .ok (.iconst 2, 1) := by decide +kernel
theorem dd_X11_init_163 : decode cX11_init 163 = .ok (.if_icmp .ge 22, 3) := by decide +kernel
theorem dd_X11_init_166 : decode cX11_init 166 = .ok (.aload_n 0, 1) := by decide +kernel
theorem dd_X11_init_167 : decode cX11_init 167 = .ok (.getfield 43, 3) := by decide +kernel
theorem dd_X11_init_170 : decode cX11_init 170 = .ok (.iload_n 1, 1) := by decide +kernel
theorem dd_X11_init_171 : decode cX11_init 171 = .ok (.new 37, 3) := by decide +kernel
theorem dd_X11_init_174 : decode cX11_init 174 = .ok (.dup, 1) := by decide +kernel
theorem dd_X11_init_175 : decode cX11_init 175 = .ok (.invokespecial 39, 3) := by decide +kernel
theorem dd_X11_init_178 : decode cX11_init 178 = .ok (.aastore, 1) := by decide +kernel
theorem dd_X11_init_179 : decode cX11_init 179 = .ok (.iinc 1 1, 3) := by decide +kernel
theorem dd_X11_init_182 : decode cX11_init 182 = .ok (.goto (-21), 3) := by decide +kernel
theorem dd_X11_init_185 : decode cX11_init 185 = .ok (.return_, 1) := by decide +kernel
theorem dd_X11_lasts_0 : decode cX11_lasts 0 = .ok (.aload_n 0, 1) := by decide +kernel
theorem dd_X11_lasts_1 : decode cX11_lasts 1 = .ok (.getfield 34, 3) := by decide +kernel
theorem dd_X11_lasts_4 : decode cX11_lasts 4 = .ok (.iconst 0, 1) := by decide +kernel
theorem dd_X11_lasts_5 : decode cX11_lasts 5 = .ok (.iload_n 1, 1) := by decide +kernel
theorem dd_X11_lasts_6 : decode cX11_lasts 6 = .ok (.invokevirtual 138, 3) := by decide +kernel
theorem dd_X11_lasts_9 : decode cX11_lasts 9 = .ok (.ifCond .eq 27, 3) := by decide +kernel
theorem dd_X11_lasts_36 : decode cX11_lasts 36 = .ok (.iconst (-1), 1) := by decide +kernel
theorem dd_X11_lasts_37 : decode cX11_lasts 37 = .ok (.ireturn, 1) := by decide +kernel
theorem dd_X11_lend_0 : decode cX11_lend 0 = .ok (.aload_n 0, 1) := by decide +kernel
theorem dd_X11_lend_1 : decode cX11_lend 1 = .ok (.iconst 2, 1) := by decide +kernel
theorem dd_X11_lend_2 : decode cX11_lend 2 = .ok (.iload_n 1, 1) := by decide +kernel
theorem dd_X11_lend_3 : decode cX11_lend 3 = .ok (.iload_n 2, 1) := by decide +kernel
theorem dd_X11_lend_4 : decode cX11_lend 4 = .ok (.iload_n 3, 1) := by decide +kernel
theorem dd_X11_lend_5 : decode cX11_lend 5 = .ok (.invokevirtual 212, 3) := by decide +kernel
theorem dd_X11_lend_8 : decode cX11_lend 8 = .ok (.ireturn, 1) := by decide +kernel
theorem dd_X11_list_0 : decode cX11_list 0 = .ok (.aload_n 0, 1) := by decide +kernel
theorem dd_X11_list_1 : decode cX11_list 1 = .ok (.getfield 34, 3) := by decide +kernel
theorem dd_X11_list_4 : decode cX11_list 4 = .ok (.iconst 0, 1) := by decide +kernel
theorem dd_X11_list_5 : decode cX11_list 5 = .ok (.iload_n 1, 1) := by decide +kernel
theorem dd_X11_list_6 : decode cX11_list 6 = .ok (.invokevirtual 138, 3) := by decide +kernel
theorem dd_X11_list_9 : decode cX11_list 9 = .ok (.ifCond .ne 5, 3) := by decide +kernel
theorem dd_X11_list_12 : decode cX11_list 12 = .ok (.iconst (-1), 1) := by decide +kernel
theorem dd_X11_list_13 : decode cX11_list 13 = .ok (.ireturn, 1) := by decide +kernel
theorem dd_X11_now_0 : decode cX11_now 0 = .ok (.aload_n 0, 1) := by decide +kernel
theorem dd_X11_now_1 : decode cX11_now 1 = .ok (.getfield 34, 3) := by decide +kernel
theorem dd_X11_now_4 : decode cX11_now 4 = .ok (.getfield 145, 3) := by decide +kernel
theorem dd_X11_now_7 : decode cX11_now 7 = .ok (.astore_n 2, 1) := by decide +kernel
theorem dd_X11_now_8 : decode cX11_now 8 = .ok (.iload_n 1, 1) := by decide +kernel
theorem dd_X11_now_9 : decode cX11_now 9 = .ok (.tableswitch 97 0 5 #[39, 44, 56, 61, 73, 85], 39) := by decide +kernel
theorem dd_X11_now_48 : decode cX11_now 48 = .ok (.aload_n 2, 1) := by decide +kernel
theorem dd_X11_now_49 : decode cX11_now 49 = .ok (.getfield 195, 3) := by decide +kernel
theorem dd_X11_now_52 : decode cX11_now 52 = .ok (.ireturn, 1) := by decide +kernel
theorem dd_X11_now_53 : decode cX11_now 53 = .ok (.aload_n 2, 1) := by decide +kernel
theorem dd_X11_now_54 : decode cX11_now 54 = .ok (.getfield 148, 3) := by decide +kernel
theorem dd_X11_now_57 : decode cX11_now 57 = .ok (.iconst 0, 1) := by decide +kernel
theorem dd_X11_now_58 : decode cX11_now 58 = .ok (.iconst 1, 1) := by decide +kernel
theorem dd_X11_now_59 : decode cX11_now 59 = .ok (.bipush 6, 2) := by decide +kernel
theorem dd_X11_now_61 : decode cX11_now 61 = .ok (.invokestatic 165, 3) := by decide +kernel
theorem dd_X11_now_64 : decode cX11_now 64 = .ok (.ireturn, 1) := by decide +kernel
theorem dd_X11_now_65 : decode cX11_now 65 = .ok (.aload_n 2, 1) := by decide +kernel
theorem dd_X11_now_66 : decode cX11_now 66 = .ok (.invokevirtual 198, 3) := by decide +kernel
theorem dd_X11_now_69 : decode cX11_now 69 = .ok (.ireturn, 1) := by decide +kernel
theorem dd_X11_now_70 : decode cX11_now 70 = .ok (.aload_n 2, 1) := by decide +kernel
theorem dd_X11_now_71 : decode cX11_now 71 = .ok (.getfield 162, 3) := by decide +kernel
theorem dd_X11_now_74 : decode cX11_now 74 = .ok (.iconst 0, 1) := by decide +kernel
theorem dd_X11_now_75 : decode cX11_now 75 = .ok (.iconst 1, 1) := by decide +kernel
theorem dd_X11_now_76 : decode cX11_now 76 = .ok (.bipush 36, 2) := by decide +kernel
theorem dd_X11_now_78 : decode cX11_now 78 = .ok (.invokestatic 165, 3) := by decide +kernel
theorem dd_X11_now_81 : decode cX11_now 81 = .ok (.ireturn, 1) := by decide +kernel
theorem dd_X11_now_82 : decode cX11_now 82 = .ok (.aload_n 2, 1) := by decide +kernel
theorem dd_X11_now_83 : decode cX11_now 83 = .ok (.getfield 172, 3) := by decide +kernel
theorem dd_X11_now_86 : decode cX11_now 86 = .ok (.iconst 0, 1) := by decide +kernel
theorem dd_X11_now_87 : decode cX11_now 87 = .ok (.iconst 1, 1) := by decide +kernel
theorem dd_X11_now_88 : decode cX11_now 88 = .ok (.bipush 36, 2) := by decide +kernel
theorem dd_X11_now_90 : decode cX11_now 90 = .ok (.invokestatic 165, 3) := by decide +kernel
theorem dd_X11_now_93 : decode cX11_now 93 = .ok (.ireturn, 1) := by decide +kernel
theorem dd_X11_now_94 : decode cX11_now 94 = .ok (.aload_n 2, 1) := by decide +kernel
theorem dd_X11_now_95 : decode cX11_now 95 = .ok (.getfield 182, 3) := by decide +kernel
theorem dd_X11_now_98 : decode cX11_now 98 = .ok (.iconst 0, 1) := by decide +kernel
theorem dd_X11_now_99 : decode cX11_now 99 = .ok (.iconst 1, 1) := by decide +kernel
theorem dd_X11_now_100 : decode cX11_now 100 = .ok (.bipush 36, 2) := by decide +kernel
theorem dd_X11_now_102 : decode cX11_now 102 = .ok (.invokestatic 165, 3) := by decide +kernel
theorem dd_X11_now_105 : decode cX11_now 105 = .ok (.ireturn, 1) := by decide +kernel
theorem dd_X11_now_106 : decode cX11_now 106 = .ok (.iconst (-1), 1) := by decide +kernel
theorem dd_X11_now_107 : decode cX11_now 107 = .ok (.ireturn, 1) := by decide +kernel
theorem dd_X11_odds_0 : decode cX11_odds 0 = .ok (.aload_n 0, 1) := by decide +kernel
theorem dd_X11_odds_1 : decode cX11_odds 1 = .ok (.getfield 34, 3) := by decide +kernel
theorem dd_X11_odds_4 : decode cX11_odds 4 = .ok (.iconst 0, 1) := by decide +kernel
theorem dd_X11_odds_5 : decode cX11_odds 5 = .ok (.iload_n 1, 1) := by decide +kernel
theorem dd_X11_odds_6 : decode cX11_odds 6 = .ok (.invokevirtual 138, 3) := by decide +kernel
theorem dd_X11_odds_9 : decode cX11_odds 9 = .ok (.ifCond .eq 14, 3) := by decide +kernel
theorem dd_X11_odds_23 : decode cX11_odds 23 = .ok (.iconst (-1), 1) := by decide +kernel
theorem dd_X11_odds_24 : decode cX11_odds 24 = .ok (.ireturn, 1) := by decide +kernel
theorem dd_X11_owes_0 : decode cX11_owes 0 = .ok (.aload_n 0, 1) := by decide +kernel
theorem dd_X11_owes_1 : decode cX11_owes 1 = .ok (.getfield 34, 3) := by decide +kernel
theorem dd_X11_owes_4 : decode cX11_owes 4 = .ok (.iconst 0, 1) := by decide +kernel
theorem dd_X11_owes_5 : decode cX11_owes 5 = .ok (.iload_n 1, 1) := by decide +kernel
theorem dd_X11_owes_6 : decode cX11_owes 6 = .ok (.invokevirtual 138, 3) := by decide +kernel
theorem dd_X11_owes_9 : decode cX11_owes 9 = .ok (.ifCond .eq 35, 3) := by decide +kernel
theorem dd_X11_owes_44 : decode cX11_owes 44 = .ok (.iconst (-1), 1) := by decide +kernel
theorem dd_X11_owes_45 : decode cX11_owes 45 = .ok (.ireturn, 1) := by decide +kernel
theorem dd_X11_plan_0 : decode cX11_plan 0 = .ok (.aload_n 0, 1) := by decide +kernel
theorem dd_X11_plan_1 : decode cX11_plan 1 = .ok (.getfield 34, 3) := by decide +kernel
theorem dd_X11_plan_4 : decode cX11_plan 4 = .ok (.iconst 0, 1) := by decide +kernel
theorem dd_X11_plan_5 : decode cX11_plan 5 = .ok (.iload_n 1, 1) := by decide +kernel
theorem dd_X11_plan_6 : decode cX11_plan 6 = .ok (.invokevirtual 138, 3) := by decide +kernel
theorem dd_X11_plan_9 : decode cX11_plan 9 = .ok (.ifCond .eq 14, 3) := by decide +kernel
theorem dd_X11_plan_23 : decode cX11_plan 23 = .ok (.iconst (-1), 1) := by decide +kernel
theorem dd_X11_plan_24 : decode cX11_plan 24 = .ok (.ireturn, 1) := by decide +kernel
theorem dd_X11_planned_0 : decode cX11_planned 0 = .ok (.iload_n 1, 1) := by decide +kernel
theorem dd_X11_planned_1 : decode cX11_planned 1 = .ok (.ifCond .lt 26, 3) := by decide +kernel
theorem dd_X11_planned_4 : decode cX11_planned 4 = .ok (.iload_n 1, 1) := by decide +kernel
theorem dd_X11_planned_5 : decode cX11_planned 5 = .ok (.aload_n 0, 1) := by decide +kernel
theorem dd_X11_planned_6 : decode cX11_planned 6 = .ok (.getfield 75, 3) := by decide +kernel
theorem dd_X11_planned_9 : decode cX11_planned 9 = .ok (.getfield 257, 3) := by decide +kernel
theorem dd_X11_planned_12 : decode cX11_planned 12 = .ok (.if_icmp .ge 15, 3) := by decide +kernel
theorem dd_X11_planned_27 : decode cX11_planned 27 = .ok (.iconst (-1), 1) := by decide +kernel
theorem dd_X11_planned_28 : decode cX11_planned 28 = .ok (.ireturn, 1) := by decide +kernel
theorem dd_X11_proudest_0 : decode cX11_proudest 0 = .ok (.iconst (-1), 1) := by decide +kernel
theorem dd_X11_proudest_1 : decode cX11_proudest 1 = .ok (.istore_n 1, 1) := by decide +kernel
theorem dd_X11_proudest_2 : decode cX11_proudest 2 = .ok (.iconst 0, 1) := by decide +kernel
theorem dd_X11_proudest_3 : decode cX11_proudest 3 = .ok (.istore_n 2, 1) := by decide +kernel
theorem dd_X11_proudest_4 : decode cX11_proudest 4 = .ok (.iload_n 2, 1) := by decide +kernel
theorem dd_X11_proudest_5 : decode cX11_proudest 5 = .ok (.aload_n 0, 1) := by decide +kernel
theorem dd_X11_proudest_6 : decode cX11_proudest 6 = .ok (.getfield 34, 3) := by decide +kernel
theorem dd_X11_proudest_9 : decode cX11_proudest 9 = .ok (.invokevirtual 239, 3) := by decide +kernel
theorem dd_X11_proudest_12 : decode cX11_proudest 12 = .ok (.if_icmp .ge 43, 3) := by decide +kernel
theorem dd_X11_proudest_55 : decode cX11_proudest 55 = .ok (.iload_n 1, 1) := by decide +kernel
theorem dd_X11_proudest_56 : decode cX11_proudest 56 = .ok (.ireturn, 1) := by decide +kernel
theorem dd_X11_repay_0 : decode cX11_repay 0 = .ok (.aload_n 0, 1) := by decide +kernel
theorem dd_X11_repay_1 : decode cX11_repay 1 = .ok (.iconst 3, 1) := by decide +kernel
theorem dd_X11_repay_2 : decode cX11_repay 2 = .ok (.iload_n 1, 1) := by decide +kernel
theorem dd_X11_repay_3 : decode cX11_repay 3 = .ok (.iload_n 2, 1) := by decide +kernel
theorem dd_X11_repay_4 : decode cX11_repay 4 = .ok (.iload_n 3, 1) := by decide +kernel
theorem dd_X11_repay_5 : decode cX11_repay 5 = .ok (.invokevirtual 212, 3) := by decide +kernel
theorem dd_X11_repay_8 : decode cX11_repay 8 = .ok (.ireturn, 1) := by decide +kernel
theorem dd_X11_restore_0 : decode cX11_restore 0 = .ok (.iload_n 1, 1) := by decide +kernel
theorem dd_X11_restore_1 : decode cX11_restore 1 = .ok (.ifCond .lt 17, 3) := by decide +kernel
theorem dd_X11_restore_4 : decode cX11_restore 4 = .ok (.iload_n 1, 1) := by decide +kernel
theorem dd_X11_restore_5 : decode cX11_restore 5 = .ok (.iconst 2, 1) := by decide +kernel
theorem dd_X11_restore_6 : decode cX11_restore 6 = .ok (.if_icmp .ge 12, 3) := by decide +kernel
theorem dd_X11_restore_9 : decode cX11_restore 9 = .ok (.aload_n 0, 1) := by decide +kernel
theorem dd_X11_restore_10 : decode cX11_restore 10 = .ok (.getfield 47, 3) := by decide +kernel
theorem dd_X11_restore_13 : decode cX11_restore 13 = .ok (.iload_n 1, 1) := by decide +kernel
theorem dd_X11_restore_14 : decode cX11_restore 14 = .ok (.baload, 1) := by decide +kernel
theorem dd_X11_restore_15 : decode cX11_restore 15 = .ok (.ifCond .ne 5, 3) := by decide +kernel
theorem dd_X11_restore_18 : decode cX11_restore 18 = .ok (.iconst 0, 1) := by decide +kernel
theorem dd_X11_restore_19 : decode cX11_restore 19 = .ok (.ireturn, 1) := by decide +kernel
theorem dd_X11_ring_0 : decode cX11_ring 0 = .ok (.aload_n 0, 1) := by decide +kernel
theorem dd_X11_ring_1 : decode cX11_ring 1 = .ok (.getfield 26, 3) := by decide +kernel
theorem dd_X11_ring_4 : decode cX11_ring 4 = .ok (.getfield 236, 3) := by decide +kernel
theorem dd_X11_ring_7 : decode cX11_ring 7 = .ok (.aload_n 0, 1) := by decide +kernel
theorem dd_X11_ring_8 : decode cX11_ring 8 = .ok (.getfield 34, 3) := by decide +kernel
theorem dd_X11_ring_11 : decode cX11_ring 11 = .ok (.getfield 145, 3) := by decide +kernel
theorem dd_X11_ring_14 : decode cX11_ring 14 = .ok (.aload_n 0, 1) := by decide +kernel
theorem dd_X11_ring_15 : decode cX11_ring 15 = .ok (.getfield 34, 3) := by decide +kernel
theorem dd_X11_ring_18 : decode cX11_ring 18 = .ok (.invokevirtual 239, 3) := by decide +kernel
theorem dd_X11_ring_21 : decode cX11_ring 21 = .ok (.invokevirtual 242, 3) := by decide +kernel
theorem dd_X11_ring_24 : decode cX11_ring 24 = .ok (.ifCond .ne 5, 3) := by decide +kernel
theorem dd_X11_ring_27 : decode cX11_ring 27 = .ok (.iconst (-1), 1) := by decide +kernel
theorem dd_X11_ring_28 : decode cX11_ring 28 = .ok (.ireturn, 1) := by decide +kernel
theorem dd_X11_ringAt_0 : decode cX11_ringAt 0 = .ok (.iload_n 1, 1) := by decide +kernel
theorem dd_X11_ringAt_1 : decode cX11_ringAt 1 = .ok (.ifCond .lt 26, 3) := by decide +kernel
theorem dd_X11_ringAt_4 : decode cX11_ringAt 4 = .ok (.iload_n 1, 1) := by decide +kernel
theorem dd_X11_ringAt_5 : decode cX11_ringAt 5 = .ok (.aload_n 0, 1) := by decide +kernel
theorem dd_X11_ringAt_6 : decode cX11_ringAt 6 = .ok (.getfield 68, 3) := by decide +kernel
theorem dd_X11_ringAt_9 : decode cX11_ringAt 9 = .ok (.getfield 249, 3) := by decide +kernel
theorem dd_X11_ringAt_12 : decode cX11_ringAt 12 = .ok (.if_icmp .ge 15, 3) := by decide +kernel
theorem dd_X11_ringAt_27 : decode cX11_ringAt 27 = .ok (.iconst (-1), 1) := by decide +kernel
theorem dd_X11_ringAt_28 : decode cX11_ringAt 28 = .ok (.ireturn, 1) := by decide +kernel
theorem dd_X11_said_0 : decode cX11_said 0 = .ok (.aload_n 0, 1) := by decide +kernel
theorem dd_X11_said_1 : decode cX11_said 1 = .ok (.getfield 34, 3) := by decide +kernel
theorem dd_X11_said_4 : decode cX11_said 4 = .ok (.getfield 343, 3) := by decide +kernel
theorem dd_X11_said_7 : decode cX11_said 7 = .ok (.getfield 358, 3) := by decide +kernel
theorem dd_X11_said_10 : decode cX11_said 10 = .ok (.ifCond .ne 5, 3) := by decide +kernel
theorem dd_X11_said_13 : decode cX11_said 13 = .ok (.iconst (-1), 1) := by decide +kernel
theorem dd_X11_said_14 : decode cX11_said 14 = .ok (.ireturn, 1) := by decide +kernel
theorem dd_X11_sentence_0 : decode cX11_sentence 0 = .ok (.aload_n 0, 1) := by decide +kernel
theorem dd_X11_sentence_1 : decode cX11_sentence 1 = .ok (.sipush 200, 3) := by decide +kernel
theorem dd_X11_sentence_4 : decode cX11_sentence 4 = .ok (.invokevirtual 111, 3) := by decide +kernel
theorem dd_X11_sentence_7 : decode cX11_sentence 7 = .ok (.aload_n 0, 1) := by decide +kernel
theorem dd_X11_sentence_8 : decode cX11_sentence 8 = .ok (.getfield 40, 3) := by decide +kernel
theorem dd_X11_sentence_11 : decode cX11_sentence 11 = .ok (.getfield 343, 3) := by decide +kernel
theorem dd_X11_sentence_14 : decode cX11_sentence 14 = .ok (.aload_n 0, 1) := by decide +kernel
theorem dd_X11_sentence_15 : decode cX11_sentence 15 = .ok (.getfield 12, 3) := by decide +kernel
theorem dd_X11_sentence_18 : decode cX11_sentence 18 = .ok (.aload_n 0, 1) := by decide +kernel
theorem dd_X11_sentence_19 : decode cX11_sentence 19 = .ok (.getfield 34, 3) := by decide +kernel
theorem dd_X11_sentence_22 : decode cX11_sentence 22 = .ok (.invokevirtual 347, 3) := by decide +kernel
theorem dd_X11_sentence_25 : decode cX11_sentence 25 = .ok (.istore_n 1, 1) := by decide +kernel
theorem dd_X11_sentence_26 : decode cX11_sentence 26 = .ok (.aload_n 0, 1) := by decide +kernel
theorem dd_X11_sentence_27 : decode cX11_sentence 27 = .ok (.aload_n 0, 1) := by decide +kernel
theorem dd_X11_sentence_28 : decode cX11_sentence 28 = .ok (.getfield 12, 3) := by decide +kernel
theorem dd_X11_sentence_31 : decode cX11_sentence 31 = .ok (.getfield 118, 3) := by decide +kernel
theorem dd_X11_sentence_34 : decode cX11_sentence 34 = .ok (.putfield 121, 3) := by decide +kernel
theorem dd_X11_sentence_37 : decode cX11_sentence 37 = .ok (.iload_n 1, 1) := by decide +kernel
theorem dd_X11_sentence_38 : decode cX11_sentence 38 = .ok (.ifCond .ne 13, 3) := by decide +kernel
theorem dd_X11_sentence_41 : decode cX11_sentence 41 = .ok (.iconst (-1), 1) := by decide +kernel
theorem dd_X11_sentence_42 : decode cX11_sentence 42 = .ok (.aload_n 0, 1) := by decide +kernel
theorem dd_X11_sentence_43 : decode cX11_sentence 43 = .ok (.getfield 12, 3) := by decide +kernel
theorem dd_X11_sentence_46 : decode cX11_sentence 46 = .ok (.getfield 124, 3) := by decide +kernel
theorem dd_X11_sentence_49 : decode cX11_sentence 49 = .ok (.isub, 1) := by decide +kernel
theorem dd_X11_sentence_50 : decode cX11_sentence 50 = .ok (.ireturn, 1) := by decide +kernel
theorem dd_X11_share_0 : decode cX11_share 0 = .ok (.iload_n 1, 1) := by decide +kernel
theorem dd_X11_share_1 : decode cX11_share 1 = .ok (.ifCond .lt 42, 3) := by decide +kernel
theorem dd_X11_share_4 : decode cX11_share 4 = .ok (.iload_n 1, 1) := by decide +kernel
theorem dd_X11_share_5 : decode cX11_share 5 = .ok (.sipush 999, 3) := by decide +kernel
theorem dd_X11_share_8 : decode cX11_share 8 = .ok (.if_icmp .gt 35, 3) := by decide +kernel
theorem dd_X11_share_11 : decode cX11_share 11 = .ok (.aload_n 0, 1) := by decide +kernel
theorem dd_X11_share_12 : decode cX11_share 12 = .ok (.getfield 34, 3) := by decide +kernel
theorem dd_X11_share_15 : decode cX11_share 15 = .ok (.iconst 0, 1) := by decide +kernel
theorem dd_X11_share_16 : decode cX11_share 16 = .ok (.iload_n 3, 1) := by decide +kernel
theorem dd_X11_share_17 : decode cX11_share 17 = .ok (.invokevirtual 138, 3) := by decide +kernel
theorem dd_X11_share_20 : decode cX11_share 20 = .ok (.ifCond .eq 23, 3) := by decide +kernel
theorem dd_X11_share_43 : decode cX11_share 43 = .ok (.iconst (-1), 1) := by decide +kernel
theorem dd_X11_share_44 : decode cX11_share 44 = .ok (.ireturn, 1) := by decide +kernel
theorem dd_X11_startTokens_0 : decode cX11_startTokens 0 = .ok (.aload_n 0, 1) := by decide +kernel
theorem dd_X11_startTokens_1 : decode cX11_startTokens 1 = .ok (.getfield 103, 3) := by decide +kernel
theorem dd_X11_startTokens_4 : decode cX11_startTokens 4 = .ok (.istore_n 2, 1) := by decide +kernel
theorem dd_X11_startTokens_5 : decode cX11_startTokens 5 = .ok (.aload_n 0, 1) := by decide +kernel
theorem dd_X11_startTokens_6 : decode cX11_startTokens 6 = .ok (.iconst 0, 1) := by decide +kernel
theorem dd_X11_startTokens_7 : decode cX11_startTokens 7 = .ok (.putfield 103, 3) := by decide +kernel
theorem dd_X11_startTokens_10 : decode cX11_startTokens 10 = .ok (.aload_n 0, 1) := by decide +kernel
theorem dd_X11_startTokens_11 : decode cX11_startTokens 11 = .ok (.getfield 12, 3) := by decide +kernel
theorem dd_X11_startTokens_14 : decode cX11_startTokens 14 = .ok (.iload_n 2, 1) := by decide +kernel
theorem dd_X11_startTokens_15 : decode cX11_startTokens 15 = .ok (.iload_n 1, 1) := by decide +kernel
theorem dd_X11_startTokens_16 : decode cX11_startTokens 16 = .ok (.invokevirtual 134, 3) := by decide +kernel
theorem dd_X11_startTokens_19 : decode cX11_startTokens 19 = .ok (.return_, 1) := by decide +kernel
theorem dd_X11_strike_0 : decode cX11_strike 0 = .ok (.aload_n 0, 1) := by decide +kernel
theorem dd_X11_strike_1 : decode cX11_strike 1 = .ok (.getfield 26, 3) := by decide +kernel
theorem dd_X11_strike_4 : decode cX11_strike 4 = .ok (.aload_n 0, 1) := by decide +kernel
theorem dd_X11_strike_5 : decode cX11_strike 5 = .ok (.getfield 34, 3) := by decide +kernel
theorem dd_X11_strike_8 : decode cX11_strike 8 = .ok (.getfield 145, 3) := by decide +kernel
theorem dd_X11_strike_11 : decode cX11_strike 11 = .ok (.iconst 4, 1) := by decide +kernel
theorem dd_X11_strike_12 : decode cX11_strike 12 = .ok (.iconst 0, 1) := by decide +kernel
theorem dd_X11_strike_13 : decode cX11_strike 13 = .ok (.iconst 0, 1) := by decide +kernel
theorem dd_X11_strike_14 : decode cX11_strike 14 = .ok (.iconst 0, 1) := by decide +kernel
theorem dd_X11_strike_15 : decode cX11_strike 15 = .ok (.invokevirtual 201, 3) := by decide +kernel
theorem dd_X11_strike_18 : decode cX11_strike 18 = .ok (.ifCond .ne 14, 3) := by decide +kernel
theorem dd_X11_strike_32 : decode cX11_strike 32 = .ok (.iconst (-1), 1) := by decide +kernel
theorem dd_X11_strike_33 : decode cX11_strike 33 = .ok (.ireturn, 1) := by decide +kernel
theorem dd_X11_sum_0 : decode cX11_sum 0 = .ok (.iconst 0, 1) := by decide +kernel
theorem dd_X11_sum_1 : decode cX11_sum 1 = .ok (.istore 4, 2) := by decide +kernel
theorem dd_X11_sum_3 : decode cX11_sum 3 = .ok (.iconst 0, 1) := by decide +kernel
theorem dd_X11_sum_4 : decode cX11_sum 4 = .ok (.istore 5, 2) := by decide +kernel
theorem dd_X11_sum_6 : decode cX11_sum 6 = .ok (.iload_n 1, 1) := by decide +kernel
theorem dd_X11_sum_7 : decode cX11_sum 7 = .ok (.istore 6, 2) := by decide +kernel
theorem dd_X11_sum_9 : decode cX11_sum 9 = .ok (.iload 5, 2) := by decide +kernel
theorem dd_X11_sum_11 : decode cX11_sum 11 = .ok (.iload_n 3, 1) := by decide +kernel
theorem dd_X11_sum_12 : decode cX11_sum 12 = .ok (.if_icmp .ge 36, 3) := by decide +kernel
theorem dd_X11_sum_15 : decode cX11_sum 15 = .ok (.iload 6, 2) := by decide +kernel
theorem dd_X11_sum_17 : decode cX11_sum 17 = .ok (.ifCond .lt 31, 3) := by decide +kernel
theorem dd_X11_sum_20 : decode cX11_sum 20 = .ok (.iload 6, 2) := by decide +kernel
theorem dd_X11_sum_22 : decode cX11_sum 22 = .ok (.aload_n 0, 1) := by decide +kernel
theorem dd_X11_sum_23 : decode cX11_sum 23 = .ok (.arraylength, 1) := by decide +kernel
theorem dd_X11_sum_24 : decode cX11_sum 24 = .ok (.if_icmp .ge 24, 3) := by decide +kernel
theorem dd_X11_sum_27 : decode cX11_sum 27 = .ok (.iload 4, 2) := by decide +kernel
theorem dd_X11_sum_29 : decode cX11_sum 29 = .ok (.aload_n 0, 1) := by decide +kernel
theorem dd_X11_sum_30 : decode cX11_sum 30 = .ok (.iload 6, 2) := by decide +kernel
theorem dd_X11_sum_32 : decode cX11_sum 32 = .ok (.iaload, 1) := by decide +kernel
theorem dd_X11_sum_33 : decode cX11_sum 33 = .ok (.iadd, 1) := by decide +kernel
theorem dd_X11_sum_34 : decode cX11_sum 34 = .ok (.istore 4, 2) := by decide +kernel
theorem dd_X11_sum_36 : decode cX11_sum 36 = .ok (.iinc 5 1, 3) := by decide +kernel
