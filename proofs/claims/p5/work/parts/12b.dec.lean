theorem dd_X0_init_0 : decode cX0_init 0 = .ok (.aload_n 0, 1) := by decide +kernel
theorem dd_X0_init_1 : decode cX0_init 1 = .ok (.invokespecial 3, 3) := by decide +kernel
theorem dd_X0_init_4 : decode cX0_init 4 = .ok (.aload_n 0, 1) := by decide +kernel
theorem dd_X0_init_5 : decode cX0_init 5 = .ok (.new 9, 3) := by decide +kernel
theorem dd_X0_init_8 : decode cX0_init 8 = .ok (.dup, 1) := by decide +kernel
theorem dd_X0_init_9 : decode cX0_init 9 = .ok (.invokespecial 11, 3) := by decide +kernel
theorem dd_X0_init_12 : decode cX0_init 12 = .ok (.putfield 12, 3) := by decide +kernel
theorem dd_X0_init_15 : decode cX0_init 15 = .ok (.aload_n 0, 1) := by decide +kernel
theorem dd_X0_init_16 : decode cX0_init 16 = .ok (.new 18, 3) := by decide +kernel
theorem dd_X0_init_19 : decode cX0_init 19 = .ok (.dup, 1) := by decide +kernel
theorem dd_X0_init_20 : decode cX0_init 20 = .ok (.invokespecial 20, 3) := by decide +kernel
theorem dd_X0_init_23 : decode cX0_init 23 = .ok (.putfield 21, 3) := by decide +kernel
theorem dd_X0_init_26 : decode cX0_init 26 = .ok (.aload_n 0, 1) := by decide +kernel
theorem dd_X0_init_27 : decode cX0_init 27 = .ok (.bipush 64, 2) := by decide +kernel
theorem dd_X0_init_29 : decode cX0_init 29 = .ok (.newarray .int, 2) := by decide +kernel
theorem dd_X0_init_31 : decode cX0_init 31 = .ok (.putfield 25, 3) := by decide +kernel
theorem dd_X0_init_34 : decode cX0_init 34 = .ok (.aload_n 0, 1) := by decide +kernel
theorem dd_X0_init_35 : decode cX0_init 35 = .ok (.bipush 64, 2) := by decide +kernel
theorem dd_X0_init_37 : decode cX0_init 37 = .ok (.newarray .int, 2) := by decide +kernel
theorem dd_X0_init_39 : decode cX0_init 39 = .ok (.putfield 29, 3) := by decide +kernel
theorem dd_X0_init_42 : decode cX0_init 42 = .ok (.return_, 1) := by decide +kernel
theorem dd_X11_init_0 : decode cX11_init 0 = .ok (.aload_n 0, 1) := by decide +kernel
theorem dd_X11_init_1 : decode cX11_init 1 = .ok (.invokespecial 3, 3) := by decide +kernel
theorem dd_X11_init_4 : decode cX11_init 4 = .ok (.aload_n 0, 1) := by decide +kernel
theorem dd_X11_init_5 : decode cX11_init 5 = .ok (.new 9, 3) := by decide +kernel
theorem dd_X11_init_8 : decode cX11_init 8 = .ok (.dup, 1) := by decide +kernel
theorem dd_X11_init_9 : decode cX11_init 9 = .ok (.invokespecial 11, 3) := by decide +kernel
theorem dd_X11_init_12 : decode cX11_init 12 = .ok (.putfield 12, 3) := by decide +kernel
theorem dd_X11_init_15 : decode cX11_init 15 = .ok (.aload_n 0, 1) := by decide +kernel
theorem dd_X11_init_16 : decode cX11_init 16 = .ok (.aload_n 0, 1) := by decide +kernel
theorem dd_X11_init_17 : decode cX11_init 17 = .ok (.getfield 12, 3) := by decide +kernel
theorem dd_X11_init_20 : decode cX11_init 20 = .ok (.getfield 16, 3) := by decide +kernel
theorem dd_X11_init_23 : decode cX11_init 23 = .ok (.putfield 20, 3) := by decide +kernel
theorem dd_X11_init_26 : decode cX11_init 26 = .ok (.aload_n 0, 1) := by decide +kernel
theorem dd_X11_init_27 : decode cX11_init 27 = .ok (.new 23, 3) := by decide +kernel
theorem dd_X11_init_30 : decode cX11_init 30 = .ok (.dup, 1) := by decide +kernel
theorem dd_X11_init_31 : decode cX11_init 31 = .ok (.invokespecial 25, 3) := by decide +kernel
theorem dd_X11_init_34 : decode cX11_init 34 = .ok (.putfield 26, 3) := by decide +kernel
theorem dd_X11_init_37 : decode cX11_init 37 = .ok (.aload_n 0, 1) := by decide +kernel
theorem dd_X11_init_38 : decode cX11_init 38 = .ok (.aload_n 0, 1) := by decide +kernel
theorem dd_X11_init_39 : decode cX11_init 39 = .ok (.getfield 26, 3) := by decide +kernel
theorem dd_X11_init_42 : decode cX11_init 42 = .ok (.getfield 30, 3) := by decide +kernel
theorem dd_X11_init_45 : decode cX11_init 45 = .ok (.putfield 34, 3) := by decide +kernel
theorem dd_X11_init_48 : decode cX11_init 48 = .ok (.aload_n 0, 1) := by decide +kernel
theorem dd_X11_init_49 : decode cX11_init 49 = .ok (.new 37, 3) := by decide +kernel
theorem dd_X11_init_52 : decode cX11_init 52 = .ok (.dup, 1) := by decide +kernel
theorem dd_X11_init_53 : decode cX11_init 53 = .ok (.invokespecial 39, 3) := by decide +kernel
theorem dd_X11_init_56 : decode cX11_init 56 = .ok (.putfield 40, 3) := by decide +kernel
theorem dd_X11_init_59 : decode cX11_init 59 = .ok (.aload_n 0, 1) := by decide +kernel
theorem dd_X11_init_60 : decode cX11_init 60 = .ok (.iconst 2, 1) := by decide +kernel
theorem dd_X11_init_61 : decode cX11_init 61 = .ok (.anewarray 37, 3) := by decide +kernel
theorem dd_X11_init_64 : decode cX11_init 64 = .ok (.putfield 43, 3) := by decide +kernel
theorem dd_X11_init_67 : decode cX11_init 67 = .ok (.aload_n 0, 1) := by decide +kernel
theorem dd_X11_init_68 : decode cX11_init 68 = .ok (.iconst 2, 1) := by decide +kernel
theorem dd_X11_init_69 : decode cX11_init 69 = .ok (.newarray .boolean, 2) := by decide +kernel
theorem dd_X11_init_71 : decode cX11_init 71 = .ok (.putfield 47, 3) := by decide +kernel
theorem dd_X11_init_74 : decode cX11_init 74 = .ok (.aload_n 0, 1) := by decide +kernel
theorem dd_X11_init_75 : decode cX11_init 75 = .ok (.new 51, 3) := by decide +kernel
theorem dd_X11_init_78 : decode cX11_init 78 = .ok (.dup, 1) := by decide +kernel
theorem dd_X11_init_79 : decode cX11_init 79 = .ok (.invokespecial 53, 3) := by decide +kernel
theorem dd_X11_init_82 : decode cX11_init 82 = .ok (.putfield 54, 3) := by decide +kernel
theorem dd_X11_init_85 : decode cX11_init 85 = .ok (.aload_n 0, 1) := by decide +kernel
theorem dd_X11_init_86 : decode cX11_init 86 = .ok (.new 58, 3) := by decide +kernel
theorem dd_X11_init_89 : decode cX11_init 89 = .ok (.dup, 1) := by decide +kernel
theorem dd_X11_init_90 : decode cX11_init 90 = .ok (.invokespecial 60, 3) := by decide +kernel
theorem dd_X11_init_93 : decode cX11_init 93 = .ok (.putfield 61, 3) := by decide +kernel
theorem dd_X11_init_96 : decode cX11_init 96 = .ok (.aload_n 0, 1) := by decide +kernel
theorem dd_X11_init_97 : decode cX11_init 97 = .ok (.new 65, 3) := by decide +kernel
theorem dd_X11_init_100 : decode cX11_init 100 = .ok (.dup, 1) := by decide +kernel
theorem dd_X11_init_101 : decode cX11_init 101 = .ok (.invokespecial 67, 3) := by decide +kernel
theorem dd_X11_init_104 : decode cX11_init 104 = .ok (.putfield 68, 3) := by decide +kernel
theorem dd_X11_init_107 : decode cX11_init 107 = .ok (.aload_n 0, 1) := by decide +kernel
theorem dd_X11_init_108 : decode cX11_init 108 = .ok (.new 72, 3) := by decide +kernel
theorem dd_X11_init_111 : decode cX11_init 111 = .ok (.dup, 1) := by decide +kernel
theorem dd_X11_init_112 : decode cX11_init 112 = .ok (.invokespecial 74, 3) := by decide +kernel
theorem dd_X11_init_115 : decode cX11_init 115 = .ok (.putfield 75, 3) := by decide +kernel
theorem dd_X11_init_118 : decode cX11_init 118 = .ok (.aload_n 0, 1) := by decide +kernel
theorem dd_X11_init_119 : decode cX11_init 119 = .ok (.new 79, 3) := by decide +kernel
theorem dd_X11_init_122 : decode cX11_init 122 = .ok (.dup, 1) := by decide +kernel
theorem dd_X11_init_123 : decode cX11_init 123 = .ok (.invokespecial 81, 3) := by decide +kernel
theorem dd_X11_init_126 : decode cX11_init 126 = .ok (.putfield 82, 3) := by decide +kernel
theorem dd_X11_init_129 : decode cX11_init 129 = .ok (.aload_n 0, 1) := by decide +kernel
theorem dd_X11_init_130 : decode cX11_init 130 = .ok (.new 86, 3) := by decide +kernel
theorem dd_X11_init_133 : decode cX11_init 133 = .ok (.dup, 1) := by decide +kernel
theorem dd_X11_init_134 : decode cX11_init 134 = .ok (.invokespecial 88, 3) := by decide +kernel
theorem dd_X11_init_137 : decode cX11_init 137 = .ok (.putfield 89, 3) := by decide +kernel
theorem dd_X11_init_140 : decode cX11_init 140 = .ok (.aload_n 0, 1) := by decide +kernel
theorem dd_X11_init_141 : decode cX11_init 141 = .ok (.new 93, 3) := by decide +kernel
theorem dd_X11_init_144 : decode cX11_init 144 = .ok (.dup, 1) := by decide +kernel
theorem dd_X11_init_145 : decode cX11_init 145 = .ok (.invokespecial 95, 3) := by decide +kernel
theorem dd_X11_init_148 : decode cX11_init 148 = .ok (.putfield 96, 3) := by decide +kernel
theorem dd_X11_init_151 : decode cX11_init 151 = .ok (.aload_n 0, 1) := by decide +kernel
theorem dd_X11_init_152 : decode cX11_init 152 = .ok (.bipush 40, 2) := by decide +kernel
theorem dd_X11_init_154 : decode cX11_init 154 = .ok (.newarray .byte, 2) := by decide +kernel
theorem dd_X11_init_156 : decode cX11_init 156 = .ok (.putfield 100, 3) := by decide +kernel
theorem dd_X11_init_159 : decode cX11_init 159 = .ok (.iconst 0, 1) := by decide +kernel
theorem dd_X11_init_160 : decode cX11_init 160 = .ok (.istore_n 1, 1) := by decide +kernel
theorem dd_X11_init_161 : decode cX11_init 161 = .ok (.iload_n 1, 1) := by decide +kernel
theorem dd_X11_init_162 : decode cX11_init 162 = .ok (.iconst 2, 1) := by decide +kernel
theorem dd_X11_init_163 : decode cX11_init 163 = .ok (.if_icmp .ge 22, 3) := by decide +kernel
theorem dd_X11_init_166 : decode cX11_init 166 = .ok (.aload_n 0, 1) := by decide +kernel
theorem dd_X11_init_167 : decode cX11_init 167 = .ok (.getfield 43, 3) := by decide +kernel
theorem dd_X11_init_170 : decode cX11_init 170 = .ok (.iload_n 1, 1) := by decide +kernel
theorem dd_X11_init_171 : decode cX11_init 171 = .ok (.new 37, 3) := by decide +kernel
theorem dd_X11_init_174 : decode cX11_init 174 = .ok (.dup, 1) := by decide +kernel
theorem dd_X11_init_175 : decode cX11_init 175 = .ok (.invokespecial 39, 3) := by decide +kernel
theorem dd_X11_init_178 : decode cX11_init 178 = .ok (.aastore, 1) := by decide +kernel
theorem dd_X11_init_179 : decode cX11_init 179 = .ok (.iinc 1 1, 3) := by decide +kernel
theorem dd_X11_init_182 : decode cX11_init 182 = .ok (.goto (-21), 3) := by decide +kernel
theorem dd_X11_init_185 : decode cX11_init 185 = .ok (.return_, 1) := by decide +kernel
theorem dd_X12_init_0 : decode cX12_init 0 = .ok (.aload_n 0, 1) := by decide +kernel
theorem dd_X12_init_1 : decode cX12_init 1 = .ok (.invokespecial 93, 3) := by decide +kernel
theorem dd_X12_init_4 : decode cX12_init 4 = .ok (.aload_n 0, 1) := by decide +kernel
theorem dd_X12_init_5 : decode cX12_init 5 = .ok (.sipush 940, 3) := by decide +kernel
theorem dd_X12_init_8 : decode cX12_init 8 = .ok (.newarray .int, 2) := by decide +kernel
theorem dd_X12_init_10 : decode cX12_init 10 = .ok (.putfield 7, 3) := by decide +kernel
theorem dd_X12_init_13 : decode cX12_init 13 = .ok (.aload_n 0, 1) := by decide +kernel
theorem dd_X12_init_14 : decode cX12_init 14 = .ok (.sipush 476, 3) := by decide +kernel
theorem dd_X12_init_17 : decode cX12_init 17 = .ok (.newarray .int, 2) := by decide +kernel
theorem dd_X12_init_19 : decode cX12_init 19 = .ok (.putfield 98, 3) := by decide +kernel
theorem dd_X12_init_22 : decode cX12_init 22 = .ok (.aload_n 0, 1) := by decide +kernel
theorem dd_X12_init_23 : decode cX12_init 23 = .ok (.bipush 101, 2) := by decide +kernel
theorem dd_X12_init_25 : decode cX12_init 25 = .ok (.newarray .int, 2) := by decide +kernel
theorem dd_X12_init_27 : decode cX12_init 27 = .ok (.putfield 101, 3) := by decide +kernel
theorem dd_X12_init_30 : decode cX12_init 30 = .ok (.aload_n 0, 1) := by decide +kernel
theorem dd_X12_init_31 : decode cX12_init 31 = .ok (.sipush 952, 3) := by decide +kernel
theorem dd_X12_init_34 : decode cX12_init 34 = .ok (.newarray .int, 2) := by decide +kernel
theorem dd_X12_init_36 : decode cX12_init 36 = .ok (.putfield 104, 3) := by decide +kernel
theorem dd_X12_init_39 : decode cX12_init 39 = .ok (.aload_n 0, 1) := by decide +kernel
theorem dd_X12_init_40 : decode cX12_init 40 = .ok (.sipush 1064, 3) := by decide +kernel
theorem dd_X12_init_43 : decode cX12_init 43 = .ok (.newarray .int, 2) := by decide +kernel
theorem dd_X12_init_45 : decode cX12_init 45 = .ok (.putfield 107, 3) := by decide +kernel
theorem dd_X12_init_48 : decode cX12_init 48 = .ok (.aload_n 0, 1) := by decide +kernel
theorem dd_X12_init_49 : decode cX12_init 49 = .ok (.sipush 133, 3) := by decide +kernel
theorem dd_X12_init_52 : decode cX12_init 52 = .ok (.newarray .int, 2) := by decide +kernel
theorem dd_X12_init_54 : decode cX12_init 54 = .ok (.putfield 110, 3) := by decide +kernel
theorem dd_X12_init_57 : decode cX12_init 57 = .ok (.aload_n 0, 1) := by decide +kernel
theorem dd_X12_init_58 : decode cX12_init 58 = .ok (.bipush 18, 2) := by decide +kernel
theorem dd_X12_init_60 : decode cX12_init 60 = .ok (.newarray .long, 2) := by decide +kernel
theorem dd_X12_init_62 : decode cX12_init 62 = .ok (.putfield 113, 3) := by decide +kernel
theorem dd_X12_init_65 : decode cX12_init 65 = .ok (.aload_n 0, 1) := by decide +kernel
theorem dd_X12_init_66 : decode cX12_init 66 = .ok (.bipush 18, 2) := by decide +kernel
theorem dd_X12_init_68 : decode cX12_init 68 = .ok (.newarray .long, 2) := by decide +kernel
theorem dd_X12_init_70 : decode cX12_init 70 = .ok (.putfield 117, 3) := by decide +kernel
theorem dd_X12_init_73 : decode cX12_init 73 = .ok (.aload_n 0, 1) := by decide +kernel
theorem dd_X12_init_74 : decode cX12_init 74 = .ok (.bipush 36, 2) := by decide +kernel
theorem dd_X12_init_76 : decode cX12_init 76 = .ok (.newarray .long, 2) := by decide +kernel
theorem dd_X12_init_78 : decode cX12_init 78 = .ok (.putfield 120, 3) := by decide +kernel
theorem dd_X12_init_81 : decode cX12_init 81 = .ok (.aload_n 0, 1) := by decide +kernel
theorem dd_X12_init_82 : decode cX12_init 82 = .ok (.iconst 2, 1) := by decide +kernel
theorem dd_X12_init_83 : decode cX12_init 83 = .ok (.newarray .boolean, 2) := by decide +kernel
theorem dd_X12_init_85 : decode cX12_init 85 = .ok (.putfield 123, 3) := by decide +kernel
theorem dd_X12_init_88 : decode cX12_init 88 = .ok (.aload_n 0, 1) := by decide +kernel
theorem dd_X12_init_89 : decode cX12_init 89 = .ok (.bipush 6, 2) := by decide +kernel
theorem dd_X12_init_91 : decode cX12_init 91 = .ok (.newarray .int, 2) := by decide +kernel
theorem dd_X12_init_93 : decode cX12_init 93 = .ok (.putfield 127, 3) := by decide +kernel
theorem dd_X12_init_96 : decode cX12_init 96 = .ok (.aload_n 0, 1) := by decide +kernel
theorem dd_X12_init_97 : decode cX12_init 97 = .ok (.bipush 6, 2) := by decide +kernel
theorem dd_X12_init_99 : decode cX12_init 99 = .ok (.newarray .int, 2) := by decide +kernel
theorem dd_X12_init_101 : decode cX12_init 101 = .ok (.putfield 130, 3) := by decide +kernel
theorem dd_X12_init_104 : decode cX12_init 104 = .ok (.aload_n 0, 1) := by decide +kernel
theorem dd_X12_init_105 : decode cX12_init 105 = .ok (.sipush 700, 3) := by decide +kernel
theorem dd_X12_init_108 : decode cX12_init 108 = .ok (.newarray .int, 2) := by decide +kernel
theorem dd_X12_init_110 : decode cX12_init 110 = .ok (.putfield 133, 3) := by decide +kernel
theorem dd_X12_init_113 : decode cX12_init 113 = .ok (.aload_n 0, 1) := by decide +kernel
theorem dd_X12_init_114 : decode cX12_init 114 = .ok (.bipush 6, 2) := by decide +kernel
theorem dd_X12_init_116 : decode cX12_init 116 = .ok (.newarray .int, 2) := by decide +kernel
theorem dd_X12_init_118 : decode cX12_init 118 = .ok (.putfield 136, 3) := by decide +kernel
theorem dd_X12_init_121 : decode cX12_init 121 = .ok (.aload_n 0, 1) := by decide +kernel
theorem dd_X12_init_122 : decode cX12_init 122 = .ok (.bipush 64, 2) := by decide +kernel
theorem dd_X12_init_124 : decode cX12_init 124 = .ok (.newarray .int, 2) := by decide +kernel
theorem dd_X12_init_126 : decode cX12_init 126 = .ok (.putfield 139, 3) := by decide +kernel
theorem dd_X12_init_129 : decode cX12_init 129 = .ok (.aload_n 0, 1) := by decide +kernel
theorem dd_X12_init_130 : decode cX12_init 130 = .ok (.bipush 6, 2) := by decide +kernel
theorem dd_X12_init_132 : decode cX12_init 132 = .ok (.newarray .int, 2) := by decide +kernel
theorem dd_X12_init_134 : decode cX12_init 134 = .ok (.putfield 142, 3) := by decide +kernel
theorem dd_X12_init_137 : decode cX12_init 137 = .ok (.aload_n 0, 1) := by decide +kernel
theorem dd_X12_init_138 : decode cX12_init 138 = .ok (.iconst (-1), 1) := by decide +kernel
theorem dd_X12_init_139 : decode cX12_init 139 = .ok (.putfield 145, 3) := by decide +kernel
theorem dd_X12_init_142 : decode cX12_init 142 = .ok (.aload_n 0, 1) := by decide +kernel
theorem dd_X12_init_143 : decode cX12_init 143 = .ok (.bipush 6, 2) := by decide +kernel
theorem dd_X12_init_145 : decode cX12_init 145 = .ok (.newarray .int, 2) := by decide +kernel
theorem dd_X12_init_147 : decode cX12_init 147 = .ok (.putfield 148, 3) := by decide +kernel
theorem dd_X12_init_150 : decode cX12_init 150 = .ok (.aload_n 0, 1) := by decide +kernel
theorem dd_X12_init_151 : decode cX12_init 151 = .ok (.bipush 36, 2) := by decide +kernel
theorem dd_X12_init_153 : decode cX12_init 153 = .ok (.newarray .int, 2) := by decide +kernel
theorem dd_X12_init_155 : decode cX12_init 155 = .ok (.putfield 151, 3) := by decide +kernel
theorem dd_X12_init_158 : decode cX12_init 158 = .ok (.aload_n 0, 1) := by decide +kernel
theorem dd_X12_init_159 : decode cX12_init 159 = .ok (.sipush 847, 3) := by decide +kernel
theorem dd_X12_init_162 : decode cX12_init 162 = .ok (.newarray .boolean, 2) := by decide +kernel
theorem dd_X12_init_164 : decode cX12_init 164 = .ok (.putfield 154, 3) := by decide +kernel
theorem dd_X12_init_167 : decode cX12_init 167 = .ok (.aload_n 0, 1) := by decide +kernel
theorem dd_X12_init_168 : decode cX12_init 168 = .ok (.bipush 6, 2) := by decide +kernel
theorem dd_X12_init_170 : decode cX12_init 170 = .ok (.newarray .int, 2) := by decide +kernel
theorem dd_X12_init_172 : decode cX12_init 172 = .ok (.putfield 157, 3) := by decide +kernel
theorem dd_X12_init_175 : decode cX12_init 175 = .ok (.aload_n 0, 1) := by decide +kernel
theorem dd_X12_init_176 : decode cX12_init 176 = .ok (.bipush 64, 2) := by decide +kernel
theorem dd_X12_init_178 : decode cX12_init 178 = .ok (.newarray .int, 2) := by decide +kernel
theorem dd_X12_init_180 : decode cX12_init 180 = .ok (.putfield 160, 3) := by decide +kernel
theorem dd_X12_init_183 : decode cX12_init 183 = .ok (.aload_n 0, 1) := by decide +kernel
theorem dd_X12_init_184 : decode cX12_init 184 = .ok (.sipush 160, 3) := by decide +kernel
theorem dd_X12_init_187 : decode cX12_init 187 = .ok (.newarray .int, 2) := by decide +kernel
theorem dd_X12_init_189 : decode cX12_init 189 = .ok (.putfield 163, 3) := by decide +kernel
theorem dd_X12_init_192 : decode cX12_init 192 = .ok (.aload_n 0, 1) := by decide +kernel
theorem dd_X12_init_193 : decode cX12_init 193 = .ok (.iconst 4, 1) := by decide +kernel
theorem dd_X12_init_194 : decode cX12_init 194 = .ok (.newarray .int, 2) := by decide +kernel
theorem dd_X12_init_196 : decode cX12_init 196 = .ok (.putfield 166, 3) := by decide +kernel
theorem dd_X12_init_199 : decode cX12_init 199 = .ok (.aload_n 0, 1) := by decide +kernel
theorem dd_X12_init_200 : decode cX12_init 200 = .ok (.sipush 240, 3) := by decide +kernel
theorem dd_X12_init_203 : decode cX12_init 203 = .ok (.newarray .int, 2) := by decide +kernel
theorem dd_X12_init_205 : decode cX12_init 205 = .ok (.putfield 169, 3) := by decide +kernel
theorem dd_X12_init_208 : decode cX12_init 208 = .ok (.aload_n 0, 1) := by decide +kernel
theorem dd_X12_init_209 : decode cX12_init 209 = .ok (.getfield 98, 3) := by decide +kernel
theorem dd_X12_init_212 : decode cX12_init 212 = .ok (.iconst 3, 1) := by decide +kernel
theorem dd_X12_init_213 : decode cX12_init 213 = .ok (.iconst 1, 1) := by decide +kernel
theorem dd_X12_init_214 : decode cX12_init 214 = .ok (.iastore, 1) := by decide +kernel
theorem dd_X12_init_215 : decode cX12_init 215 = .ok (.aload_n 0, 1) := by decide +kernel
theorem dd_X12_init_216 : decode cX12_init 216 = .ok (.getfield 98, 3) := by decide +kernel
theorem dd_X12_init_219 : decode cX12_init 219 = .ok (.iconst 4, 1) := by decide +kernel
theorem dd_X12_init_220 : decode cX12_init 220 = .ok (.iconst 1, 1) := by decide +kernel
theorem dd_X12_init_221 : decode cX12_init 221 = .ok (.iastore, 1) := by decide +kernel
theorem dd_X12_init_222 : decode cX12_init 222 = .ok (.return_, 1) := by decide +kernel
theorem dd_X1_init_0 : decode cX1_init 0 = .ok (.aload_n 0, 1) := by decide +kernel
theorem dd_X1_init_1 : decode cX1_init 1 = .ok (.invokespecial 3, 3) := by decide +kernel
theorem dd_X1_init_4 : decode cX1_init 4 = .ok (.aload_n 0, 1) := by decide +kernel
theorem dd_X1_init_5 : decode cX1_init 5 = .ok (.sipush 160, 3) := by decide +kernel
theorem dd_X1_init_8 : decode cX1_init 8 = .ok (.newarray .int, 2) := by decide +kernel
theorem dd_X1_init_10 : decode cX1_init 10 = .ok (.putfield 11, 3) := by decide +kernel
theorem dd_X1_init_13 : decode cX1_init 13 = .ok (.aload_n 0, 1) := by decide +kernel
theorem dd_X1_init_14 : decode cX1_init 14 = .ok (.iconst 4, 1) := by decide +kernel
theorem dd_X1_init_15 : decode cX1_init 15 = .ok (.newarray .int, 2) := by decide +kernel
theorem dd_X1_init_17 : decode cX1_init 17 = .ok (.putfield 15, 3) := by decide +kernel
theorem dd_X1_init_20 : decode cX1_init 20 = .ok (.return_, 1) := by decide +kernel
theorem dd_X2_init_0 : decode cX2_init 0 = .ok (.aload_n 0, 1) := by decide +kernel
theorem dd_X2_init_1 : decode cX2_init 1 = .ok (.invokespecial 3, 3) := by decide +kernel
theorem dd_X2_init_4 : decode cX2_init 4 = .ok (.aload_n 0, 1) := by decide +kernel
theorem dd_X2_init_5 : decode cX2_init 5 = .ok (.iconst 3, 1) := by decide +kernel
theorem dd_X2_init_6 : decode cX2_init 6 = .ok (.newarray .int, 2) := by decide +kernel
theorem dd_X2_init_8 : decode cX2_init 8 = .ok (.putfield 11, 3) := by decide +kernel
theorem dd_X2_init_11 : decode cX2_init 11 = .ok (.aload_n 0, 1) := by decide +kernel
theorem dd_X2_init_12 : decode cX2_init 12 = .ok (.bipush 18, 2) := by decide +kernel
theorem dd_X2_init_14 : decode cX2_init 14 = .ok (.newarray .long, 2) := by decide +kernel
theorem dd_X2_init_16 : decode cX2_init 16 = .ok (.putfield 15, 3) := by decide +kernel
theorem dd_X2_init_19 : decode cX2_init 19 = .ok (.aload_n 0, 1) := by decide +kernel
theorem dd_X2_init_20 : decode cX2_init 20 = .ok (.bipush 6, 2) := by decide +kernel
theorem dd_X2_init_22 : decode cX2_init 22 = .ok (.newarray .int, 2) := by decide +kernel
theorem dd_X2_init_24 : decode cX2_init 24 = .ok (.putfield 19, 3) := by decide +kernel
theorem dd_X2_init_27 : decode cX2_init 27 = .ok (.aload_n 0, 1) := by decide +kernel
theorem dd_X2_init_28 : decode cX2_init 28 = .ok (.bipush 6, 2) := by decide +kernel
theorem dd_X2_init_30 : decode cX2_init 30 = .ok (.newarray .int, 2) := by decide +kernel
theorem dd_X2_init_32 : decode cX2_init 32 = .ok (.putfield 22, 3) := by decide +kernel
theorem dd_X2_init_35 : decode cX2_init 35 = .ok (.aload_n 0, 1) := by decide +kernel
theorem dd_X2_init_36 : decode cX2_init 36 = .ok (.bipush 36, 2) := by decide +kernel
theorem dd_X2_init_38 : decode cX2_init 38 = .ok (.newarray .int, 2) := by decide +kernel
theorem dd_X2_init_40 : decode cX2_init 40 = .ok (.putfield 25, 3) := by decide +kernel
theorem dd_X2_init_43 : decode cX2_init 43 = .ok (.aload_n 0, 1) := by decide +kernel
theorem dd_X2_init_44 : decode cX2_init 44 = .ok (.bipush 6, 2) := by decide +kernel
theorem dd_X2_init_46 : decode cX2_init 46 = .ok (.newarray .int, 2) := by decide +kernel
theorem dd_X2_init_48 : decode cX2_init 48 = .ok (.putfield 28, 3) := by decide +kernel
theorem dd_X2_init_51 : decode cX2_init 51 = .ok (.aload_n 0, 1) := by decide +kernel
theorem dd_X2_init_52 : decode cX2_init 52 = .ok (.new 31, 3) := by decide +kernel
theorem dd_X2_init_55 : decode cX2_init 55 = .ok (.dup, 1) := by decide +kernel
theorem dd_X2_init_56 : decode cX2_init 56 = .ok (.invokespecial 33, 3) := by decide +kernel
theorem dd_X2_init_59 : decode cX2_init 59 = .ok (.putfield 34, 3) := by decide +kernel
theorem dd_X2_init_62 : decode cX2_init 62 = .ok (.aload_n 0, 1) := by decide +kernel
theorem dd_X2_init_63 : decode cX2_init 63 = .ok (.new 38, 3) := by decide +kernel
theorem dd_X2_init_66 : decode cX2_init 66 = .ok (.dup, 1) := by decide +kernel
theorem dd_X2_init_67 : decode cX2_init 67 = .ok (.invokespecial 40, 3) := by decide +kernel
theorem dd_X2_init_70 : decode cX2_init 70 = .ok (.putfield 41, 3) := by decide +kernel
theorem dd_X2_init_73 : decode cX2_init 73 = .ok (.aload_n 0, 1) := by decide +kernel
theorem dd_X2_init_74 : decode cX2_init 74 = .ok (.iconst 1, 1) := by decide +kernel
theorem dd_X2_init_75 : decode cX2_init 75 = .ok (.putfield 45, 3) := by decide +kernel
theorem dd_X2_init_78 : decode cX2_init 78 = .ok (.aload_n 0, 1) := by decide +kernel
theorem dd_X2_init_79 : decode cX2_init 79 = .ok (.iconst 1, 1) := by decide +kernel
theorem dd_X2_init_80 : decode cX2_init 80 = .ok (.putfield 49, 3) := by decide +kernel
theorem dd_X2_init_83 : decode cX2_init 83 = .ok (.return_, 1) := by decide +kernel
theorem dd_X3_init_0 : decode cX3_init 0 = .ok (.aload_n 0, 1) := by decide +kernel
theorem dd_X3_init_1 : decode cX3_init 1 = .ok (.invokespecial 3, 3) := by decide +kernel
theorem dd_X3_init_4 : decode cX3_init 4 = .ok (.aload_n 0, 1) := by decide +kernel
theorem dd_X3_init_5 : decode cX3_init 5 = .ok (.bipush 6, 2) := by decide +kernel
theorem dd_X3_init_7 : decode cX3_init 7 = .ok (.newarray .int, 2) := by decide +kernel
theorem dd_X3_init_9 : decode cX3_init 9 = .ok (.putfield 9, 3) := by decide +kernel
theorem dd_X3_init_12 : decode cX3_init 12 = .ok (.aload_n 0, 1) := by decide +kernel
theorem dd_X3_init_13 : decode cX3_init 13 = .ok (.iconst (-1), 1) := by decide +kernel
theorem dd_X3_init_14 : decode cX3_init 14 = .ok (.putfield 15, 3) := by decide +kernel
theorem dd_X3_init_17 : decode cX3_init 17 = .ok (.return_, 1) := by decide +kernel
theorem dd_X4_init_0 : decode cX4_init 0 = .ok (.aload_n 0, 1) := by decide +kernel
theorem dd_X4_init_1 : decode cX4_init 1 = .ok (.invokespecial 3, 3) := by decide +kernel
theorem dd_X4_init_4 : decode cX4_init 4 = .ok (.aload_n 0, 1) := by decide +kernel
theorem dd_X4_init_5 : decode cX4_init 5 = .ok (.bipush 8, 2) := by decide +kernel
theorem dd_X4_init_7 : decode cX4_init 7 = .ok (.anewarray 11, 3) := by decide +kernel
theorem dd_X4_init_10 : decode cX4_init 10 = .ok (.putfield 13, 3) := by decide +kernel
theorem dd_X4_init_13 : decode cX4_init 13 = .ok (.iconst 0, 1) := by decide +kernel
theorem dd_X4_init_14 : decode cX4_init 14 = .ok (.istore_n 1, 1) := by decide +kernel
theorem dd_X4_init_15 : decode cX4_init 15 = .ok (.iload_n 1, 1) := by decide +kernel
theorem dd_X4_init_16 : decode cX4_init 16 = .ok (.bipush 8, 2) := by decide +kernel
theorem dd_X4_init_18 : decode cX4_init 18 = .ok (.if_icmp .ge 22, 3) := by decide +kernel
theorem dd_X4_init_21 : decode cX4_init 21 = .ok (.aload_n 0, 1) := by decide +kernel
theorem dd_X4_init_22 : decode cX4_init 22 = .ok (.getfield 13, 3) := by decide +kernel
theorem dd_X4_init_25 : decode cX4_init 25 = .ok (.iload_n 1, 1) := by decide +kernel
theorem dd_X4_init_26 : decode cX4_init 26 = .ok (.new 11, 3) := by decide +kernel
theorem dd_X4_init_29 : decode cX4_init 29 = .ok (.dup, 1) := by decide +kernel
theorem dd_X4_init_30 : decode cX4_init 30 = .ok (.invokespecial 17, 3) := by decide +kernel
theorem dd_X4_init_33 : decode cX4_init 33 = .ok (.aastore, 1) := by decide +kernel
theorem dd_X4_init_34 : decode cX4_init 34 = .ok (.iinc 1 1, 3) := by decide +kernel
theorem dd_X4_init_37 : decode cX4_init 37 = .ok (.goto (-22), 3) := by decide +kernel
theorem dd_X4_init_40 : decode cX4_init 40 = .ok (.return_, 1) := by decide +kernel
theorem dd_X5_init_0 : decode cX5_init 0 = .ok (.aload_n 0, 1) := by decide +kernel
theorem dd_X5_init_1 : decode cX5_init 1 = .ok (.invokespecial 5, 3) := by decide +kernel
theorem dd_X5_init_4 : decode cX5_init 4 = .ok (.aload_n 0, 1) := by decide +kernel
theorem dd_X5_init_5 : decode cX5_init 5 = .ok (.sipush 700, 3) := by decide +kernel
theorem dd_X5_init_8 : decode cX5_init 8 = .ok (.newarray .int, 2) := by decide +kernel
theorem dd_X5_init_10 : decode cX5_init 10 = .ok (.putfield 11, 3) := by decide +kernel
theorem dd_X5_init_13 : decode cX5_init 13 = .ok (.aload_n 0, 1) := by decide +kernel
theorem dd_X5_init_14 : decode cX5_init 14 = .ok (.bipush 126, 2) := by decide +kernel
theorem dd_X5_init_16 : decode cX5_init 16 = .ok (.newarray .int, 2) := by decide +kernel
theorem dd_X5_init_18 : decode cX5_init 18 = .ok (.putfield 15, 3) := by decide +kernel
theorem dd_X5_init_21 : decode cX5_init 21 = .ok (.aload_n 0, 1) := by decide +kernel
theorem dd_X5_init_22 : decode cX5_init 22 = .ok (.bipush 6, 2) := by decide +kernel
theorem dd_X5_init_24 : decode cX5_init 24 = .ok (.newarray .int, 2) := by decide +kernel
theorem dd_X5_init_26 : decode cX5_init 26 = .ok (.putfield 18, 3) := by decide +kernel
theorem dd_X5_init_29 : decode cX5_init 29 = .ok (.return_, 1) := by decide +kernel
theorem dd_X6_init_0 : decode cX6_init 0 = .ok (.aload_n 0, 1) := by decide +kernel
theorem dd_X6_init_1 : decode cX6_init 1 = .ok (.invokespecial 3, 3) := by decide +kernel
theorem dd_X6_init_4 : decode cX6_init 4 = .ok (.aload_n 0, 1) := by decide +kernel
theorem dd_X6_init_5 : decode cX6_init 5 = .ok (.bipush 6, 2) := by decide +kernel
theorem dd_X6_init_7 : decode cX6_init 7 = .ok (.newarray .int, 2) := by decide +kernel
theorem dd_X6_init_9 : decode cX6_init 9 = .ok (.putfield 9, 3) := by decide +kernel
theorem dd_X6_init_12 : decode cX6_init 12 = .ok (.return_, 1) := by decide +kernel
theorem dd_X7_init_0 : decode cX7_init 0 = .ok (.aload_n 0, 1) := by decide +kernel
theorem dd_X7_init_1 : decode cX7_init 1 = .ok (.invokespecial 5, 3) := by decide +kernel
theorem dd_X7_init_4 : decode cX7_init 4 = .ok (.aload_n 0, 1) := by decide +kernel
theorem dd_X7_init_5 : decode cX7_init 5 = .ok (.bipush 40, 2) := by decide +kernel
theorem dd_X7_init_7 : decode cX7_init 7 = .ok (.newarray .int, 2) := by decide +kernel
theorem dd_X7_init_9 : decode cX7_init 9 = .ok (.putfield 11, 3) := by decide +kernel
theorem dd_X7_init_12 : decode cX7_init 12 = .ok (.aload_n 0, 1) := by decide +kernel
theorem dd_X7_init_13 : decode cX7_init 13 = .ok (.bipush 20, 2) := by decide +kernel
theorem dd_X7_init_15 : decode cX7_init 15 = .ok (.newarray .int, 2) := by decide +kernel
theorem dd_X7_init_17 : decode cX7_init 17 = .ok (.putfield 15, 3) := by decide +kernel
theorem dd_X7_init_20 : decode cX7_init 20 = .ok (.return_, 1) := by decide +kernel
theorem dd_X8_init_0 : decode cX8_init 0 = .ok (.aload_n 0, 1) := by decide +kernel
theorem dd_X8_init_1 : decode cX8_init 1 = .ok (.invokespecial 3, 3) := by decide +kernel
theorem dd_X8_init_4 : decode cX8_init 4 = .ok (.aload_n 0, 1) := by decide +kernel
theorem dd_X8_init_5 : decode cX8_init 5 = .ok (.bipush 6, 2) := by decide +kernel
theorem dd_X8_init_7 : decode cX8_init 7 = .ok (.newarray .int, 2) := by decide +kernel
theorem dd_X8_init_9 : decode cX8_init 9 = .ok (.putfield 9, 3) := by decide +kernel
theorem dd_X8_init_12 : decode cX8_init 12 = .ok (.aload_n 0, 1) := by decide +kernel
theorem dd_X8_init_13 : decode cX8_init 13 = .ok (.bipush 6, 2) := by decide +kernel
theorem dd_X8_init_15 : decode cX8_init 15 = .ok (.newarray .int, 2) := by decide +kernel
theorem dd_X8_init_17 : decode cX8_init 17 = .ok (.putfield 15, 3) := by decide +kernel
theorem dd_X8_init_20 : decode cX8_init 20 = .ok (.aload_n 0, 1) := by decide +kernel
theorem dd_X8_init_21 : decode cX8_init 21 = .ok (.bipush 6, 2) := by decide +kernel
theorem dd_X8_init_23 : decode cX8_init 23 = .ok (.newarray .int, 2) := by decide +kernel
theorem dd_X8_init_25 : decode cX8_init 25 = .ok (.putfield 18, 3) := by decide +kernel
theorem dd_X8_init_28 : decode cX8_init 28 = .ok (.aload_n 0, 1) := by decide +kernel
theorem dd_X8_init_29 : decode cX8_init 29 = .ok (.bipush 6, 2) := by decide +kernel
theorem dd_X8_init_31 : decode cX8_init 31 = .ok (.newarray .int, 2) := by decide +kernel
theorem dd_X8_init_33 : decode cX8_init 33 = .ok (.putfield 21, 3) := by decide +kernel
theorem dd_X8_init_36 : decode cX8_init 36 = .ok (.aload_n 0, 1) := by decide +kernel
theorem dd_X8_init_37 : decode cX8_init 37 = .ok (.bipush 36, 2) := by decide +kernel
theorem dd_X8_init_39 : decode cX8_init 39 = .ok (.newarray .int, 2) := by decide +kernel
theorem dd_X8_init_41 : decode cX8_init 41 = .ok (.putfield 24, 3) := by decide +kernel
theorem dd_X8_init_44 : decode cX8_init 44 = .ok (.aload_n 0, 1) := by decide +kernel
theorem dd_X8_init_45 : decode cX8_init 45 = .ok (.bipush 36, 2) := by decide +kernel
theorem dd_X8_init_47 : decode cX8_init 47 = .ok (.newarray .int, 2) := by decide +kernel
theorem dd_X8_init_49 : decode cX8_init 49 = .ok (.putfield 27, 3) := by decide +kernel
theorem dd_X8_init_52 : decode cX8_init 52 = .ok (.aload_n 0, 1) := by decide +kernel
theorem dd_X8_init_53 : decode cX8_init 53 = .ok (.bipush 36, 2) := by decide +kernel
theorem dd_X8_init_55 : decode cX8_init 55 = .ok (.newarray .int, 2) := by decide +kernel
theorem dd_X8_init_57 : decode cX8_init 57 = .ok (.putfield 30, 3) := by decide +kernel
theorem dd_X8_init_60 : decode cX8_init 60 = .ok (.return_, 1) := by decide +kernel
theorem dd_X9_init_0 : decode cX9_init 0 = .ok (.aload_n 0, 1) := by decide +kernel
theorem dd_X9_init_1 : decode cX9_init 1 = .ok (.invokespecial 3, 3) := by decide +kernel
theorem dd_X9_init_4 : decode cX9_init 4 = .ok (.aload_n 0, 1) := by decide +kernel
theorem dd_X9_init_5 : decode cX9_init 5 = .ok (.bipush 36, 2) := by decide +kernel
theorem dd_X9_init_7 : decode cX9_init 7 = .ok (.newarray .int, 2) := by decide +kernel
theorem dd_X9_init_9 : decode cX9_init 9 = .ok (.putfield 9, 3) := by decide +kernel
theorem dd_X9_init_12 : decode cX9_init 12 = .ok (.aload_n 0, 1) := by decide +kernel
theorem dd_X9_init_13 : decode cX9_init 13 = .ok (.sipush 847, 3) := by decide +kernel
theorem dd_X9_init_16 : decode cX9_init 16 = .ok (.newarray .boolean, 2) := by decide +kernel
theorem dd_X9_init_18 : decode cX9_init 18 = .ok (.putfield 15, 3) := by decide +kernel
theorem dd_X9_init_21 : decode cX9_init 21 = .ok (.aload_n 0, 1) := by decide +kernel
theorem dd_X9_init_22 : decode cX9_init 22 = .ok (.bipush 6, 2) := by decide +kernel
theorem dd_X9_init_24 : decode cX9_init 24 = .ok (.newarray .int, 2) := by decide +kernel
theorem dd_X9_init_26 : decode cX9_init 26 = .ok (.putfield 19, 3) := by decide +kernel
theorem dd_X9_init_29 : decode cX9_init 29 = .ok (.return_, 1) := by decide +kernel
theorem dd_L_law_0 : decode cL_law 0 = .ok (.new 8, 3) := by decide +kernel
theorem dd_L_law_3 : decode cL_law 3 = .ok (.dup, 1) := by decide +kernel
theorem dd_L_law_4 : decode cL_law 4 = .ok (.invokespecial 15, 3) := by decide +kernel
theorem dd_L_law_7 : decode cL_law 7 = .ok (.astore_n 1, 1) := by decide +kernel
theorem dd_L_law_8 : decode cL_law 8 = .ok (.new 16, 3) := by decide +kernel
theorem dd_L_law_11 : decode cL_law 11 = .ok (.dup, 1) := by decide +kernel
theorem dd_L_law_12 : decode cL_law 12 = .ok (.invokespecial 18, 3) := by decide +kernel
theorem dd_L_law_15 : decode cL_law 15 = .ok (.astore_n 2, 1) := by decide +kernel
theorem dd_L_law_16 : decode cL_law 16 = .ok (.iconst 1, 1) := by decide +kernel
theorem dd_L_law_17 : decode cL_law 17 = .ok (.newarray .long, 2) := by decide +kernel
theorem dd_L_law_19 : decode cL_law 19 = .ok (.astore_n 3, 1) := by decide +kernel
theorem dd_L_law_20 : decode cL_law 20 = .ok (.iconst 0, 1) := by decide +kernel
theorem dd_L_law_21 : decode cL_law 21 = .ok (.istore 4, 2) := by decide +kernel
theorem dd_L_man_0 : decode cL_man 0 = .ok (.aload_n 3, 1) := by decide +kernel
theorem dd_L_man_1 : decode cL_man 1 = .ok (.iconst 0, 1) := by decide +kernel
theorem dd_L_man_2 : decode cL_man 2 = .ok (.aload_n 0, 1) := by decide +kernel
theorem dd_L_man_3 : decode cL_man 3 = .ok (.iload_n 1, 1) := by decide +kernel
theorem dd_L_man_4 : decode cL_man 4 = .ok (.iload_n 2, 1) := by decide +kernel
theorem dd_L_man_5 : decode cL_man 5 = .ok (.invokevirtual 7, 3) := by decide +kernel
theorem dd_L_man_8 : decode cL_man 8 = .ok (.i2l, 1) := by decide +kernel
theorem dd_L_man_9 : decode cL_man 9 = .ok (.lastore, 1) := by decide +kernel
theorem dd_L_man_10 : decode cL_man 10 = .ok (.goto 7, 3) := by decide +kernel
theorem dd_L_man_13 : decode cL_man 13 = .ok (.astore 4, 2) := by decide +kernel
theorem dd_L_man_15 : decode cL_man 15 = .ok (.iconst 1, 1) := by decide +kernel
theorem dd_L_man_16 : decode cL_man 16 = .ok (.ireturn, 1) := by decide +kernel
theorem dd_L_man_17 : decode cL_man 17 = .ok (.iconst 0, 1) := by decide +kernel
theorem dd_L_man_18 : decode cL_man 18 = .ok (.ireturn, 1) := by decide +kernel
theorem dd_X11_man_12 : decode cX11_man 12 = .ok (.new 142, 3) := by decide +kernel
theorem dd_X11_man_15 : decode cX11_man 15 = .ok (.dup, 1) := by decide +kernel
theorem dd_X11_man_16 : decode cX11_man 16 = .ok (.invokespecial 144, 3) := by decide +kernel
theorem dd_X11_man_19 : decode cX11_man 19 = .ok (.athrow, 1) := by decide +kernel
theorem dd_X11_man_147 : decode cX11_man 147 = .ok (.new 142, 3) := by decide +kernel
theorem dd_X11_man_150 : decode cX11_man 150 = .ok (.dup, 1) := by decide +kernel
theorem dd_X11_man_151 : decode cX11_man 151 = .ok (.invokespecial 144, 3) := by decide +kernel
theorem dd_X11_man_154 : decode cX11_man 154 = .ok (.athrow, 1) := by decide +kernel
theorem dd_L_law_362 : decode cL_law 362 = .ok (.invokestatic 38, 3) := by decide +kernel
