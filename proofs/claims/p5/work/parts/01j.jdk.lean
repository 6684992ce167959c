def y_jlen : MethodName := ⟨"java/lang/String", "length", "()I"⟩
abbrev c_jlen : ByteArray := prog_22_method_54_code
theorem qk_jlen : Cond.code y_jlen c_jlen 1 (some .int) ∈ gtbl := gt1 44 (by decide +kernel) (by decide +kernel)
theorem dj_jlen_0 : decode c_jlen 0 = .ok (.aload_n 0, 1) := by decide +kernel
theorem dj_jlen_1 : decode c_jlen 1 = .ok (.getfield 9, 3) := by decide +kernel
theorem qf_jlen_9 : Cond.fieldLink "java/lang/String" 9 "java/lang/String" "value" "[B" ∈ gtbl := gt8 213 (by decide +kernel) (by decide +kernel)
theorem dj_jlen_4 : decode c_jlen 4 = .ok (.arraylength, 1) := by decide +kernel
theorem dj_jlen_5 : decode c_jlen 5 = .ok (.aload_n 0, 1) := by decide +kernel
theorem dj_jlen_6 : decode c_jlen 6 = .ok (.invokevirtual 335, 3) := by decide +kernel
theorem qm_jlen_335 : Cond.methodLink "java/lang/String" 335 ⟨"java/lang/String", "coder", "()B"⟩ ∈ gtbl := gt1 45 (by decide +kernel) (by decide +kernel)
theorem dj_jlen_9 : decode c_jlen 9 = .ok (.ishr, 1) := by decide +kernel
theorem dj_jlen_10 : decode c_jlen 10 = .ok (.ireturn, 1) := by decide +kernel
def y_jcod : MethodName := ⟨"java/lang/String", "coder", "()B"⟩
abbrev c_jcod : ByteArray := prog_22_method_152_code
theorem qk_jcod : Cond.code y_jcod c_jcod 1 (some .byte) ∈ gtbl := gt1 48 (by decide +kernel) (by decide +kernel)
theorem dj_jcod_0 : decode c_jcod 0 = .ok (.getstatic 38, 3) := by decide +kernel
theorem qf_jcod_38 : Cond.fieldLink "java/lang/String" 38 "java/lang/String" "COMPACT_STRINGS" "Z" ∈ gtbl := gt1 49 (by decide +kernel) (by decide +kernel)
theorem dj_jcod_3 : decode c_jcod 3 = .ok (.ifCond .eq 10, 3) := by decide +kernel
theorem dj_jcod_6 : decode c_jcod 6 = .ok (.aload_n 0, 1) := by decide +kernel
theorem dj_jcod_7 : decode c_jcod 7 = .ok (.getfield 15, 3) := by decide +kernel
theorem qf_jcod_15 : Cond.fieldLink "java/lang/String" 15 "java/lang/String" "coder" "B" ∈ gtbl := gt8 214 (by decide +kernel) (by decide +kernel)
theorem dj_jcod_10 : decode c_jcod 10 = .ok (.goto 4, 3) := by decide +kernel
theorem dj_jcod_13 : decode c_jcod 13 = .ok (.iconst 1, 1) := by decide +kernel
theorem dj_jcod_14 : decode c_jcod 14 = .ok (.ireturn, 1) := by decide +kernel
def y_jcha : MethodName := ⟨"java/lang/String", "charAt", "(I)C"⟩
abbrev c_jcha : ByteArray := prog_22_method_56_code
theorem qk_jcha : Cond.code y_jcha c_jcha 2 (some .char) ∈ gtbl := gt1 54 (by decide +kernel) (by decide +kernel)
theorem dj_jcha_0 : decode c_jcha 0 = .ok (.aload_n 0, 1) := by decide +kernel
theorem dj_jcha_1 : decode c_jcha 1 = .ok (.invokevirtual 492, 3) := by decide +kernel
theorem qm_jcha_492 : Cond.methodLink "java/lang/String" 492 ⟨"java/lang/String", "isLatin1", "()Z"⟩ ∈ gtbl := gt1 55 (by decide +kernel) (by decide +kernel)
theorem dj_jcha_4 : decode c_jcha 4 = .ok (.ifCond .eq 12, 3) := by decide +kernel
theorem dj_jcha_7 : decode c_jcha 7 = .ok (.aload_n 0, 1) := by decide +kernel
theorem dj_jcha_8 : decode c_jcha 8 = .ok (.getfield 9, 3) := by decide +kernel
theorem qf_jcha_9 : Cond.fieldLink "java/lang/String" 9 "java/lang/String" "value" "[B" ∈ gtbl := gt8 213 (by decide +kernel) (by decide +kernel)
theorem dj_jcha_11 : decode c_jcha 11 = .ok (.iload_n 1, 1) := by decide +kernel
theorem dj_jcha_12 : decode c_jcha 12 = .ok (.invokestatic 495, 3) := by decide +kernel
theorem qm_jcha_495 : Cond.methodLink "java/lang/String" 495 ⟨"java/lang/StringLatin1", "charAt", "([BI)C"⟩ ∈ gtbl := gt1 59 (by decide +kernel) (by decide +kernel)
theorem dj_jcha_15 : decode c_jcha 15 = .ok (.ireturn, 1) := by decide +kernel
theorem dj_jcha_16 : decode c_jcha 16 = .ok (.aload_n 0, 1) := by decide +kernel
theorem dj_jcha_17 : decode c_jcha 17 = .ok (.getfield 9, 3) := by decide +kernel
theorem dj_jcha_20 : decode c_jcha 20 = .ok (.iload_n 1, 1) := by decide +kernel
theorem dj_jcha_21 : decode c_jcha 21 = .ok (.invokestatic 498, 3) := by decide +kernel
theorem qm_jcha_498 : Cond.methodLink "java/lang/String" 498 ⟨"java/lang/StringUTF16", "charAt", "([BI)C"⟩ ∈ gtbl := gt1 70 (by decide +kernel) (by decide +kernel)
theorem dj_jcha_24 : decode c_jcha 24 = .ok (.ireturn, 1) := by decide +kernel
def y_jlat : MethodName := ⟨"java/lang/String", "isLatin1", "()Z"⟩
abbrev c_jlat : ByteArray := prog_22_method_154_code
theorem qk_jlat : Cond.code y_jlat c_jlat 1 (some .boolean) ∈ gtbl := gt1 58 (by decide +kernel) (by decide +kernel)
theorem dj_jlat_0 : decode c_jlat 0 = .ok (.getstatic 38, 3) := by decide +kernel
theorem qf_jlat_38 : Cond.fieldLink "java/lang/String" 38 "java/lang/String" "COMPACT_STRINGS" "Z" ∈ gtbl := gt1 49 (by decide +kernel) (by decide +kernel)
theorem dj_jlat_3 : decode c_jlat 3 = .ok (.ifCond .eq 14, 3) := by decide +kernel
theorem dj_jlat_6 : decode c_jlat 6 = .ok (.aload_n 0, 1) := by decide +kernel
theorem dj_jlat_7 : decode c_jlat 7 = .ok (.getfield 15, 3) := by decide +kernel
theorem qf_jlat_15 : Cond.fieldLink "java/lang/String" 15 "java/lang/String" "coder" "B" ∈ gtbl := gt8 214 (by decide +kernel) (by decide +kernel)
theorem dj_jlat_10 : decode c_jlat 10 = .ok (.ifCond .ne 7, 3) := by decide +kernel
theorem dj_jlat_13 : decode c_jlat 13 = .ok (.iconst 1, 1) := by decide +kernel
theorem dj_jlat_14 : decode c_jlat 14 = .ok (.goto 4, 3) := by decide +kernel
theorem dj_jlat_17 : decode c_jlat 17 = .ok (.iconst 0, 1) := by decide +kernel
theorem dj_jlat_18 : decode c_jlat 18 = .ok (.ireturn, 1) := by decide +kernel
def y_jlch : MethodName := ⟨"java/lang/StringLatin1", "charAt", "([BI)C"⟩
abbrev c_jlch : ByteArray := prog_23_method_2_code
theorem qk_jlch : Cond.code y_jlch c_jlch 2 (some .char) ∈ gtbl := gt1 61 (by decide +kernel) (by decide +kernel)
theorem dj_jlch_0 : decode c_jlch 0 = .ok (.iload_n 1, 1) := by decide +kernel
theorem dj_jlch_1 : decode c_jlch 1 = .ok (.aload_n 0, 1) := by decide +kernel
theorem dj_jlch_2 : decode c_jlch 2 = .ok (.arraylength, 1) := by decide +kernel
theorem dj_jlch_3 : decode c_jlch 3 = .ok (.invokestatic 9, 3) := by decide +kernel
theorem qm_jlch_9 : Cond.methodLink "java/lang/StringLatin1" 9 ⟨"java/lang/String", "checkIndex", "(II)V"⟩ ∈ gtbl := gt1 62 (by decide +kernel) (by decide +kernel)
theorem dj_jlch_6 : decode c_jlch 6 = .ok (.aload_n 0, 1) := by decide +kernel
theorem dj_jlch_7 : decode c_jlch 7 = .ok (.iload_n 1, 1) := by decide +kernel
theorem dj_jlch_8 : decode c_jlch 8 = .ok (.baload, 1) := by decide +kernel
theorem dj_jlch_9 : decode c_jlch 9 = .ok (.sipush 255, 3) := by decide +kernel
theorem dj_jlch_12 : decode c_jlch 12 = .ok (.iand, 1) := by decide +kernel
theorem dj_jlch_13 : decode c_jlch 13 = .ok (.i2c, 1) := by decide +kernel
theorem dj_jlch_14 : decode c_jlch 14 = .ok (.ireturn, 1) := by decide +kernel
def y_jchk : MethodName := ⟨"java/lang/String", "checkIndex", "(II)V"⟩
abbrev c_jchk : ByteArray := prog_22_method_155_code
theorem qk_jchk : Cond.code y_jchk c_jchk 2 none ∈ gtbl := gt1 64 (by decide +kernel) (by decide +kernel)
theorem dj_jchk_0 : decode c_jchk 0 = .ok (.iload_n 0, 1) := by decide +kernel
theorem dj_jchk_1 : decode c_jchk 1 = .ok (.iload_n 1, 1) := by decide +kernel
theorem dj_jchk_2 : decode c_jchk 2 = .ok (.getstatic 1053, 3) := by decide +kernel
theorem qf_jchk_1053 : Cond.fieldLink "java/lang/String" 1053 "jdk/internal/util/Preconditions" "SIOOBE_FORMATTER" "Ljava/util/function/BiFunction;" ∈ gtbl := gt1 65 (by decide +kernel) (by decide +kernel)
theorem dj_jchk_5 : decode c_jchk 5 = .ok (.invokestatic 1059, 3) := by decide +kernel
theorem qm_jchk_1059 : Cond.methodLink "java/lang/String" 1059 ⟨"jdk/internal/util/Preconditions", "checkIndex", "(IILjava/util/function/BiFunction;)I"⟩ ∈ gtbl := gt1 67 (by decide +kernel) (by decide +kernel)
theorem dj_jchk_8 : decode c_jchk 8 = .ok (.pop, 1) := by decide +kernel
theorem dj_jchk_9 : decode c_jchk 9 = .ok (.return_, 1) := by decide +kernel
def y_jpre : MethodName := ⟨"jdk/internal/util/Preconditions", "checkIndex", "(IILjava/util/function/BiFunction;)I"⟩
abbrev c_jpre : ByteArray := prog_31_method_11_code
theorem qk_jpre : Cond.code y_jpre c_jpre 3 (some .int) ∈ gtbl := gt1 69 (by decide +kernel) (by decide +kernel)
theorem dj_jpre_0 : decode c_jpre 0 = .ok (.iload_n 0, 1) := by decide +kernel
theorem dj_jpre_1 : decode c_jpre 1 = .ok (.ifCond .lt 8, 3) := by decide +kernel
theorem dj_jpre_4 : decode c_jpre 4 = .ok (.iload_n 0, 1) := by decide +kernel
theorem dj_jpre_5 : decode c_jpre 5 = .ok (.iload_n 1, 1) := by decide +kernel
theorem dj_jpre_6 : decode c_jpre 6 = .ok (.if_icmp .lt 10, 3) := by decide +kernel
theorem dj_jpre_9 : decode c_jpre 9 = .ok (.aload_n 2, 1) := by decide +kernel
theorem dj_jpre_10 : decode c_jpre 10 = .ok (.iload_n 0, 1) := by decide +kernel
theorem dj_jpre_11 : decode c_jpre 11 = .ok (.iload_n 1, 1) := by decide +kernel
theorem dj_jpre_12 : decode c_jpre 12 = .ok (.invokestatic 95, 3) := by decide +kernel
theorem dj_jpre_15 : decode c_jpre 15 = .ok (.athrow, 1) := by decide +kernel
theorem dj_jpre_16 : decode c_jpre 16 = .ok (.iload_n 0, 1) := by decide +kernel
theorem dj_jpre_17 : decode c_jpre 17 = .ok (.ireturn, 1) := by decide +kernel
theorem qv_jlen : Cond.instanceMethod y_jlen ∈ gtbl := gt1 42 (by decide +kernel) (by decide +kernel)
theorem qe_jlen : Cond.selects "java/lang/String" y_jlen y_jlen ∈ gtbl := gt1 43 (by decide +kernel) (by decide +kernel)
theorem qv_jcod : Cond.instanceMethod y_jcod ∈ gtbl := gt1 46 (by decide +kernel) (by decide +kernel)
theorem qe_jcod : Cond.selects "java/lang/String" y_jcod y_jcod ∈ gtbl := gt1 47 (by decide +kernel) (by decide +kernel)
theorem qv_jcha : Cond.instanceMethod y_jcha ∈ gtbl := gt1 52 (by decide +kernel) (by decide +kernel)
theorem qe_jcha : Cond.selects "java/lang/String" y_jcha y_jcha ∈ gtbl := gt1 53 (by decide +kernel) (by decide +kernel)
theorem qv_jlat : Cond.instanceMethod y_jlat ∈ gtbl := gt1 56 (by decide +kernel) (by decide +kernel)
theorem qe_jlat : Cond.selects "java/lang/String" y_jlat y_jlat ∈ gtbl := gt1 57 (by decide +kernel) (by decide +kernel)
theorem qs_jlch : Cond.static y_jlch ∈ gtbl := gt1 60 (by decide +kernel) (by decide +kernel)
theorem qs_jchk : Cond.static y_jchk ∈ gtbl := gt1 63 (by decide +kernel) (by decide +kernel)
theorem qs_jpre : Cond.static y_jpre ∈ gtbl := gt1 68 (by decide +kernel) (by decide +kernel)
theorem qn_java_lang_String : Cond.initialized "java/lang/String" ∈ gtbl := gt1 3 (by decide +kernel) (by decide +kernel)
theorem qn_java_lang_StringLatin1 : Cond.initialized "java/lang/StringLatin1" ∈ gtbl := gt1 4 (by decide +kernel) (by decide +kernel)
theorem qn_jdk_internal_util_Preconditions : Cond.initialized "jdk/internal/util/Preconditions" ∈ gtbl := gt1 5 (by decide +kernel) (by decide +kernel)
theorem dk_0 : decode cX10_init 0 = .ok (.aload_n 0, 1) := by decide +kernel
theorem dk_1 : decode cX10_init 1 = .ok (.invokespecial 3, 3) := by decide +kernel
theorem qu_3 : Cond.methodLink "MerryDuchy$Tokens" 3 ⟨"java/lang/Object", "<init>", "()V"⟩ ∈ gtbl := gt1 39 (by decide +kernel) (by decide +kernel)
theorem dk_4 : decode cX10_init 4 = .ok (.aload_n 0, 1) := by decide +kernel
theorem dk_5 : decode cX10_init 5 = .ok (.sipush 940, 3) := by decide +kernel
theorem dk_8 : decode cX10_init 8 = .ok (.newarray .byte, 2) := by decide +kernel
theorem dk_10 : decode cX10_init 10 = .ok (.putfield 9, 3) := by decide +kernel
theorem qt_9 : Cond.fieldLink "MerryDuchy$Tokens" 9 "MerryDuchy$Tokens" "bytes" "[B" ∈ gtbl := gt1 89 (by decide +kernel) (by decide +kernel)
theorem dk_13 : decode cX10_init 13 = .ok (.aload_n 0, 1) := by decide +kernel
theorem dk_14 : decode cX10_init 14 = .ok (.bipush 24, 2) := by decide +kernel
theorem dk_16 : decode cX10_init 16 = .ok (.newarray .long, 2) := by decide +kernel
theorem dk_18 : decode cX10_init 18 = .ok (.putfield 15, 3) := by decide +kernel
theorem qt_15 : Cond.fieldLink "MerryDuchy$Tokens" 15 "MerryDuchy$Tokens" "keyWords" "[J" ∈ gtbl := gt1 91 (by decide +kernel) (by decide +kernel)
theorem dk_21 : decode cX10_init 21 = .ok (.lconst 0, 1) := by decide +kernel
theorem dk_22 : decode cX10_init 22 = .ok (.lstore_n 1, 1) := by decide +kernel
theorem dk_23 : decode cX10_init 23 = .ok (.iconst 0, 1) := by decide +kernel
theorem dk_24 : decode cX10_init 24 = .ok (.istore_n 3, 1) := by decide +kernel
theorem dk_25 : decode cX10_init 25 = .ok (.iconst 0, 1) := by decide +kernel
theorem dk_26 : decode cX10_init 26 = .ok (.istore 4, 2) := by decide +kernel
theorem dk_28 : decode cX10_init 28 = .ok (.iload 4, 2) := by decide +kernel
theorem dk_30 : decode cX10_init 30 = .ok (.ldc 19, 2) := by decide +kernel
theorem dk_32 : decode cX10_init 32 = .ok (.invokevirtual 21, 3) := by decide +kernel
theorem qu_21 : Cond.methodLink "MerryDuchy$Tokens" 21 ⟨"java/lang/String", "length", "()I"⟩ ∈ gtbl := gt1 41 (by decide +kernel) (by decide +kernel)
theorem dk_35 : decode cX10_init 35 = .ok (.if_icmp .ge 55, 3) := by decide +kernel
theorem dk_38 : decode cX10_init 38 = .ok (.iload_n 3, 1) := by decide +kernel
theorem dk_39 : decode cX10_init 39 = .ok (.bipush 24, 2) := by decide +kernel
theorem dk_41 : decode cX10_init 41 = .ok (.if_icmp .ge 49, 3) := by decide +kernel
theorem dk_44 : decode cX10_init 44 = .ok (.ldc 19, 2) := by decide +kernel
theorem dk_46 : decode cX10_init 46 = .ok (.iload 4, 2) := by decide +kernel
theorem dk_48 : decode cX10_init 48 = .ok (.invokevirtual 27, 3) := by decide +kernel
theorem qu_27 : Cond.methodLink "MerryDuchy$Tokens" 27 ⟨"java/lang/String", "charAt", "(I)C"⟩ ∈ gtbl := gt1 51 (by decide +kernel) (by decide +kernel)
theorem dk_51 : decode cX10_init 51 = .ok (.istore 5, 2) := by decide +kernel
theorem dk_53 : decode cX10_init 53 = .ok (.iload 5, 2) := by decide +kernel
theorem dk_55 : decode cX10_init 55 = .ok (.bipush 32, 2) := by decide +kernel
theorem dk_57 : decode cX10_init 57 = .ok (.if_icmp .ne 18, 3) := by decide +kernel
theorem dk_60 : decode cX10_init 60 = .ok (.aload_n 0, 1) := by decide +kernel
theorem dk_61 : decode cX10_init 61 = .ok (.getfield 15, 3) := by decide +kernel
theorem dk_64 : decode cX10_init 64 = .ok (.iload_n 3, 1) := by decide +kernel
theorem dk_65 : decode cX10_init 65 = .ok (.lload_n 1, 1) := by decide +kernel
theorem dk_66 : decode cX10_init 66 = .ok (.lastore, 1) := by decide +kernel
theorem dk_67 : decode cX10_init 67 = .ok (.iinc 3 1, 3) := by decide +kernel
theorem dk_70 : decode cX10_init 70 = .ok (.lconst 0, 1) := by decide +kernel
theorem dk_71 : decode cX10_init 71 = .ok (.lstore_n 1, 1) := by decide +kernel
theorem dk_72 : decode cX10_init 72 = .ok (.goto 12, 3) := by decide +kernel
theorem dk_75 : decode cX10_init 75 = .ok (.lload_n 1, 1) := by decide +kernel
theorem dk_76 : decode cX10_init 76 = .ok (.bipush 8, 2) := by decide +kernel
theorem dk_78 : decode cX10_init 78 = .ok (.lshl, 1) := by decide +kernel
theorem dk_79 : decode cX10_init 79 = .ok (.iload 5, 2) := by decide +kernel
theorem dk_81 : decode cX10_init 81 = .ok (.i2l, 1) := by decide +kernel
theorem dk_82 : decode cX10_init 82 = .ok (.lor, 1) := by decide +kernel
theorem dk_83 : decode cX10_init 83 = .ok (.lstore_n 1, 1) := by decide +kernel
theorem dk_84 : decode cX10_init 84 = .ok (.iinc 4 1, 3) := by decide +kernel
theorem dk_87 : decode cX10_init 87 = .ok (.goto (-59), 3) := by decide +kernel
theorem dk_90 : decode cX10_init 90 = .ok (.return_, 1) := by decide +kernel
theorem qa_byte : Cond.arrayClass .byte ∈ gtbl := gt1 151 (by decide +kernel) (by decide +kernel)
theorem qa_long : Cond.arrayClass .long ∈ gtbl := gt1 152 (by decide +kernel) (by decide +kernel)
