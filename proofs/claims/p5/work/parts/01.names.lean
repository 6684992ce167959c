-- ===== PART A: goes FIRST, ahead of the names: the tables' words, and 'selects' of the private methods out of them =====
/-- a private method of a class that the tables say can be made, by its rows of tables_1 -/
def lw_okq (q : MethodName × Nat) : Prop := (q.1.cls ≠ "java/lang/invoke/MethodHandle" ∧ q.1.cls ≠ "java/lang/invoke/VarHandle") ∧ Cond.instantiable q.1.cls q.2 ∈ tables_1 ∧ Cond.privateMethod q.1 ∈ tables_1 ∧ Cond.instanceMethod q.1 ∈ tables_1
theorem lw_p0 : lw_okq (⟨"MerryDuchy", "feedNumber", "(I)V"⟩, 18) := ⟨⟨by decide +kernel, by decide +kernel⟩, List.mem_of_getElem? (i := 27) (by decide +kernel), List.mem_of_getElem? (i := 493) (by decide +kernel), List.mem_of_getElem? (i := 494) (by decide +kernel)⟩
theorem lw_p1 : lw_okq (⟨"MerryDuchy", "startTokens", "(I)V"⟩, 18) := ⟨⟨by decide +kernel, by decide +kernel⟩, List.mem_of_getElem? (i := 27) (by decide +kernel), List.mem_of_getElem? (i := 505) (by decide +kernel), List.mem_of_getElem? (i := 506) (by decide +kernel)⟩
theorem lw_p2 : lw_okq (⟨"MerryDuchy$Tokens", "readRun", "()V"⟩, 14) := ⟨⟨by decide +kernel, by decide +kernel⟩, List.mem_of_getElem? (i := 35) (by decide +kernel), List.mem_of_getElem? (i := 520) (by decide +kernel), List.mem_of_getElem? (i := 521) (by decide +kernel)⟩
theorem lw_p3 : lw_okq (⟨"MerryDuchy$Tokens", "readSign", "()V"⟩, 14) := ⟨⟨by decide +kernel, by decide +kernel⟩, List.mem_of_getElem? (i := 35) (by decide +kernel), List.mem_of_getElem? (i := 524) (by decide +kernel), List.mem_of_getElem? (i := 525) (by decide +kernel)⟩
theorem lw_p4 : lw_okq (⟨"MerryDuchy$Tokens", "keyOf", "(J)I"⟩, 14) := ⟨⟨by decide +kernel, by decide +kernel⟩, List.mem_of_getElem? (i := 35) (by decide +kernel), List.mem_of_getElem? (i := 528) (by decide +kernel), List.mem_of_getElem? (i := 529) (by decide +kernel)⟩
theorem lw_p5 : lw_okq (⟨"MerryDuchy$Duchy", "clear", "()V"⟩, 10) := ⟨⟨by decide +kernel, by decide +kernel⟩, List.mem_of_getElem? (i := 160) (by decide +kernel), List.mem_of_getElem? (i := 536) (by decide +kernel), List.mem_of_getElem? (i := 537) (by decide +kernel)⟩
theorem lw_p6 : lw_okq (⟨"MerryDuchy$Duchy", "readLine", "(LMerryDuchy$Tokens;)Z"⟩, 10) := ⟨⟨by decide +kernel, by decide +kernel⟩, List.mem_of_getElem? (i := 160) (by decide +kernel), List.mem_of_getElem? (i := 552) (by decide +kernel), List.mem_of_getElem? (i := 553) (by decide +kernel)⟩
theorem lw_p7 : lw_okq (⟨"MerryDuchy$Duchy", "readMan", "(LMerryDuchy$Tokens;)Z"⟩, 10) := ⟨⟨by decide +kernel, by decide +kernel⟩, List.mem_of_getElem? (i := 160) (by decide +kernel), List.mem_of_getElem? (i := 556) (by decide +kernel), List.mem_of_getElem? (i := 557) (by decide +kernel)⟩
theorem lw_p8 : lw_okq (⟨"MerryDuchy$Duchy", "takesFirstWord", "(LMerryDuchy$Tokens;I)Z"⟩, 10) := ⟨⟨by decide +kernel, by decide +kernel⟩, List.mem_of_getElem? (i := 160) (by decide +kernel), List.mem_of_getElem? (i := 560) (by decide +kernel), List.mem_of_getElem? (i := 561) (by decide +kernel)⟩
theorem lw_p9 : lw_okq (⟨"MerryDuchy$Duchy", "addName", "(IJ)I"⟩, 10) := ⟨⟨by decide +kernel, by decide +kernel⟩, List.mem_of_getElem? (i := 160) (by decide +kernel), List.mem_of_getElem? (i := 582) (by decide +kernel), List.mem_of_getElem? (i := 583) (by decide +kernel)⟩
theorem lw_p10 : lw_okq (⟨"MerryDuchy$Duchy", "readForfeit", "(LMerryDuchy$Tokens;)Z"⟩, 10) := ⟨⟨by decide +kernel, by decide +kernel⟩, List.mem_of_getElem? (i := 160) (by decide +kernel), List.mem_of_getElem? (i := 587) (by decide +kernel), List.mem_of_getElem? (i := 588) (by decide +kernel)⟩
theorem lw_p11 : lw_okq (⟨"MerryDuchy$Duchy", "readMinds", "(LMerryDuchy$Tokens;)Z"⟩, 10) := ⟨⟨by decide +kernel, by decide +kernel⟩, List.mem_of_getElem? (i := 160) (by decide +kernel), List.mem_of_getElem? (i := 591) (by decide +kernel), List.mem_of_getElem? (i := 592) (by decide +kernel)⟩
theorem lw_p12 : lw_okq (⟨"MerryDuchy$Duchy", "readGood", "(LMerryDuchy$Tokens;)Z"⟩, 10) := ⟨⟨by decide +kernel, by decide +kernel⟩, List.mem_of_getElem? (i := 160) (by decide +kernel), List.mem_of_getElem? (i := 599) (by decide +kernel), List.mem_of_getElem? (i := 600) (by decide +kernel)⟩
theorem lw_p13 : lw_okq (⟨"MerryDuchy$Duchy", "readOwes", "(LMerryDuchy$Tokens;)Z"⟩, 10) := ⟨⟨by decide +kernel, by decide +kernel⟩, List.mem_of_getElem? (i := 160) (by decide +kernel), List.mem_of_getElem? (i := 603) (by decide +kernel), List.mem_of_getElem? (i := 604) (by decide +kernel)⟩
theorem lw_p14 : lw_okq (⟨"MerryDuchy$Duchy", "readWears", "(LMerryDuchy$Tokens;)Z"⟩, 10) := ⟨⟨by decide +kernel, by decide +kernel⟩, List.mem_of_getElem? (i := 160) (by decide +kernel), List.mem_of_getElem? (i := 607) (by decide +kernel), List.mem_of_getElem? (i := 608) (by decide +kernel)⟩
theorem lw_p15 : lw_okq (⟨"MerryDuchy$Duchy", "readMends", "(LMerryDuchy$Tokens;)Z"⟩, 10) := ⟨⟨by decide +kernel, by decide +kernel⟩, List.mem_of_getElem? (i := 160) (by decide +kernel), List.mem_of_getElem? (i := 611) (by decide +kernel), List.mem_of_getElem? (i := 612) (by decide +kernel)⟩
def lw_privs_1 : List (MethodName × Nat) := [(⟨"MerryDuchy", "feedNumber", "(I)V"⟩, 18), (⟨"MerryDuchy", "startTokens", "(I)V"⟩, 18), (⟨"MerryDuchy$Tokens", "readRun", "()V"⟩, 14), (⟨"MerryDuchy$Tokens", "readSign", "()V"⟩, 14), (⟨"MerryDuchy$Tokens", "keyOf", "(J)I"⟩, 14), (⟨"MerryDuchy$Duchy", "clear", "()V"⟩, 10), (⟨"MerryDuchy$Duchy", "readLine", "(LMerryDuchy$Tokens;)Z"⟩, 10), (⟨"MerryDuchy$Duchy", "readMan", "(LMerryDuchy$Tokens;)Z"⟩, 10), (⟨"MerryDuchy$Duchy", "takesFirstWord", "(LMerryDuchy$Tokens;I)Z"⟩, 10), (⟨"MerryDuchy$Duchy", "addName", "(IJ)I"⟩, 10), (⟨"MerryDuchy$Duchy", "readForfeit", "(LMerryDuchy$Tokens;)Z"⟩, 10), (⟨"MerryDuchy$Duchy", "readMinds", "(LMerryDuchy$Tokens;)Z"⟩, 10), (⟨"MerryDuchy$Duchy", "readGood", "(LMerryDuchy$Tokens;)Z"⟩, 10), (⟨"MerryDuchy$Duchy", "readOwes", "(LMerryDuchy$Tokens;)Z"⟩, 10), (⟨"MerryDuchy$Duchy", "readWears", "(LMerryDuchy$Tokens;)Z"⟩, 10), (⟨"MerryDuchy$Duchy", "readMends", "(LMerryDuchy$Tokens;)Z"⟩, 10)]
theorem lw_r1 : ∀ q ∈ lw_privs_1, lw_okq q := List.forall_mem_cons.mpr ⟨lw_p0, List.forall_mem_cons.mpr ⟨lw_p1, List.forall_mem_cons.mpr ⟨lw_p2, List.forall_mem_cons.mpr ⟨lw_p3, List.forall_mem_cons.mpr ⟨lw_p4, List.forall_mem_cons.mpr ⟨lw_p5, List.forall_mem_cons.mpr ⟨lw_p6, List.forall_mem_cons.mpr ⟨lw_p7, List.forall_mem_cons.mpr ⟨lw_p8, List.forall_mem_cons.mpr ⟨lw_p9, List.forall_mem_cons.mpr ⟨lw_p10, List.forall_mem_cons.mpr ⟨lw_p11, List.forall_mem_cons.mpr ⟨lw_p12, List.forall_mem_cons.mpr ⟨lw_p13, List.forall_mem_cons.mpr ⟨lw_p14, List.forall_mem_cons.mpr ⟨lw_p15, fun _ h => absurd h List.not_mem_nil⟩⟩⟩⟩⟩⟩⟩⟩⟩⟩⟩⟩⟩⟩⟩⟩
theorem lw_p16 : lw_okq (⟨"MerryDuchy$Duchy", "fillWhatWasNotTold", "()V"⟩, 10) := ⟨⟨by decide +kernel, by decide +kernel⟩, List.mem_of_getElem? (i := 160) (by decide +kernel), List.mem_of_getElem? (i := 623) (by decide +kernel), List.mem_of_getElem? (i := 624) (by decide +kernel)⟩
theorem lw_p17 : lw_okq (⟨"MerryDuchy$Ring", "closes", "(LMerryDuchy$State;III)Z"⟩, 2) := ⟨⟨by decide +kernel, by decide +kernel⟩, List.mem_of_getElem? (i := 297) (by decide +kernel), List.mem_of_getElem? (i := 722) (by decide +kernel), List.mem_of_getElem? (i := 723) (by decide +kernel)⟩
theorem lw_p18 : lw_okq (⟨"MerryDuchy", "done", "(IIII)I"⟩, 18) := ⟨⟨by decide +kernel, by decide +kernel⟩, List.mem_of_getElem? (i := 27) (by decide +kernel), List.mem_of_getElem? (i := 726) (by decide +kernel), List.mem_of_getElem? (i := 727) (by decide +kernel)⟩
theorem lw_p19 : lw_okq (⟨"MerryDuchy$Acts", "doForfeit", "(LMerryDuchy$State;II)I"⟩, 5) := ⟨⟨by decide +kernel, by decide +kernel⟩, List.mem_of_getElem? (i := 154) (by decide +kernel), List.mem_of_getElem? (i := 740) (by decide +kernel), List.mem_of_getElem? (i := 741) (by decide +kernel)⟩
theorem lw_p20 : lw_okq (⟨"MerryDuchy$Ring", "pairAt", "(I)I"⟩, 2) := ⟨⟨by decide +kernel, by decide +kernel⟩, List.mem_of_getElem? (i := 297) (by decide +kernel), List.mem_of_getElem? (i := 748) (by decide +kernel), List.mem_of_getElem? (i := 749) (by decide +kernel)⟩
theorem lw_p21 : lw_okq (⟨"MerryDuchy$Acts", "passWeeks", "(LMerryDuchy$State;I)V"⟩, 5) := ⟨⟨by decide +kernel, by decide +kernel⟩, List.mem_of_getElem? (i := 154) (by decide +kernel), List.mem_of_getElem? (i := 753) (by decide +kernel), List.mem_of_getElem? (i := 754) (by decide +kernel)⟩
theorem lw_p22 : lw_okq (⟨"MerryDuchy", "tried", "(IIII)I"⟩, 18) := ⟨⟨by decide +kernel, by decide +kernel⟩, List.mem_of_getElem? (i := 27) (by decide +kernel), List.mem_of_getElem? (i := 762) (by decide +kernel), List.mem_of_getElem? (i := 763) (by decide +kernel)⟩
theorem lw_p23 : lw_okq (⟨"MerryDuchy", "triedBetween", "(IIII)I"⟩, 18) := ⟨⟨by decide +kernel, by decide +kernel⟩, List.mem_of_getElem? (i := 27) (by decide +kernel), List.mem_of_getElem? (i := 770) (by decide +kernel), List.mem_of_getElem? (i := 771) (by decide +kernel)⟩
theorem lw_p24 : lw_okq (⟨"MerryDuchy$Plan", "fillPays", "(LMerryDuchy$Duchy;II)V"⟩, 4) := ⟨⟨by decide +kernel, by decide +kernel⟩, List.mem_of_getElem? (i := 357) (by decide +kernel), List.mem_of_getElem? (i := 822) (by decide +kernel), List.mem_of_getElem? (i := 823) (by decide +kernel)⟩
theorem lw_p25 : lw_okq (⟨"MerryDuchy$Plan", "fewestFor", "(II)I"⟩, 4) := ⟨⟨by decide +kernel, by decide +kernel⟩, List.mem_of_getElem? (i := 357) (by decide +kernel), List.mem_of_getElem? (i := 827) (by decide +kernel), List.mem_of_getElem? (i := 828) (by decide +kernel)⟩
theorem lw_p26 : lw_okq (⟨"MerryDuchy$Plan", "choose", "(II)V"⟩, 4) := ⟨⟨by decide +kernel, by decide +kernel⟩, List.mem_of_getElem? (i := 357) (by decide +kernel), List.mem_of_getElem? (i := 831) (by decide +kernel), List.mem_of_getElem? (i := 832) (by decide +kernel)⟩
theorem lw_p27 : lw_okq (⟨"MerryDuchy$Acts", "balanceOf", "(I)I"⟩, 5) := ⟨⟨by decide +kernel, by decide +kernel⟩, List.mem_of_getElem? (i := 154) (by decide +kernel), List.mem_of_getElem? (i := 864) (by decide +kernel), List.mem_of_getElem? (i := 865) (by decide +kernel)⟩
theorem lw_p28 : lw_okq (⟨"MerryDuchy$Fits", "mayHavePaid", "(LMerryDuchy$Duchy;I[BI)Z"⟩, 2) := ⟨⟨by decide +kernel, by decide +kernel⟩, List.mem_of_getElem? (i := 399) (by decide +kernel), List.mem_of_getElem? (i := 883) (by decide +kernel), List.mem_of_getElem? (i := 884) (by decide +kernel)⟩
theorem lw_p29 : lw_okq (⟨"MerryDuchy$Fits", "countDone", "(LMerryDuchy$Duchy;[BI)V"⟩, 2) := ⟨⟨by decide +kernel, by decide +kernel⟩, List.mem_of_getElem? (i := 399) (by decide +kernel), List.mem_of_getElem? (i := 889) (by decide +kernel), List.mem_of_getElem? (i := 890) (by decide +kernel)⟩
theorem lw_p30 : lw_okq (⟨"MerryDuchy$Fits", "mostTelling", "(LMerryDuchy$Duchy;I)I"⟩, 2) := ⟨⟨by decide +kernel, by decide +kernel⟩, List.mem_of_getElem? (i := 399) (by decide +kernel), List.mem_of_getElem? (i := 893) (by decide +kernel), List.mem_of_getElem? (i := 894) (by decide +kernel)⟩
theorem lw_p31 : lw_okq (⟨"MerryDuchy$Fits", "mostLeft", "(LMerryDuchy$Duchy;II)I"⟩, 2) := ⟨⟨by decide +kernel, by decide +kernel⟩, List.mem_of_getElem? (i := 399) (by decide +kernel), List.mem_of_getElem? (i := 898) (by decide +kernel), List.mem_of_getElem? (i := 899) (by decide +kernel)⟩
def lw_privs_2 : List (MethodName × Nat) := [(⟨"MerryDuchy$Duchy", "fillWhatWasNotTold", "()V"⟩, 10), (⟨"MerryDuchy$Ring", "closes", "(LMerryDuchy$State;III)Z"⟩, 2), (⟨"MerryDuchy", "done", "(IIII)I"⟩, 18), (⟨"MerryDuchy$Acts", "doForfeit", "(LMerryDuchy$State;II)I"⟩, 5), (⟨"MerryDuchy$Ring", "pairAt", "(I)I"⟩, 2), (⟨"MerryDuchy$Acts", "passWeeks", "(LMerryDuchy$State;I)V"⟩, 5), (⟨"MerryDuchy", "tried", "(IIII)I"⟩, 18), (⟨"MerryDuchy", "triedBetween", "(IIII)I"⟩, 18), (⟨"MerryDuchy$Plan", "fillPays", "(LMerryDuchy$Duchy;II)V"⟩, 4), (⟨"MerryDuchy$Plan", "fewestFor", "(II)I"⟩, 4), (⟨"MerryDuchy$Plan", "choose", "(II)V"⟩, 4), (⟨"MerryDuchy$Acts", "balanceOf", "(I)I"⟩, 5), (⟨"MerryDuchy$Fits", "mayHavePaid", "(LMerryDuchy$Duchy;I[BI)Z"⟩, 2), (⟨"MerryDuchy$Fits", "countDone", "(LMerryDuchy$Duchy;[BI)V"⟩, 2), (⟨"MerryDuchy$Fits", "mostTelling", "(LMerryDuchy$Duchy;I)I"⟩, 2), (⟨"MerryDuchy$Fits", "mostLeft", "(LMerryDuchy$Duchy;II)I"⟩, 2)]
theorem lw_r2 : ∀ q ∈ lw_privs_2, lw_okq q := List.forall_mem_cons.mpr ⟨lw_p16, List.forall_mem_cons.mpr ⟨lw_p17, List.forall_mem_cons.mpr ⟨lw_p18, List.forall_mem_cons.mpr ⟨lw_p19, List.forall_mem_cons.mpr ⟨lw_p20, List.forall_mem_cons.mpr ⟨lw_p21, List.forall_mem_cons.mpr ⟨lw_p22, List.forall_mem_cons.mpr ⟨lw_p23, List.forall_mem_cons.mpr ⟨lw_p24, List.forall_mem_cons.mpr ⟨lw_p25, List.forall_mem_cons.mpr ⟨lw_p26, List.forall_mem_cons.mpr ⟨lw_p27, List.forall_mem_cons.mpr ⟨lw_p28, List.forall_mem_cons.mpr ⟨lw_p29, List.forall_mem_cons.mpr ⟨lw_p30, List.forall_mem_cons.mpr ⟨lw_p31, fun _ h => absurd h List.not_mem_nil⟩⟩⟩⟩⟩⟩⟩⟩⟩⟩⟩⟩⟩⟩⟩⟩
theorem lw_p32 : lw_okq (⟨"MerryDuchy", "prideWithin", "(II)I"⟩, 18) := ⟨⟨by decide +kernel, by decide +kernel⟩, List.mem_of_getElem? (i := 27) (by decide +kernel), List.mem_of_getElem? (i := 911) (by decide +kernel), List.mem_of_getElem? (i := 912) (by decide +kernel)⟩
theorem lw_p33 : lw_okq (⟨"MerryDuchy$Tax", "fillCosts", "(LMerryDuchy$Duchy;)V"⟩, 4) := ⟨⟨by decide +kernel, by decide +kernel⟩, List.mem_of_getElem? (i := 378) (by decide +kernel), List.mem_of_getElem? (i := 923) (by decide +kernel), List.mem_of_getElem? (i := 924) (by decide +kernel)⟩
theorem lw_p34 : lw_okq (⟨"MerryDuchy$Tax", "leastGreatest", "(I)I"⟩, 4) := ⟨⟨by decide +kernel, by decide +kernel⟩, List.mem_of_getElem? (i := 378) (by decide +kernel), List.mem_of_getElem? (i := 931) (by decide +kernel), List.mem_of_getElem? (i := 932) (by decide +kernel)⟩
theorem lw_p35 : lw_okq (⟨"MerryDuchy$Tax", "dearest", "(II)I"⟩, 4) := ⟨⟨by decide +kernel, by decide +kernel⟩, List.mem_of_getElem? (i := 378) (by decide +kernel), List.mem_of_getElem? (i := 935) (by decide +kernel), List.mem_of_getElem? (i := 936) (by decide +kernel)⟩
theorem lw_p36 : lw_okq (⟨"MerryDuchy$Tax", "fillCan", "(II)V"⟩, 4) := ⟨⟨by decide +kernel, by decide +kernel⟩, List.mem_of_getElem? (i := 378) (by decide +kernel), List.mem_of_getElem? (i := 939) (by decide +kernel), List.mem_of_getElem? (i := 940) (by decide +kernel)⟩
theorem lw_p37 : lw_okq (⟨"MerryDuchy$Tax", "canPay", "(III)Z"⟩, 4) := ⟨⟨by decide +kernel, by decide +kernel⟩, List.mem_of_getElem? (i := 378) (by decide +kernel), List.mem_of_getElem? (i := 943) (by decide +kernel), List.mem_of_getElem? (i := 944) (by decide +kernel)⟩
theorem lw_p38 : lw_okq (⟨"MerryDuchy$Tax", "choose", "(III)V"⟩, 4) := ⟨⟨by decide +kernel, by decide +kernel⟩, List.mem_of_getElem? (i := 378) (by decide +kernel), List.mem_of_getElem? (i := 947) (by decide +kernel), List.mem_of_getElem? (i := 948) (by decide +kernel)⟩
theorem lw_p39 : lw_okq (⟨"MerryDuchy", "listName", "(II)V"⟩, 18) := ⟨⟨by decide +kernel, by decide +kernel⟩, List.mem_of_getElem? (i := 27) (by decide +kernel), List.mem_of_getElem? (i := 963) (by decide +kernel), List.mem_of_getElem? (i := 964) (by decide +kernel)⟩
theorem lw_p40 : lw_okq (⟨"MerryDuchy", "listByte", "(I)V"⟩, 18) := ⟨⟨by decide +kernel, by decide +kernel⟩, List.mem_of_getElem? (i := 27) (by decide +kernel), List.mem_of_getElem? (i := 967) (by decide +kernel), List.mem_of_getElem? (i := 968) (by decide +kernel)⟩
theorem lw_p41 : lw_okq (⟨"MerryDuchy", "listText", "(Ljava/lang/String;)V"⟩, 18) := ⟨⟨by decide +kernel, by decide +kernel⟩, List.mem_of_getElem? (i := 27) (by decide +kernel), List.mem_of_getElem? (i := 977) (by decide +kernel), List.mem_of_getElem? (i := 978) (by decide +kernel)⟩
theorem lw_p42 : lw_okq (⟨"MerryDuchy", "listNumber", "(I)V"⟩, 18) := ⟨⟨by decide +kernel, by decide +kernel⟩, List.mem_of_getElem? (i := 27) (by decide +kernel), List.mem_of_getElem? (i := 985) (by decide +kernel), List.mem_of_getElem? (i := 986) (by decide +kernel)⟩
theorem lw_p43 : lw_okq (⟨"MerryDuchy$Acts", "drawAct", "(LMerryDuchy$State;I)V"⟩, 5) := ⟨⟨by decide +kernel, by decide +kernel⟩, List.mem_of_getElem? (i := 154) (by decide +kernel), List.mem_of_getElem? (i := 1001) (by decide +kernel), List.mem_of_getElem? (i := 1002) (by decide +kernel)⟩
theorem lw_p44 : lw_okq (⟨"MerryDuchy$Acts", "draw", "(I)I"⟩, 5) := ⟨⟨by decide +kernel, by decide +kernel⟩, List.mem_of_getElem? (i := 154) (by decide +kernel), List.mem_of_getElem? (i := 1005) (by decide +kernel), List.mem_of_getElem? (i := 1006) (by decide +kernel)⟩
theorem lw_p45 : lw_okq (⟨"MerryDuchy$Acts", "drawOne", "(LMerryDuchy$State;III)V"⟩, 5) := ⟨⟨by decide +kernel, by decide +kernel⟩, List.mem_of_getElem? (i := 154) (by decide +kernel), List.mem_of_getElem? (i := 1010) (by decide +kernel), List.mem_of_getElem? (i := 1011) (by decide +kernel)⟩
theorem lw_p46 : lw_okq (⟨"MerryDuchy$Book", "readLine", "(LMerryDuchy$Tokens;LMerryDuchy$Duchy;)Z"⟩, 4) := ⟨⟨by decide +kernel, by decide +kernel⟩, List.mem_of_getElem? (i := 413) (by decide +kernel), List.mem_of_getElem? (i := 1033) (by decide +kernel), List.mem_of_getElem? (i := 1034) (by decide +kernel)⟩
theorem lw_p47 : lw_okq (⟨"MerryDuchy$Book", "readOfMan", "(LMerryDuchy$Tokens;LMerryDuchy$Duchy;I)Z"⟩, 4) := ⟨⟨by decide +kernel, by decide +kernel⟩, List.mem_of_getElem? (i := 413) (by decide +kernel), List.mem_of_getElem? (i := 1039) (by decide +kernel), List.mem_of_getElem? (i := 1040) (by decide +kernel)⟩
def lw_privs_3 : List (MethodName × Nat) := [(⟨"MerryDuchy", "prideWithin", "(II)I"⟩, 18), (⟨"MerryDuchy$Tax", "fillCosts", "(LMerryDuchy$Duchy;)V"⟩, 4), (⟨"MerryDuchy$Tax", "leastGreatest", "(I)I"⟩, 4), (⟨"MerryDuchy$Tax", "dearest", "(II)I"⟩, 4), (⟨"MerryDuchy$Tax", "fillCan", "(II)V"⟩, 4), (⟨"MerryDuchy$Tax", "canPay", "(III)Z"⟩, 4), (⟨"MerryDuchy$Tax", "choose", "(III)V"⟩, 4), (⟨"MerryDuchy", "listName", "(II)V"⟩, 18), (⟨"MerryDuchy", "listByte", "(I)V"⟩, 18), (⟨"MerryDuchy", "listText", "(Ljava/lang/String;)V"⟩, 18), (⟨"MerryDuchy", "listNumber", "(I)V"⟩, 18), (⟨"MerryDuchy$Acts", "drawAct", "(LMerryDuchy$State;I)V"⟩, 5), (⟨"MerryDuchy$Acts", "draw", "(I)I"⟩, 5), (⟨"MerryDuchy$Acts", "drawOne", "(LMerryDuchy$State;III)V"⟩, 5), (⟨"MerryDuchy$Book", "readLine", "(LMerryDuchy$Tokens;LMerryDuchy$Duchy;)Z"⟩, 4), (⟨"MerryDuchy$Book", "readOfMan", "(LMerryDuchy$Tokens;LMerryDuchy$Duchy;I)Z"⟩, 4)]
theorem lw_r3 : ∀ q ∈ lw_privs_3, lw_okq q := List.forall_mem_cons.mpr ⟨lw_p32, List.forall_mem_cons.mpr ⟨lw_p33, List.forall_mem_cons.mpr ⟨lw_p34, List.forall_mem_cons.mpr ⟨lw_p35, List.forall_mem_cons.mpr ⟨lw_p36, List.forall_mem_cons.mpr ⟨lw_p37, List.forall_mem_cons.mpr ⟨lw_p38, List.forall_mem_cons.mpr ⟨lw_p39, List.forall_mem_cons.mpr ⟨lw_p40, List.forall_mem_cons.mpr ⟨lw_p41, List.forall_mem_cons.mpr ⟨lw_p42, List.forall_mem_cons.mpr ⟨lw_p43, List.forall_mem_cons.mpr ⟨lw_p44, List.forall_mem_cons.mpr ⟨lw_p45, List.forall_mem_cons.mpr ⟨lw_p46, List.forall_mem_cons.mpr ⟨lw_p47, fun _ h => absurd h List.not_mem_nil⟩⟩⟩⟩⟩⟩⟩⟩⟩⟩⟩⟩⟩⟩⟩⟩
theorem lw_p48 : lw_okq (⟨"MerryDuchy$Book", "add", "(IIII)Z"⟩, 4) := ⟨⟨by decide +kernel, by decide +kernel⟩, List.mem_of_getElem? (i := 413) (by decide +kernel), List.mem_of_getElem? (i := 1044) (by decide +kernel), List.mem_of_getElem? (i := 1045) (by decide +kernel)⟩
theorem lw_p49 : lw_okq (⟨"MerryDuchy$Sentence", "readCond", "(LMerryDuchy$Tokens;LMerryDuchy$Duchy;I)Z"⟩, 4) := ⟨⟨by decide +kernel, by decide +kernel⟩, List.mem_of_getElem? (i := 229) (by decide +kernel), List.mem_of_getElem? (i := 1070) (by decide +kernel), List.mem_of_getElem? (i := 1071) (by decide +kernel)⟩
theorem lw_p50 : lw_okq (⟨"MerryDuchy$Sentence", "readOne", "(LMerryDuchy$Tokens;LMerryDuchy$Duchy;I)Z"⟩, 4) := ⟨⟨by decide +kernel, by decide +kernel⟩, List.mem_of_getElem? (i := 229) (by decide +kernel), List.mem_of_getElem? (i := 1074) (by decide +kernel), List.mem_of_getElem? (i := 1075) (by decide +kernel)⟩
theorem lw_p51 : lw_okq (⟨"MerryDuchy$Sentence", "add", "(III)Z"⟩, 4) := ⟨⟨by decide +kernel, by decide +kernel⟩, List.mem_of_getElem? (i := 229) (by decide +kernel), List.mem_of_getElem? (i := 1082) (by decide +kernel), List.mem_of_getElem? (i := 1083) (by decide +kernel)⟩
theorem lw_p52 : lw_okq (⟨"MerryDuchy$Sentence", "readPlainOne", "(LMerryDuchy$Tokens;LMerryDuchy$Duchy;I)Z"⟩, 4) := ⟨⟨by decide +kernel, by decide +kernel⟩, List.mem_of_getElem? (i := 229) (by decide +kernel), List.mem_of_getElem? (i := 1086) (by decide +kernel), List.mem_of_getElem? (i := 1087) (by decide +kernel)⟩
theorem lw_p53 : lw_okq (⟨"java/lang/Throwable", "fillInStackTrace", "(I)Ljava/lang/Throwable;"⟩, 6) := ⟨⟨by decide +kernel, by decide +kernel⟩, List.mem_of_getElem? (i := 1177) (by decide +kernel), List.mem_of_getElem? (i := 1175) (by decide +kernel), List.mem_of_getElem? (i := 1176) (by decide +kernel)⟩
theorem lw_p54 : lw_okq (⟨"MerryDuchy", "goodsOf", "(I)I"⟩, 18) := ⟨⟨by decide +kernel, by decide +kernel⟩, List.mem_of_getElem? (i := 27) (by decide +kernel), List.mem_of_getElem? (i := 1203) (by decide +kernel), List.mem_of_getElem? (i := 1204) (by decide +kernel)⟩
theorem lw_p55 : lw_okq (⟨"MerryDuchyModel", "come", "(I)V"⟩, 53) := ⟨⟨by decide +kernel, by decide +kernel⟩, List.mem_of_getElem? (i := 1213) (by decide +kernel), List.mem_of_getElem? (i := 1211) (by decide +kernel), List.mem_of_getElem? (i := 1212) (by decide +kernel)⟩
theorem lw_p56 : lw_okq (⟨"MerryDuchyModel", "begin", "(I)V"⟩, 53) := ⟨⟨by decide +kernel, by decide +kernel⟩, List.mem_of_getElem? (i := 1213) (by decide +kernel), List.mem_of_getElem? (i := 1389) (by decide +kernel), List.mem_of_getElem? (i := 1390) (by decide +kernel)⟩
theorem lw_p57 : lw_okq (⟨"MerryDuchyModel", "take", "()I"⟩, 53) := ⟨⟨by decide +kernel, by decide +kernel⟩, List.mem_of_getElem? (i := 1213) (by decide +kernel), List.mem_of_getElem? (i := 1393) (by decide +kernel), List.mem_of_getElem? (i := 1394) (by decide +kernel)⟩
theorem lw_p58 : lw_okq (⟨"MerryDuchyModel", "go", "()V"⟩, 53) := ⟨⟨by decide +kernel, by decide +kernel⟩, List.mem_of_getElem? (i := 1213) (by decide +kernel), List.mem_of_getElem? (i := 1397) (by decide +kernel), List.mem_of_getElem? (i := 1398) (by decide +kernel)⟩
theorem lw_p59 : lw_okq (⟨"MerryDuchyModel", "tapeAt", "(I)I"⟩, 53) := ⟨⟨by decide +kernel, by decide +kernel⟩, List.mem_of_getElem? (i := 1213) (by decide +kernel), List.mem_of_getElem? (i := 1407) (by decide +kernel), List.mem_of_getElem? (i := 1408) (by decide +kernel)⟩
theorem lw_p60 : lw_okq (⟨"MerryDuchyModel", "readLine", "()Z"⟩, 53) := ⟨⟨by decide +kernel, by decide +kernel⟩, List.mem_of_getElem? (i := 1213) (by decide +kernel), List.mem_of_getElem? (i := 1413) (by decide +kernel), List.mem_of_getElem? (i := 1414) (by decide +kernel)⟩
theorem lw_p61 : lw_okq (⟨"MerryDuchyModel", "isWord", "(I)Z"⟩, 53) := ⟨⟨by decide +kernel, by decide +kernel⟩, List.mem_of_getElem? (i := 1213) (by decide +kernel), List.mem_of_getElem? (i := 1417) (by decide +kernel), List.mem_of_getElem? (i := 1418) (by decide +kernel)⟩
theorem lw_p62 : lw_okq (⟨"MerryDuchyModel", "readMan", "()Z"⟩, 53) := ⟨⟨by decide +kernel, by decide +kernel⟩, List.mem_of_getElem? (i := 1213) (by decide +kernel), List.mem_of_getElem? (i := 1427) (by decide +kernel), List.mem_of_getElem? (i := 1428) (by decide +kernel)⟩
theorem lw_p63 : lw_okq (⟨"MerryDuchyModel", "readFirst", "(II)Z"⟩, 53) := ⟨⟨by decide +kernel, by decide +kernel⟩, List.mem_of_getElem? (i := 1213) (by decide +kernel), List.mem_of_getElem? (i := 1431) (by decide +kernel), List.mem_of_getElem? (i := 1432) (by decide +kernel)⟩
def lw_privs_4 : List (MethodName × Nat) := [(⟨"MerryDuchy$Book", "add", "(IIII)Z"⟩, 4), (⟨"MerryDuchy$Sentence", "readCond", "(LMerryDuchy$Tokens;LMerryDuchy$Duchy;I)Z"⟩, 4), (⟨"MerryDuchy$Sentence", "readOne", "(LMerryDuchy$Tokens;LMerryDuchy$Duchy;I)Z"⟩, 4), (⟨"MerryDuchy$Sentence", "add", "(III)Z"⟩, 4), (⟨"MerryDuchy$Sentence", "readPlainOne", "(LMerryDuchy$Tokens;LMerryDuchy$Duchy;I)Z"⟩, 4), (⟨"java/lang/Throwable", "fillInStackTrace", "(I)Ljava/lang/Throwable;"⟩, 6), (⟨"MerryDuchy", "goodsOf", "(I)I"⟩, 18), (⟨"MerryDuchyModel", "come", "(I)V"⟩, 53), (⟨"MerryDuchyModel", "begin", "(I)V"⟩, 53), (⟨"MerryDuchyModel", "take", "()I"⟩, 53), (⟨"MerryDuchyModel", "go", "()V"⟩, 53), (⟨"MerryDuchyModel", "tapeAt", "(I)I"⟩, 53), (⟨"MerryDuchyModel", "readLine", "()Z"⟩, 53), (⟨"MerryDuchyModel", "isWord", "(I)Z"⟩, 53), (⟨"MerryDuchyModel", "readMan", "()Z"⟩, 53), (⟨"MerryDuchyModel", "readFirst", "(II)Z"⟩, 53)]
theorem lw_r4 : ∀ q ∈ lw_privs_4, lw_okq q := List.forall_mem_cons.mpr ⟨lw_p48, List.forall_mem_cons.mpr ⟨lw_p49, List.forall_mem_cons.mpr ⟨lw_p50, List.forall_mem_cons.mpr ⟨lw_p51, List.forall_mem_cons.mpr ⟨lw_p52, List.forall_mem_cons.mpr ⟨lw_p53, List.forall_mem_cons.mpr ⟨lw_p54, List.forall_mem_cons.mpr ⟨lw_p55, List.forall_mem_cons.mpr ⟨lw_p56, List.forall_mem_cons.mpr ⟨lw_p57, List.forall_mem_cons.mpr ⟨lw_p58, List.forall_mem_cons.mpr ⟨lw_p59, List.forall_mem_cons.mpr ⟨lw_p60, List.forall_mem_cons.mpr ⟨lw_p61, List.forall_mem_cons.mpr ⟨lw_p62, List.forall_mem_cons.mpr ⟨lw_p63, fun _ h => absurd h List.not_mem_nil⟩⟩⟩⟩⟩⟩⟩⟩⟩⟩⟩⟩⟩⟩⟩⟩
theorem lw_p64 : lw_okq (⟨"MerryDuchyModel", "bad", "(I)Z"⟩, 53) := ⟨⟨by decide +kernel, by decide +kernel⟩, List.mem_of_getElem? (i := 1213) (by decide +kernel), List.mem_of_getElem? (i := 1435) (by decide +kernel), List.mem_of_getElem? (i := 1436) (by decide +kernel)⟩
theorem lw_p65 : lw_okq (⟨"MerryDuchyModel", "readNew", "(I)Z"⟩, 53) := ⟨⟨by decide +kernel, by decide +kernel⟩, List.mem_of_getElem? (i := 1213) (by decide +kernel), List.mem_of_getElem? (i := 1439) (by decide +kernel), List.mem_of_getElem? (i := 1440) (by decide +kernel)⟩
theorem lw_p66 : lw_okq (⟨"MerryDuchyModel", "isName", "()Z"⟩, 53) := ⟨⟨by decide +kernel, by decide +kernel⟩, List.mem_of_getElem? (i := 1213) (by decide +kernel), List.mem_of_getElem? (i := 1443) (by decide +kernel), List.mem_of_getElem? (i := 1444) (by decide +kernel)⟩
theorem lw_p67 : lw_okq (⟨"MerryDuchyModel", "readNumber", "(II)Z"⟩, 53) := ⟨⟨by decide +kernel, by decide +kernel⟩, List.mem_of_getElem? (i := 1213) (by decide +kernel), List.mem_of_getElem? (i := 1450) (by decide +kernel), List.mem_of_getElem? (i := 1451) (by decide +kernel)⟩
theorem lw_p68 : lw_okq (⟨"MerryDuchyModel", "put", "(IZ)Z"⟩, 53) := ⟨⟨by decide +kernel, by decide +kernel⟩, List.mem_of_getElem? (i := 1213) (by decide +kernel), List.mem_of_getElem? (i := 1457) (by decide +kernel), List.mem_of_getElem? (i := 1458) (by decide +kernel)⟩
theorem lw_p69 : lw_okq (⟨"MerryDuchyModel", "readForfeit", "()Z"⟩, 53) := ⟨⟨by decide +kernel, by decide +kernel⟩, List.mem_of_getElem? (i := 1213) (by decide +kernel), List.mem_of_getElem? (i := 1461) (by decide +kernel), List.mem_of_getElem? (i := 1462) (by decide +kernel)⟩
theorem lw_p70 : lw_okq (⟨"MerryDuchyModel", "readMinds", "()Z"⟩, 53) := ⟨⟨by decide +kernel, by decide +kernel⟩, List.mem_of_getElem? (i := 1213) (by decide +kernel), List.mem_of_getElem? (i := 1465) (by decide +kernel), List.mem_of_getElem? (i := 1466) (by decide +kernel)⟩
theorem lw_p71 : lw_okq (⟨"MerryDuchyModel", "isOne", "(II)Z"⟩, 53) := ⟨⟨by decide +kernel, by decide +kernel⟩, List.mem_of_getElem? (i := 1213) (by decide +kernel), List.mem_of_getElem? (i := 1469) (by decide +kernel), List.mem_of_getElem? (i := 1470) (by decide +kernel)⟩
theorem lw_p72 : lw_okq (⟨"MerryDuchyModel", "readGood", "()Z"⟩, 53) := ⟨⟨by decide +kernel, by decide +kernel⟩, List.mem_of_getElem? (i := 1213) (by decide +kernel), List.mem_of_getElem? (i := 1473) (by decide +kernel), List.mem_of_getElem? (i := 1474) (by decide +kernel)⟩
theorem lw_p73 : lw_okq (⟨"MerryDuchyModel", "readOwes", "()Z"⟩, 53) := ⟨⟨by decide +kernel, by decide +kernel⟩, List.mem_of_getElem? (i := 1213) (by decide +kernel), List.mem_of_getElem? (i := 1477) (by decide +kernel), List.mem_of_getElem? (i := 1478) (by decide +kernel)⟩
theorem lw_p74 : lw_okq (⟨"MerryDuchyModel", "readEnd", "()Z"⟩, 53) := ⟨⟨by decide +kernel, by decide +kernel⟩, List.mem_of_getElem? (i := 1213) (by decide +kernel), List.mem_of_getElem? (i := 1481) (by decide +kernel), List.mem_of_getElem? (i := 1482) (by decide +kernel)⟩
theorem lw_p75 : lw_okq (⟨"MerryDuchyModel", "isSign", "(I)Z"⟩, 53) := ⟨⟨by decide +kernel, by decide +kernel⟩, List.mem_of_getElem? (i := 1213) (by decide +kernel), List.mem_of_getElem? (i := 1485) (by decide +kernel), List.mem_of_getElem? (i := 1486) (by decide +kernel)⟩
theorem lw_p76 : lw_okq (⟨"MerryDuchyModel", "startSo", "()V"⟩, 53) := ⟨⟨by decide +kernel, by decide +kernel⟩, List.mem_of_getElem? (i := 1213) (by decide +kernel), List.mem_of_getElem? (i := 1489) (by decide +kernel), List.mem_of_getElem? (i := 1490) (by decide +kernel)⟩
theorem lw_p77 : lw_okq (⟨"MerryDuchyModel", "isMan", "(I)Z"⟩, 53) := ⟨⟨by decide +kernel, by decide +kernel⟩, List.mem_of_getElem? (i := 1213) (by decide +kernel), List.mem_of_getElem? (i := 1501) (by decide +kernel), List.mem_of_getElem? (i := 1502) (by decide +kernel)⟩
theorem lw_p78 : lw_okq (⟨"MerryDuchyModel", "refuse", "()I"⟩, 53) := ⟨⟨by decide +kernel, by decide +kernel⟩, List.mem_of_getElem? (i := 1213) (by decide +kernel), List.mem_of_getElem? (i := 1505) (by decide +kernel), List.mem_of_getElem? (i := 1506) (by decide +kernel)⟩
theorem lw_p79 : lw_okq (⟨"MerryDuchyModel", "owesAll", "(I)I"⟩, 53) := ⟨⟨by decide +kernel, by decide +kernel⟩, List.mem_of_getElem? (i := 1213) (by decide +kernel), List.mem_of_getElem? (i := 1509) (by decide +kernel), List.mem_of_getElem? (i := 1510) (by decide +kernel)⟩
def lw_privs_5 : List (MethodName × Nat) := [(⟨"MerryDuchyModel", "bad", "(I)Z"⟩, 53), (⟨"MerryDuchyModel", "readNew", "(I)Z"⟩, 53), (⟨"MerryDuchyModel", "isName", "()Z"⟩, 53), (⟨"MerryDuchyModel", "readNumber", "(II)Z"⟩, 53), (⟨"MerryDuchyModel", "put", "(IZ)Z"⟩, 53), (⟨"MerryDuchyModel", "readForfeit", "()Z"⟩, 53), (⟨"MerryDuchyModel", "readMinds", "()Z"⟩, 53), (⟨"MerryDuchyModel", "isOne", "(II)Z"⟩, 53), (⟨"MerryDuchyModel", "readGood", "()Z"⟩, 53), (⟨"MerryDuchyModel", "readOwes", "()Z"⟩, 53), (⟨"MerryDuchyModel", "readEnd", "()Z"⟩, 53), (⟨"MerryDuchyModel", "isSign", "(I)Z"⟩, 53), (⟨"MerryDuchyModel", "startSo", "()V"⟩, 53), (⟨"MerryDuchyModel", "isMan", "(I)Z"⟩, 53), (⟨"MerryDuchyModel", "refuse", "()I"⟩, 53), (⟨"MerryDuchyModel", "owesAll", "(I)I"⟩, 53)]
theorem lw_r5 : ∀ q ∈ lw_privs_5, lw_okq q := List.forall_mem_cons.mpr ⟨lw_p64, List.forall_mem_cons.mpr ⟨lw_p65, List.forall_mem_cons.mpr ⟨lw_p66, List.forall_mem_cons.mpr ⟨lw_p67, List.forall_mem_cons.mpr ⟨lw_p68, List.forall_mem_cons.mpr ⟨lw_p69, List.forall_mem_cons.mpr ⟨lw_p70, List.forall_mem_cons.mpr ⟨lw_p71, List.forall_mem_cons.mpr ⟨lw_p72, List.forall_mem_cons.mpr ⟨lw_p73, List.forall_mem_cons.mpr ⟨lw_p74, List.forall_mem_cons.mpr ⟨lw_p75, List.forall_mem_cons.mpr ⟨lw_p76, List.forall_mem_cons.mpr ⟨lw_p77, List.forall_mem_cons.mpr ⟨lw_p78, List.forall_mem_cons.mpr ⟨lw_p79, fun _ h => absurd h List.not_mem_nil⟩⟩⟩⟩⟩⟩⟩⟩⟩⟩⟩⟩⟩⟩⟩⟩
theorem lw_p80 : lw_okq (⟨"MerryDuchyModel", "owesOf", "(II)I"⟩, 53) := ⟨⟨by decide +kernel, by decide +kernel⟩, List.mem_of_getElem? (i := 1213) (by decide +kernel), List.mem_of_getElem? (i := 1513) (by decide +kernel), List.mem_of_getElem? (i := 1514) (by decide +kernel)⟩
theorem lw_p81 : lw_okq (⟨"MerryDuchyModel", "owedAll", "(I)I"⟩, 53) := ⟨⟨by decide +kernel, by decide +kernel⟩, List.mem_of_getElem? (i := 1213) (by decide +kernel), List.mem_of_getElem? (i := 1517) (by decide +kernel), List.mem_of_getElem? (i := 1518) (by decide +kernel)⟩
theorem lw_p82 : lw_okq (⟨"MerryDuchyModel", "goodsOf", "(I)I"⟩, 53) := ⟨⟨by decide +kernel, by decide +kernel⟩, List.mem_of_getElem? (i := 1213) (by decide +kernel), List.mem_of_getElem? (i := 1521) (by decide +kernel), List.mem_of_getElem? (i := 1522) (by decide +kernel)⟩
theorem lw_p83 : lw_okq (⟨"MerryDuchyModel", "sumOf", "(II)I"⟩, 53) := ⟨⟨by decide +kernel, by decide +kernel⟩, List.mem_of_getElem? (i := 1213) (by decide +kernel), List.mem_of_getElem? (i := 1525) (by decide +kernel), List.mem_of_getElem? (i := 1526) (by decide +kernel)⟩
theorem lw_p84 : lw_okq (⟨"MerryDuchyModel", "isForfeit", "(I)Z"⟩, 53) := ⟨⟨by decide +kernel, by decide +kernel⟩, List.mem_of_getElem? (i := 1213) (by decide +kernel), List.mem_of_getElem? (i := 1533) (by decide +kernel), List.mem_of_getElem? (i := 1534) (by decide +kernel)⟩
theorem lw_p85 : lw_okq (⟨"MerryDuchyModel", "costOf", "(II)I"⟩, 53) := ⟨⟨by decide +kernel, by decide +kernel⟩, List.mem_of_getElem? (i := 1213) (by decide +kernel), List.mem_of_getElem? (i := 1537) (by decide +kernel), List.mem_of_getElem? (i := 1538) (by decide +kernel)⟩
theorem lw_p86 : lw_okq (⟨"MerryDuchyModel", "timesOf", "(II)I"⟩, 53) := ⟨⟨by decide +kernel, by decide +kernel⟩, List.mem_of_getElem? (i := 1213) (by decide +kernel), List.mem_of_getElem? (i := 1541) (by decide +kernel), List.mem_of_getElem? (i := 1542) (by decide +kernel)⟩
theorem lw_p87 : lw_okq (⟨"MerryDuchyModel", "costBy", "(III)I"⟩, 53) := ⟨⟨by decide +kernel, by decide +kernel⟩, List.mem_of_getElem? (i := 1213) (by decide +kernel), List.mem_of_getElem? (i := 1545) (by decide +kernel), List.mem_of_getElem? (i := 1546) (by decide +kernel)⟩
theorem lw_p88 : lw_okq (⟨"MerryDuchyModel", "isGood", "(I)Z"⟩, 53) := ⟨⟨by decide +kernel, by decide +kernel⟩, List.mem_of_getElem? (i := 1213) (by decide +kernel), List.mem_of_getElem? (i := 1560) (by decide +kernel), List.mem_of_getElem? (i := 1561) (by decide +kernel)⟩
theorem lw_p89 : lw_okq (⟨"MerryDuchyModel", "layRing", "()I"⟩, 53) := ⟨⟨by decide +kernel, by decide +kernel⟩, List.mem_of_getElem? (i := 1213) (by decide +kernel), List.mem_of_getElem? (i := 1580) (by decide +kernel), List.mem_of_getElem? (i := 1581) (by decide +kernel)⟩
theorem lw_p90 : lw_okq (⟨"MerryDuchyModel", "goesRound", "(II)Z"⟩, 53) := ⟨⟨by decide +kernel, by decide +kernel⟩, List.mem_of_getElem? (i := 1213) (by decide +kernel), List.mem_of_getElem? (i := 1584) (by decide +kernel), List.mem_of_getElem? (i := 1585) (by decide +kernel)⟩
theorem lw_p91 : lw_okq (⟨"MerryDuchyModel", "why", "(IIII)I"⟩, 53) := ⟨⟨by decide +kernel, by decide +kernel⟩, List.mem_of_getElem? (i := 1213) (by decide +kernel), List.mem_of_getElem? (i := 1596) (by decide +kernel), List.mem_of_getElem? (i := 1597) (by decide +kernel)⟩
theorem lw_p92 : lw_okq (⟨"MerryDuchyModel", "snap", "()V"⟩, 53) := ⟨⟨by decide +kernel, by decide +kernel⟩, List.mem_of_getElem? (i := 1213) (by decide +kernel), List.mem_of_getElem? (i := 1600) (by decide +kernel), List.mem_of_getElem? (i := 1601) (by decide +kernel)⟩
theorem lw_p93 : lw_okq (⟨"MerryDuchyModel", "doForfeit", "(II)I"⟩, 53) := ⟨⟨by decide +kernel, by decide +kernel⟩, List.mem_of_getElem? (i := 1213) (by decide +kernel), List.mem_of_getElem? (i := 1604) (by decide +kernel), List.mem_of_getElem? (i := 1605) (by decide +kernel)⟩
theorem lw_p94 : lw_okq (⟨"MerryDuchyModel", "act", "(IIII)I"⟩, 53) := ⟨⟨by decide +kernel, by decide +kernel⟩, List.mem_of_getElem? (i := 1213) (by decide +kernel), List.mem_of_getElem? (i := 1612) (by decide +kernel), List.mem_of_getElem? (i := 1613) (by decide +kernel)⟩
theorem lw_p95 : lw_okq (⟨"MerryDuchyModel", "live", "(IIII)V"⟩, 53) := ⟨⟨by decide +kernel, by decide +kernel⟩, List.mem_of_getElem? (i := 1213) (by decide +kernel), List.mem_of_getElem? (i := 1616) (by decide +kernel), List.mem_of_getElem? (i := 1617) (by decide +kernel)⟩
def lw_privs_6 : List (MethodName × Nat) := [(⟨"MerryDuchyModel", "owesOf", "(II)I"⟩, 53), (⟨"MerryDuchyModel", "owedAll", "(I)I"⟩, 53), (⟨"MerryDuchyModel", "goodsOf", "(I)I"⟩, 53), (⟨"MerryDuchyModel", "sumOf", "(II)I"⟩, 53), (⟨"MerryDuchyModel", "isForfeit", "(I)Z"⟩, 53), (⟨"MerryDuchyModel", "costOf", "(II)I"⟩, 53), (⟨"MerryDuchyModel", "timesOf", "(II)I"⟩, 53), (⟨"MerryDuchyModel", "costBy", "(III)I"⟩, 53), (⟨"MerryDuchyModel", "isGood", "(I)Z"⟩, 53), (⟨"MerryDuchyModel", "layRing", "()I"⟩, 53), (⟨"MerryDuchyModel", "goesRound", "(II)Z"⟩, 53), (⟨"MerryDuchyModel", "why", "(IIII)I"⟩, 53), (⟨"MerryDuchyModel", "snap", "()V"⟩, 53), (⟨"MerryDuchyModel", "doForfeit", "(II)I"⟩, 53), (⟨"MerryDuchyModel", "act", "(IIII)I"⟩, 53), (⟨"MerryDuchyModel", "live", "(IIII)V"⟩, 53)]
theorem lw_r6 : ∀ q ∈ lw_privs_6, lw_okq q := List.forall_mem_cons.mpr ⟨lw_p80, List.forall_mem_cons.mpr ⟨lw_p81, List.forall_mem_cons.mpr ⟨lw_p82, List.forall_mem_cons.mpr ⟨lw_p83, List.forall_mem_cons.mpr ⟨lw_p84, List.forall_mem_cons.mpr ⟨lw_p85, List.forall_mem_cons.mpr ⟨lw_p86, List.forall_mem_cons.mpr ⟨lw_p87, List.forall_mem_cons.mpr ⟨lw_p88, List.forall_mem_cons.mpr ⟨lw_p89, List.forall_mem_cons.mpr ⟨lw_p90, List.forall_mem_cons.mpr ⟨lw_p91, List.forall_mem_cons.mpr ⟨lw_p92, List.forall_mem_cons.mpr ⟨lw_p93, List.forall_mem_cons.mpr ⟨lw_p94, List.forall_mem_cons.mpr ⟨lw_p95, fun _ h => absurd h List.not_mem_nil⟩⟩⟩⟩⟩⟩⟩⟩⟩⟩⟩⟩⟩⟩⟩⟩
theorem lw_p96 : lw_okq (⟨"MerryDuchyModel", "doPay", "(III)V"⟩, 53) := ⟨⟨by decide +kernel, by decide +kernel⟩, List.mem_of_getElem? (i := 1213) (by decide +kernel), List.mem_of_getElem? (i := 1620) (by decide +kernel), List.mem_of_getElem? (i := 1621) (by decide +kernel)⟩
theorem lw_p97 : lw_okq (⟨"MerryDuchyModel", "doStrike", "()I"⟩, 53) := ⟨⟨by decide +kernel, by decide +kernel⟩, List.mem_of_getElem? (i := 1213) (by decide +kernel), List.mem_of_getElem? (i := 1624) (by decide +kernel), List.mem_of_getElem? (i := 1625) (by decide +kernel)⟩
theorem lw_p98 : lw_okq (⟨"MerryDuchyModel", "passWeeks", "(I)I"⟩, 53) := ⟨⟨by decide +kernel, by decide +kernel⟩, List.mem_of_getElem? (i := 1213) (by decide +kernel), List.mem_of_getElem? (i := 1648) (by decide +kernel), List.mem_of_getElem? (i := 1649) (by decide +kernel)⟩
theorem lw_p99 : lw_okq (⟨"MerryDuchyModel", "oneWeek", "()V"⟩, 53) := ⟨⟨by decide +kernel, by decide +kernel⟩, List.mem_of_getElem? (i := 1213) (by decide +kernel), List.mem_of_getElem? (i := 1652) (by decide +kernel), List.mem_of_getElem? (i := 1653) (by decide +kernel)⟩
theorem lw_p100 : lw_okq (⟨"MerryDuchyModel", "oftenBy", "(III)I"⟩, 53) := ⟨⟨by decide +kernel, by decide +kernel⟩, List.mem_of_getElem? (i := 1213) (by decide +kernel), List.mem_of_getElem? (i := 1661) (by decide +kernel), List.mem_of_getElem? (i := 1662) (by decide +kernel)⟩
theorem lw_p101 : lw_okq (⟨"MerryDuchyModel", "canDo", "(II)I"⟩, 53) := ⟨⟨by decide +kernel, by decide +kernel⟩, List.mem_of_getElem? (i := 1213) (by decide +kernel), List.mem_of_getElem? (i := 1665) (by decide +kernel), List.mem_of_getElem? (i := 1666) (by decide +kernel)⟩
theorem lw_p102 : lw_okq (⟨"MerryDuchyModel", "paysBy", "(III)I"⟩, 53) := ⟨⟨by decide +kernel, by decide +kernel⟩, List.mem_of_getElem? (i := 1213) (by decide +kernel), List.mem_of_getElem? (i := 1669) (by decide +kernel), List.mem_of_getElem? (i := 1670) (by decide +kernel)⟩
theorem lw_p103 : lw_okq (⟨"MerryDuchyModel", "lastsOf", "(II)I"⟩, 53) := ⟨⟨by decide +kernel, by decide +kernel⟩, List.mem_of_getElem? (i := 1213) (by decide +kernel), List.mem_of_getElem? (i := 1681) (by decide +kernel), List.mem_of_getElem? (i := 1682) (by decide +kernel)⟩
theorem lw_p104 : lw_okq (⟨"MerryDuchyModel", "mostAlike", "(II)I"⟩, 53) := ⟨⟨by decide +kernel, by decide +kernel⟩, List.mem_of_getElem? (i := 1213) (by decide +kernel), List.mem_of_getElem? (i := 1700) (by decide +kernel), List.mem_of_getElem? (i := 1701) (by decide +kernel)⟩
theorem lw_p105 : lw_okq (⟨"MerryDuchyModel", "layReach", "(I)V"⟩, 53) := ⟨⟨by decide +kernel, by decide +kernel⟩, List.mem_of_getElem? (i := 1213) (by decide +kernel), List.mem_of_getElem? (i := 1716) (by decide +kernel), List.mem_of_getElem? (i := 1717) (by decide +kernel)⟩
theorem lw_p106 : lw_okq (⟨"MerryDuchyModel", "mayDo", "(III)Z"⟩, 53) := ⟨⟨by decide +kernel, by decide +kernel⟩, List.mem_of_getElem? (i := 1213) (by decide +kernel), List.mem_of_getElem? (i := 1720) (by decide +kernel), List.mem_of_getElem? (i := 1721) (by decide +kernel)⟩
theorem lw_p107 : lw_okq (⟨"MerryDuchyModel", "writeWord", "(J)V"⟩, 53) := ⟨⟨by decide +kernel, by decide +kernel⟩, List.mem_of_getElem? (i := 1213) (by decide +kernel), List.mem_of_getElem? (i := 1736) (by decide +kernel), List.mem_of_getElem? (i := 1737) (by decide +kernel)⟩
theorem lw_p108 : lw_okq (⟨"MerryDuchyModel", "write", "(I)V"⟩, 53) := ⟨⟨by decide +kernel, by decide +kernel⟩, List.mem_of_getElem? (i := 1213) (by decide +kernel), List.mem_of_getElem? (i := 1740) (by decide +kernel), List.mem_of_getElem? (i := 1741) (by decide +kernel)⟩
theorem lw_p109 : lw_okq (⟨"MerryDuchyModel", "writeNext", "(J)V"⟩, 53) := ⟨⟨by decide +kernel, by decide +kernel⟩, List.mem_of_getElem? (i := 1213) (by decide +kernel), List.mem_of_getElem? (i := 1744) (by decide +kernel), List.mem_of_getElem? (i := 1745) (by decide +kernel)⟩
theorem lw_p110 : lw_okq (⟨"MerryDuchyModel", "writeNumber", "(I)V"⟩, 53) := ⟨⟨by decide +kernel, by decide +kernel⟩, List.mem_of_getElem? (i := 1213) (by decide +kernel), List.mem_of_getElem? (i := 1748) (by decide +kernel), List.mem_of_getElem? (i := 1749) (by decide +kernel)⟩
theorem lw_p111 : lw_okq (⟨"MerryDuchyModel", "drawWeeks", "(II)I"⟩, 53) := ⟨⟨by decide +kernel, by decide +kernel⟩, List.mem_of_getElem? (i := 1213) (by decide +kernel), List.mem_of_getElem? (i := 1760) (by decide +kernel), List.mem_of_getElem? (i := 1761) (by decide +kernel)⟩
def lw_privs_7 : List (MethodName × Nat) := [(⟨"MerryDuchyModel", "doPay", "(III)V"⟩, 53), (⟨"MerryDuchyModel", "doStrike", "()I"⟩, 53), (⟨"MerryDuchyModel", "passWeeks", "(I)I"⟩, 53), (⟨"MerryDuchyModel", "oneWeek", "()V"⟩, 53), (⟨"MerryDuchyModel", "oftenBy", "(III)I"⟩, 53), (⟨"MerryDuchyModel", "canDo", "(II)I"⟩, 53), (⟨"MerryDuchyModel", "paysBy", "(III)I"⟩, 53), (⟨"MerryDuchyModel", "lastsOf", "(II)I"⟩, 53), (⟨"MerryDuchyModel", "mostAlike", "(II)I"⟩, 53), (⟨"MerryDuchyModel", "layReach", "(I)V"⟩, 53), (⟨"MerryDuchyModel", "mayDo", "(III)Z"⟩, 53), (⟨"MerryDuchyModel", "writeWord", "(J)V"⟩, 53), (⟨"MerryDuchyModel", "write", "(I)V"⟩, 53), (⟨"MerryDuchyModel", "writeNext", "(J)V"⟩, 53), (⟨"MerryDuchyModel", "writeNumber", "(I)V"⟩, 53), (⟨"MerryDuchyModel", "drawWeeks", "(II)I"⟩, 53)]
theorem lw_r7 : ∀ q ∈ lw_privs_7, lw_okq q := List.forall_mem_cons.mpr ⟨lw_p96, List.forall_mem_cons.mpr ⟨lw_p97, List.forall_mem_cons.mpr ⟨lw_p98, List.forall_mem_cons.mpr ⟨lw_p99, List.forall_mem_cons.mpr ⟨lw_p100, List.forall_mem_cons.mpr ⟨lw_p101, List.forall_mem_cons.mpr ⟨lw_p102, List.forall_mem_cons.mpr ⟨lw_p103, List.forall_mem_cons.mpr ⟨lw_p104, List.forall_mem_cons.mpr ⟨lw_p105, List.forall_mem_cons.mpr ⟨lw_p106, List.forall_mem_cons.mpr ⟨lw_p107, List.forall_mem_cons.mpr ⟨lw_p108, List.forall_mem_cons.mpr ⟨lw_p109, List.forall_mem_cons.mpr ⟨lw_p110, List.forall_mem_cons.mpr ⟨lw_p111, fun _ h => absurd h List.not_mem_nil⟩⟩⟩⟩⟩⟩⟩⟩⟩⟩⟩⟩⟩⟩⟩⟩
theorem lw_p112 : lw_okq (⟨"MerryDuchyModel", "draw", "(I)I"⟩, 53) := ⟨⟨by decide +kernel, by decide +kernel⟩, List.mem_of_getElem? (i := 1213) (by decide +kernel), List.mem_of_getElem? (i := 1764) (by decide +kernel), List.mem_of_getElem? (i := 1765) (by decide +kernel)⟩
theorem lw_p113 : lw_okq (⟨"MerryDuchyModel", "tryTo", "(III)V"⟩, 53) := ⟨⟨by decide +kernel, by decide +kernel⟩, List.mem_of_getElem? (i := 1213) (by decide +kernel), List.mem_of_getElem? (i := 1769) (by decide +kernel), List.mem_of_getElem? (i := 1770) (by decide +kernel)⟩
theorem lw_p114 : lw_okq (⟨"MerryDuchyModel", "layAside", "()V"⟩, 53) := ⟨⟨by decide +kernel, by decide +kernel⟩, List.mem_of_getElem? (i := 1213) (by decide +kernel), List.mem_of_getElem? (i := 1777) (by decide +kernel), List.mem_of_getElem? (i := 1778) (by decide +kernel)⟩
theorem lw_p115 : lw_okq (⟨"MerryDuchyModel", "takeBack", "()V"⟩, 53) := ⟨⟨by decide +kernel, by decide +kernel⟩, List.mem_of_getElem? (i := 1213) (by decide +kernel), List.mem_of_getElem? (i := 1781) (by decide +kernel), List.mem_of_getElem? (i := 1782) (by decide +kernel)⟩
theorem lw_p116 : lw_okq (⟨"MerryDuchyModel", "readBookLine", "()Z"⟩, 53) := ⟨⟨by decide +kernel, by decide +kernel⟩, List.mem_of_getElem? (i := 1213) (by decide +kernel), List.mem_of_getElem? (i := 1789) (by decide +kernel), List.mem_of_getElem? (i := 1790) (by decide +kernel)⟩
theorem lw_p117 : lw_okq (⟨"MerryDuchyModel", "readDoes", "(I)Z"⟩, 53) := ⟨⟨by decide +kernel, by decide +kernel⟩, List.mem_of_getElem? (i := 1213) (by decide +kernel), List.mem_of_getElem? (i := 1793) (by decide +kernel), List.mem_of_getElem? (i := 1794) (by decide +kernel)⟩
theorem lw_p118 : lw_okq (⟨"MerryDuchyModel", "readNamed", "(II)Z"⟩, 53) := ⟨⟨by decide +kernel, by decide +kernel⟩, List.mem_of_getElem? (i := 1213) (by decide +kernel), List.mem_of_getElem? (i := 1797) (by decide +kernel), List.mem_of_getElem? (i := 1798) (by decide +kernel)⟩
theorem lw_p119 : lw_okq (⟨"MerryDuchyModel", "keep", "(IZ)Z"⟩, 53) := ⟨⟨by decide +kernel, by decide +kernel⟩, List.mem_of_getElem? (i := 1213) (by decide +kernel), List.mem_of_getElem? (i := 1801) (by decide +kernel), List.mem_of_getElem? (i := 1802) (by decide +kernel)⟩
theorem lw_p120 : lw_okq (⟨"MerryDuchyModel", "goBy", "(I)I"⟩, 53) := ⟨⟨by decide +kernel, by decide +kernel⟩, List.mem_of_getElem? (i := 1213) (by decide +kernel), List.mem_of_getElem? (i := 1805) (by decide +kernel), List.mem_of_getElem? (i := 1806) (by decide +kernel)⟩
theorem lw_p121 : lw_okq (⟨"MerryDuchyModel", "stay", "(Z)V"⟩, 53) := ⟨⟨by decide +kernel, by decide +kernel⟩, List.mem_of_getElem? (i := 1213) (by decide +kernel), List.mem_of_getElem? (i := 1809) (by decide +kernel), List.mem_of_getElem? (i := 1810) (by decide +kernel)⟩
theorem lw_p122 : lw_okq (⟨"MerryDuchyModel", "readOr", "()Z"⟩, 53) := ⟨⟨by decide +kernel, by decide +kernel⟩, List.mem_of_getElem? (i := 1213) (by decide +kernel), List.mem_of_getElem? (i := 1821) (by decide +kernel), List.mem_of_getElem? (i := 1822) (by decide +kernel)⟩
theorem lw_p123 : lw_okq (⟨"MerryDuchyModel", "readAnd", "()Z"⟩, 53) := ⟨⟨by decide +kernel, by decide +kernel⟩, List.mem_of_getElem? (i := 1213) (by decide +kernel), List.mem_of_getElem? (i := 1825) (by decide +kernel), List.mem_of_getElem? (i := 1826) (by decide +kernel)⟩
theorem lw_p124 : lw_okq (⟨"MerryDuchyModel", "readSaid", "()Z"⟩, 53) := ⟨⟨by decide +kernel, by decide +kernel⟩, List.mem_of_getElem? (i := 1213) (by decide +kernel), List.mem_of_getElem? (i := 1829) (by decide +kernel), List.mem_of_getElem? (i := 1830) (by decide +kernel)⟩
theorem lw_p125 : lw_okq (⟨"MerryDuchyModel", "readBracket", "()Z"⟩, 53) := ⟨⟨by decide +kernel, by decide +kernel⟩, List.mem_of_getElem? (i := 1213) (by decide +kernel), List.mem_of_getElem? (i := 1833) (by decide +kernel), List.mem_of_getElem? (i := 1834) (by decide +kernel)⟩
theorem lw_p126 : lw_okq (⟨"MerryDuchyModel", "readNot", "()Z"⟩, 53) := ⟨⟨by decide +kernel, by decide +kernel⟩, List.mem_of_getElem? (i := 1213) (by decide +kernel), List.mem_of_getElem? (i := 1837) (by decide +kernel), List.mem_of_getElem? (i := 1838) (by decide +kernel)⟩
theorem lw_p127 : lw_okq (⟨"MerryDuchyModel", "saysOne", "(IIII)I"⟩, 53) := ⟨⟨by decide +kernel, by decide +kernel⟩, List.mem_of_getElem? (i := 1213) (by decide +kernel), List.mem_of_getElem? (i := 1841) (by decide +kernel), List.mem_of_getElem? (i := 1842) (by decide +kernel)⟩
def lw_privs_8 : List (MethodName × Nat) := [(⟨"MerryDuchyModel", "draw", "(I)I"⟩, 53), (⟨"MerryDuchyModel", "tryTo", "(III)V"⟩, 53), (⟨"MerryDuchyModel", "layAside", "()V"⟩, 53), (⟨"MerryDuchyModel", "takeBack", "()V"⟩, 53), (⟨"MerryDuchyModel", "readBookLine", "()Z"⟩, 53), (⟨"MerryDuchyModel", "readDoes", "(I)Z"⟩, 53), (⟨"MerryDuchyModel", "readNamed", "(II)Z"⟩, 53), (⟨"MerryDuchyModel", "keep", "(IZ)Z"⟩, 53), (⟨"MerryDuchyModel", "goBy", "(I)I"⟩, 53), (⟨"MerryDuchyModel", "stay", "(Z)V"⟩, 53), (⟨"MerryDuchyModel", "readOr", "()Z"⟩, 53), (⟨"MerryDuchyModel", "readAnd", "()Z"⟩, 53), (⟨"MerryDuchyModel", "readSaid", "()Z"⟩, 53), (⟨"MerryDuchyModel", "readBracket", "()Z"⟩, 53), (⟨"MerryDuchyModel", "readNot", "()Z"⟩, 53), (⟨"MerryDuchyModel", "saysOne", "(IIII)I"⟩, 53)]
theorem lw_r8 : ∀ q ∈ lw_privs_8, lw_okq q := List.forall_mem_cons.mpr ⟨lw_p112, List.forall_mem_cons.mpr ⟨lw_p113, List.forall_mem_cons.mpr ⟨lw_p114, List.forall_mem_cons.mpr ⟨lw_p115, List.forall_mem_cons.mpr ⟨lw_p116, List.forall_mem_cons.mpr ⟨lw_p117, List.forall_mem_cons.mpr ⟨lw_p118, List.forall_mem_cons.mpr ⟨lw_p119, List.forall_mem_cons.mpr ⟨lw_p120, List.forall_mem_cons.mpr ⟨lw_p121, List.forall_mem_cons.mpr ⟨lw_p122, List.forall_mem_cons.mpr ⟨lw_p123, List.forall_mem_cons.mpr ⟨lw_p124, List.forall_mem_cons.mpr ⟨lw_p125, List.forall_mem_cons.mpr ⟨lw_p126, List.forall_mem_cons.mpr ⟨lw_p127, fun _ h => absurd h List.not_mem_nil⟩⟩⟩⟩⟩⟩⟩⟩⟩⟩⟩⟩⟩⟩⟩⟩
theorem lw_p128 : lw_okq (⟨"MerryDuchyModel", "readOf", "(I)Z"⟩, 53) := ⟨⟨by decide +kernel, by decide +kernel⟩, List.mem_of_getElem? (i := 1213) (by decide +kernel), List.mem_of_getElem? (i := 1845) (by decide +kernel), List.mem_of_getElem? (i := 1846) (by decide +kernel)⟩
theorem lw_p129 : lw_okq (⟨"MerryDuchyModel", "readWhich", "(I)Z"⟩, 53) := ⟨⟨by decide +kernel, by decide +kernel⟩, List.mem_of_getElem? (i := 1213) (by decide +kernel), List.mem_of_getElem? (i := 1849) (by decide +kernel), List.mem_of_getElem? (i := 1850) (by decide +kernel)⟩
theorem lw_p130 : lw_okq (⟨"MerryDuchyModel", "readCompare", "(I)Z"⟩, 53) := ⟨⟨by decide +kernel, by decide +kernel⟩, List.mem_of_getElem? (i := 1213) (by decide +kernel), List.mem_of_getElem? (i := 1853) (by decide +kernel), List.mem_of_getElem? (i := 1854) (by decide +kernel)⟩
theorem lw_p131 : lw_okq (⟨"MerryDuchyModel", "holds", "(II)Z"⟩, 53) := ⟨⟨by decide +kernel, by decide +kernel⟩, List.mem_of_getElem? (i := 1213) (by decide +kernel), List.mem_of_getElem? (i := 1861) (by decide +kernel), List.mem_of_getElem? (i := 1862) (by decide +kernel)⟩
def lw_privs_9 : List (MethodName × Nat) := [(⟨"MerryDuchyModel", "readOf", "(I)Z"⟩, 53), (⟨"MerryDuchyModel", "readWhich", "(I)Z"⟩, 53), (⟨"MerryDuchyModel", "readCompare", "(I)Z"⟩, 53), (⟨"MerryDuchyModel", "holds", "(II)Z"⟩, 53)]
theorem lw_r9 : ∀ q ∈ lw_privs_9, lw_okq q := List.forall_mem_cons.mpr ⟨lw_p128, List.forall_mem_cons.mpr ⟨lw_p129, List.forall_mem_cons.mpr ⟨lw_p130, List.forall_mem_cons.mpr ⟨lw_p131, fun _ h => absurd h List.not_mem_nil⟩⟩⟩⟩
def lw_privs : List (MethodName × Nat) := lw_privs_1 ++ (lw_privs_2 ++ (lw_privs_3 ++ (lw_privs_4 ++ (lw_privs_5 ++ (lw_privs_6 ++ (lw_privs_7 ++ (lw_privs_8 ++ (lw_privs_9))))))))
def lw_tbl : List Cond := k2_sels lw_privs ++ tables_1
theorem lw_privs_ok : ∀ q ∈ lw_privs, lw_okq q := by
  show ∀ q ∈ lw_privs_1 ++ (lw_privs_2 ++ (lw_privs_3 ++ (lw_privs_4 ++ (lw_privs_5 ++ (lw_privs_6 ++ (lw_privs_7 ++ (lw_privs_8 ++ (lw_privs_9)))))))), lw_okq q
  exact List.forall_mem_append.mpr ⟨lw_r1, List.forall_mem_append.mpr ⟨lw_r2, List.forall_mem_append.mpr ⟨lw_r3, List.forall_mem_append.mpr ⟨lw_r4, List.forall_mem_append.mpr ⟨lw_r5, List.forall_mem_append.mpr ⟨lw_r6, List.forall_mem_append.mpr ⟨lw_r7, List.forall_mem_append.mpr ⟨lw_r8, lw_r9⟩⟩⟩⟩⟩⟩⟩⟩
def RX0 : String := "MerryDuchy$Acts"
def TX0 : u_T := fun k => match k with
  | 0 => ("MerryDuchy$Acts", "duchy", "LMerryDuchy$Duchy;", true)
  | 1 => ("MerryDuchy$Acts", "ring", "LMerryDuchy$Ring;", true)
  | 2 => ("MerryDuchy$Acts", "groups", "[I", true)
  | 3 => ("MerryDuchy$Acts", "balances", "[I", true)
  | _ => ("MerryDuchy$Acts", "seed", "I", false)
def tyX0 : Nat → FieldType := fun k => match k with
  | 0 => .object "MerryDuchy$Duchy"
  | 1 => .object "MerryDuchy$Ring"
  | 2 => .array .int
  | 3 => .array .int
  | _ => .int
theorem nmX0 : ∀ a, a < 5 → ∀ b, b < 5 → a ≠ b → (TX0 a).2.1 ≠ (TX0 b).2.1 := by decide +kernel
theorem tyX0_ok : ∀ k, k < 5 → parseFieldDescriptor (TX0 k).2.2.1 = some (tyX0 k) := by decide +kernel
abbrev cX0_init : ByteArray := prog_2_method_1_code
def yX0_init : MethodName := ⟨RX0, "<init>", "()V"⟩
abbrev cX0_whyNot : ByteArray := prog_2_method_2_code
def yX0_whyNot : MethodName := ⟨RX0, "whyNot", "(LMerryDuchy$State;IIII)I"⟩
abbrev cX0_perform : ByteArray := prog_2_method_3_code
def yX0_perform : MethodName := ⟨RX0, "perform", "(LMerryDuchy$State;IIII)I"⟩
abbrev cX0_doForfeit : ByteArray := prog_2_method_4_code
def yX0_doForfeit : MethodName := ⟨RX0, "doForfeit", "(LMerryDuchy$State;II)I"⟩
abbrev cX0_passWeeks : ByteArray := prog_2_method_5_code
def yX0_passWeeks : MethodName := ⟨RX0, "passWeeks", "(LMerryDuchy$State;I)V"⟩
abbrev cX0_drawWeeks : ByteArray := prog_2_method_6_code
def yX0_drawWeeks : MethodName := ⟨RX0, "drawWeeks", "(LMerryDuchy$State;II)V"⟩
abbrev cX0_drawAct : ByteArray := prog_2_method_7_code
def yX0_drawAct : MethodName := ⟨RX0, "drawAct", "(LMerryDuchy$State;I)V"⟩
abbrev cX0_drawOne : ByteArray := prog_2_method_8_code
def yX0_drawOne : MethodName := ⟨RX0, "drawOne", "(LMerryDuchy$State;III)V"⟩
abbrev cX0_draw : ByteArray := prog_2_method_9_code
def yX0_draw : MethodName := ⟨RX0, "draw", "(I)I"⟩
abbrev cX0_timesLeft : ByteArray := prog_2_method_10_code
def yX0_timesLeft : MethodName := ⟨RX0, "timesLeft", "(II)I"⟩
abbrev cX0_mildestForfeit : ByteArray := prog_2_method_11_code
def yX0_mildestForfeit : MethodName := ⟨RX0, "mildestForfeit", "(I)I"⟩
abbrev cX0_fewestPayments : ByteArray := prog_2_method_12_code
def yX0_fewestPayments : MethodName := ⟨RX0, "fewestPayments", "()I"⟩
abbrev cX0_balanceOf : ByteArray := prog_2_method_13_code
def yX0_balanceOf : MethodName := ⟨RX0, "balanceOf", "(I)I"⟩
def RX1 : String := "MerryDuchy$Book"
def TX1 : u_T := fun k => match k with
  | 0 => ("MerryDuchy$Book", "rows", "[I", true)
  | 1 => ("MerryDuchy$Book", "lines", "I", false)
  | 2 => ("MerryDuchy$Book", "told", "[I", true)
  | _ => ("MerryDuchy$Book", "toldRows", "I", false)
def tyX1 : Nat → FieldType := fun k => match k with
  | 0 => .array .int
  | 1 => .int
  | 2 => .array .int
  | _ => .int
theorem nmX1 : ∀ a, a < 4 → ∀ b, b < 4 → a ≠ b → (TX1 a).2.1 ≠ (TX1 b).2.1 := by decide +kernel
theorem tyX1_ok : ∀ k, k < 4 → parseFieldDescriptor (TX1 k).2.2.1 = some (tyX1 k) := by decide +kernel
abbrev cX1_init : ByteArray := prog_3_method_1_code
def yX1_init : MethodName := ⟨RX1, "<init>", "()V"⟩
abbrev cX1_readLines : ByteArray := prog_3_method_2_code
def yX1_readLines : MethodName := ⟨RX1, "readLines", "(LMerryDuchy$Tokens;LMerryDuchy$Duchy;)Z"⟩
abbrev cX1_readLine : ByteArray := prog_3_method_3_code
def yX1_readLine : MethodName := ⟨RX1, "readLine", "(LMerryDuchy$Tokens;LMerryDuchy$Duchy;)Z"⟩
abbrev cX1_readOfMan : ByteArray := prog_3_method_4_code
def yX1_readOfMan : MethodName := ⟨RX1, "readOfMan", "(LMerryDuchy$Tokens;LMerryDuchy$Duchy;I)Z"⟩
abbrev cX1_add : ByteArray := prog_3_method_5_code
def yX1_add : MethodName := ⟨RX1, "add", "(IIII)Z"⟩
abbrev cX1_live : ByteArray := prog_3_method_6_code
def yX1_live : MethodName := ⟨RX1, "live", "(LMerryDuchy$Acts;LMerryDuchy$State;)I"⟩
def RX2 : String := "MerryDuchy$Duchy"
def TX2 : u_T := fun k => match k with
  | 0 => ("MerryDuchy$Duchy", "counts", "[I", true)
  | 1 => ("MerryDuchy$Duchy", "names", "[J", true)
  | 2 => ("MerryDuchy$Duchy", "told", "[I", true)
  | 3 => ("MerryDuchy$Duchy", "bites", "[I", true)
  | 4 => ("MerryDuchy$Duchy", "minds", "[I", true)
  | 5 => ("MerryDuchy$Duchy", "worths", "[I", true)
  | 6 => ("MerryDuchy$Duchy", "wears", "I", false)
  | 7 => ("MerryDuchy$Duchy", "mends", "I", false)
  | 8 => ("MerryDuchy$Duchy", "state", "LMerryDuchy$State;", true)
  | _ => ("MerryDuchy$Duchy", "sentence", "LMerryDuchy$Sentence;", true)
def tyX2 : Nat → FieldType := fun k => match k with
  | 0 => .array .int
  | 1 => .array .long
  | 2 => .array .int
  | 3 => .array .int
  | 4 => .array .int
  | 5 => .array .int
  | 6 => .int
  | 7 => .int
  | 8 => .object "MerryDuchy$State"
  | _ => .object "MerryDuchy$Sentence"
theorem nmX2 : ∀ a, a < 10 → ∀ b, b < 10 → a ≠ b → (TX2 a).2.1 ≠ (TX2 b).2.1 := by decide +kernel
theorem tyX2_ok : ∀ k, k < 10 → parseFieldDescriptor (TX2 k).2.2.1 = some (tyX2 k) := by decide +kernel
abbrev cX2_init : ByteArray := prog_4_method_1_code
def yX2_init : MethodName := ⟨RX2, "<init>", "()V"⟩
abbrev cX2_men : ByteArray := prog_4_method_2_code
def yX2_men : MethodName := ⟨RX2, "men", "()I"⟩
abbrev cX2_forfeits : ByteArray := prog_4_method_3_code
def yX2_forfeits : MethodName := ⟨RX2, "forfeits", "()I"⟩
abbrev cX2_goods : ByteArray := prog_4_method_4_code
def yX2_goods : MethodName := ⟨RX2, "goods", "()I"⟩
abbrev cX2_has : ByteArray := prog_4_method_5_code
def yX2_has : MethodName := ⟨RX2, "has", "(II)Z"⟩
abbrev cX2_placeOf : ByteArray := prog_4_method_6_code
def yX2_placeOf : MethodName := ⟨RX2, "placeOf", "(J)I"⟩
abbrev cX2_costAfter : ByteArray := prog_4_method_7_code
def yX2_costAfter : MethodName := ⟨RX2, "costAfter", "(III)I"⟩
abbrev cX2_costNow : ByteArray := prog_4_method_8_code
def yX2_costNow : MethodName := ⟨RX2, "costNow", "(LMerryDuchy$State;II)I"⟩
abbrev cX2_takeAll : ByteArray := prog_4_method_9_code
def yX2_takeAll : MethodName := ⟨RX2, "takeAll", "(LMerryDuchy$Duchy;)V"⟩
abbrev cX2_readLines : ByteArray := prog_4_method_10_code
def yX2_readLines : MethodName := ⟨RX2, "readLines", "(LMerryDuchy$Tokens;)I"⟩
abbrev cX2_clear : ByteArray := prog_4_method_11_code
def yX2_clear : MethodName := ⟨RX2, "clear", "()V"⟩
abbrev cX2_fillWhatWasNotTold : ByteArray := prog_4_method_12_code
def yX2_fillWhatWasNotTold : MethodName := ⟨RX2, "fillWhatWasNotTold", "()V"⟩
abbrev cX2_readLine : ByteArray := prog_4_method_13_code
def yX2_readLine : MethodName := ⟨RX2, "readLine", "(LMerryDuchy$Tokens;)Z"⟩
abbrev cX2_takesFirstWord : ByteArray := prog_4_method_14_code
def yX2_takesFirstWord : MethodName := ⟨RX2, "takesFirstWord", "(LMerryDuchy$Tokens;I)Z"⟩
abbrev cX2_readMan : ByteArray := prog_4_method_15_code
def yX2_readMan : MethodName := ⟨RX2, "readMan", "(LMerryDuchy$Tokens;)Z"⟩
abbrev cX2_readForfeit : ByteArray := prog_4_method_16_code
def yX2_readForfeit : MethodName := ⟨RX2, "readForfeit", "(LMerryDuchy$Tokens;)Z"⟩
abbrev cX2_readGood : ByteArray := prog_4_method_17_code
def yX2_readGood : MethodName := ⟨RX2, "readGood", "(LMerryDuchy$Tokens;)Z"⟩
abbrev cX2_addName : ByteArray := prog_4_method_18_code
def yX2_addName : MethodName := ⟨RX2, "addName", "(IJ)I"⟩
abbrev cX2_readMinds : ByteArray := prog_4_method_19_code
def yX2_readMinds : MethodName := ⟨RX2, "readMinds", "(LMerryDuchy$Tokens;)Z"⟩
abbrev cX2_readOwes : ByteArray := prog_4_method_20_code
def yX2_readOwes : MethodName := ⟨RX2, "readOwes", "(LMerryDuchy$Tokens;)Z"⟩
abbrev cX2_readWears : ByteArray := prog_4_method_21_code
def yX2_readWears : MethodName := ⟨RX2, "readWears", "(LMerryDuchy$Tokens;)Z"⟩
abbrev cX2_readMends : ByteArray := prog_4_method_22_code
def yX2_readMends : MethodName := ⟨RX2, "readMends", "(LMerryDuchy$Tokens;)Z"⟩
def RX3 : String := "MerryDuchy$Fits"
def TX3 : u_T := fun k => match k with
  | 0 => ("MerryDuchy$Fits", "done", "[I", true)
  | _ => ("MerryDuchy$Fits", "telling", "I", false)
def tyX3 : Nat → FieldType := fun k => match k with
  | 0 => .array .int
  | _ => .int
theorem nmX3 : ∀ a, a < 2 → ∀ b, b < 2 → a ≠ b → (TX3 a).2.1 ≠ (TX3 b).2.1 := by decide +kernel
theorem tyX3_ok : ∀ k, k < 2 → parseFieldDescriptor (TX3 k).2.2.1 = some (tyX3 k) := by decide +kernel
abbrev cX3_init : ByteArray := prog_5_method_1_code
def yX3_init : MethodName := ⟨RX3, "<init>", "()V"⟩
abbrev cX3_find : ByteArray := prog_5_method_2_code
def yX3_find : MethodName := ⟨RX3, "find", "(LMerryDuchy$Duchy;[BI)I"⟩
abbrev cX3_mayHavePaid : ByteArray := prog_5_method_3_code
def yX3_mayHavePaid : MethodName := ⟨RX3, "mayHavePaid", "(LMerryDuchy$Duchy;I[BI)Z"⟩
abbrev cX3_countDone : ByteArray := prog_5_method_4_code
def yX3_countDone : MethodName := ⟨RX3, "countDone", "(LMerryDuchy$Duchy;[BI)V"⟩
abbrev cX3_mostTelling : ByteArray := prog_5_method_5_code
def yX3_mostTelling : MethodName := ⟨RX3, "mostTelling", "(LMerryDuchy$Duchy;I)I"⟩
abbrev cX3_mostLeft : ByteArray := prog_5_method_6_code
def yX3_mostLeft : MethodName := ⟨RX3, "mostLeft", "(LMerryDuchy$Duchy;II)I"⟩
def RX4 : String := "MerryDuchy$Past"
def TX4 : u_T := fun k => match k with
  | 0 => ("MerryDuchy$Past", "states", "[LMerryDuchy$State;", true)
  | 1 => ("MerryDuchy$Past", "next", "I", false)
  | _ => ("MerryDuchy$Past", "size", "I", false)
def tyX4 : Nat → FieldType := fun k => match k with
  | 0 => .array (.object "MerryDuchy$State")
  | 1 => .int
  | _ => .int
theorem nmX4 : ∀ a, a < 3 → ∀ b, b < 3 → a ≠ b → (TX4 a).2.1 ≠ (TX4 b).2.1 := by decide +kernel
theorem tyX4_ok : ∀ k, k < 3 → parseFieldDescriptor (TX4 k).2.2.1 = some (tyX4 k) := by decide +kernel
abbrev cX4_init : ByteArray := prog_6_method_1_code
def yX4_init : MethodName := ⟨RX4, "<init>", "()V"⟩
abbrev cX4_keep : ByteArray := prog_6_method_2_code
def yX4_keep : MethodName := ⟨RX4, "keep", "(LMerryDuchy$State;)V"⟩
abbrev cX4_giveBack : ByteArray := prog_6_method_3_code
def yX4_giveBack : MethodName := ⟨RX4, "giveBack", "(LMerryDuchy$State;)I"⟩
abbrev cX4_forget : ByteArray := prog_6_method_4_code
def yX4_forget : MethodName := ⟨RX4, "forget", "()V"⟩
def RX5 : String := "MerryDuchy$Plan"
def TX5 : u_T := fun k => match k with
  | 0 => ("MerryDuchy$Plan", "fewest", "[I", true)
  | 1 => ("MerryDuchy$Plan", "pays", "[I", true)
  | 2 => ("MerryDuchy$Plan", "times", "[I", true)
  | _ => ("MerryDuchy$Plan", "forfeits", "I", false)
def tyX5 : Nat → FieldType := fun k => match k with
  | 0 => .array .int
  | 1 => .array .int
  | 2 => .array .int
  | _ => .int
theorem nmX5 : ∀ a, a < 4 → ∀ b, b < 4 → a ≠ b → (TX5 a).2.1 ≠ (TX5 b).2.1 := by decide +kernel
theorem tyX5_ok : ∀ k, k < 4 → parseFieldDescriptor (TX5 k).2.2.1 = some (tyX5 k) := by decide +kernel
abbrev cX5_init : ByteArray := prog_7_method_1_code
def yX5_init : MethodName := ⟨RX5, "<init>", "()V"⟩
abbrev cX5_find : ByteArray := prog_7_method_2_code
def yX5_find : MethodName := ⟨RX5, "find", "(LMerryDuchy$Duchy;II)I"⟩
abbrev cX5_fillPays : ByteArray := prog_7_method_3_code
def yX5_fillPays : MethodName := ⟨RX5, "fillPays", "(LMerryDuchy$Duchy;II)V"⟩
abbrev cX5_fewestFor : ByteArray := prog_7_method_4_code
def yX5_fewestFor : MethodName := ⟨RX5, "fewestFor", "(II)I"⟩
abbrev cX5_choose : ByteArray := prog_7_method_5_code
def yX5_choose : MethodName := ⟨RX5, "choose", "(II)V"⟩
def RX6 : String := "MerryDuchy$Ring"
def TX6 : u_T := fun k => match k with
  | 0 => ("MerryDuchy$Ring", "men", "[I", true)
  | _ => ("MerryDuchy$Ring", "size", "I", false)
def tyX6 : Nat → FieldType := fun k => match k with
  | 0 => .array .int
  | _ => .int
theorem nmX6 : ∀ a, a < 2 → ∀ b, b < 2 → a ≠ b → (TX6 a).2.1 ≠ (TX6 b).2.1 := by decide +kernel
theorem tyX6_ok : ∀ k, k < 2 → parseFieldDescriptor (TX6 k).2.2.1 = some (tyX6 k) := by decide +kernel
abbrev cX6_init : ByteArray := prog_8_method_1_code
def yX6_init : MethodName := ⟨RX6, "<init>", "()V"⟩
abbrev cX6_takeAll : ByteArray := prog_8_method_2_code
def yX6_takeAll : MethodName := ⟨RX6, "takeAll", "(LMerryDuchy$Ring;)V"⟩
abbrev cX6_find : ByteArray := prog_8_method_3_code
def yX6_find : MethodName := ⟨RX6, "find", "(LMerryDuchy$State;I)Z"⟩
abbrev cX6_closes : ByteArray := prog_8_method_4_code
def yX6_closes : MethodName := ⟨RX6, "closes", "(LMerryDuchy$State;III)Z"⟩
abbrev cX6_strikeFrom : ByteArray := prog_8_method_5_code
def yX6_strikeFrom : MethodName := ⟨RX6, "strikeFrom", "(LMerryDuchy$State;)I"⟩
abbrev cX6_pairAt : ByteArray := prog_8_method_6_code
def yX6_pairAt : MethodName := ⟨RX6, "pairAt", "(I)I"⟩
def RX7 : String := "MerryDuchy$Sentence"
def TX7 : u_T := fun k => match k with
  | 0 => ("MerryDuchy$Sentence", "code", "[I", true)
  | 1 => ("MerryDuchy$Sentence", "stack", "[I", true)
  | 2 => ("MerryDuchy$Sentence", "length", "I", false)
  | _ => ("MerryDuchy$Sentence", "ones", "I", false)
def tyX7 : Nat → FieldType := fun k => match k with
  | 0 => .array .int
  | 1 => .array .int
  | 2 => .int
  | _ => .int
theorem nmX7 : ∀ a, a < 4 → ∀ b, b < 4 → a ≠ b → (TX7 a).2.1 ≠ (TX7 b).2.1 := by decide +kernel
theorem tyX7_ok : ∀ k, k < 4 → parseFieldDescriptor (TX7 k).2.2.1 = some (tyX7 k) := by decide +kernel
abbrev cX7_init : ByteArray := prog_9_method_1_code
def yX7_init : MethodName := ⟨RX7, "<init>", "()V"⟩
abbrev cX7_clear : ByteArray := prog_9_method_2_code
def yX7_clear : MethodName := ⟨RX7, "clear", "()V"⟩
abbrev cX7_takeAll : ByteArray := prog_9_method_3_code
def yX7_takeAll : MethodName := ⟨RX7, "takeAll", "(LMerryDuchy$Sentence;)V"⟩
abbrev cX7_readWhole : ByteArray := prog_9_method_4_code
def yX7_readWhole : MethodName := ⟨RX7, "readWhole", "(LMerryDuchy$Tokens;LMerryDuchy$Duchy;)Z"⟩
abbrev cX7_readCond : ByteArray := prog_9_method_5_code
def yX7_readCond : MethodName := ⟨RX7, "readCond", "(LMerryDuchy$Tokens;LMerryDuchy$Duchy;I)Z"⟩
abbrev cX7_readOne : ByteArray := prog_9_method_6_code
def yX7_readOne : MethodName := ⟨RX7, "readOne", "(LMerryDuchy$Tokens;LMerryDuchy$Duchy;I)Z"⟩
abbrev cX7_readPlainOne : ByteArray := prog_9_method_7_code
def yX7_readPlainOne : MethodName := ⟨RX7, "readPlainOne", "(LMerryDuchy$Tokens;LMerryDuchy$Duchy;I)Z"⟩
abbrev cX7_add : ByteArray := prog_9_method_8_code
def yX7_add : MethodName := ⟨RX7, "add", "(III)Z"⟩
abbrev cX7_menOf : ByteArray := prog_9_method_9_code
def yX7_menOf : MethodName := ⟨RX7, "menOf", "(LMerryDuchy$Duchy;)I"⟩
abbrev cX7_menOfOne : ByteArray := prog_9_method_10_code
def yX7_menOfOne : MethodName := ⟨RX7, "menOfOne", "(LMerryDuchy$Duchy;I)I"⟩
abbrev cX7_isSo : ByteArray := prog_9_method_11_code
def yX7_isSo : MethodName := ⟨RX7, "isSo", "(LMerryDuchy$Duchy;II)Z"⟩
abbrev cX7_holds : ByteArray := prog_9_method_12_code
def yX7_holds : MethodName := ⟨RX7, "holds", "(III)Z"⟩
def RX8 : String := "MerryDuchy$State"
def TX8 : u_T := fun k => match k with
  | 0 => ("MerryDuchy$State", "pride", "[I", true)
  | 1 => ("MerryDuchy$State", "credit", "[I", true)
  | 2 => ("MerryDuchy$State", "paid", "[I", true)
  | 3 => ("MerryDuchy$State", "stock", "[I", true)
  | 4 => ("MerryDuchy$State", "debts", "[I", true)
  | 5 => ("MerryDuchy$State", "times", "[I", true)
  | 6 => ("MerryDuchy$State", "bought", "[I", true)
  | _ => ("MerryDuchy$State", "week", "I", false)
def tyX8 : Nat → FieldType := fun k => match k with
  | 0 => .array .int
  | 1 => .array .int
  | 2 => .array .int
  | 3 => .array .int
  | 4 => .array .int
  | 5 => .array .int
  | 6 => .array .int
  | _ => .int
theorem nmX8 : ∀ a, a < 8 → ∀ b, b < 8 → a ≠ b → (TX8 a).2.1 ≠ (TX8 b).2.1 := by decide +kernel
theorem tyX8_ok : ∀ k, k < 8 → parseFieldDescriptor (TX8 k).2.2.1 = some (tyX8 k) := by decide +kernel
abbrev cX8_init : ByteArray := prog_10_method_1_code
def yX8_init : MethodName := ⟨RX8, "<init>", "()V"⟩
abbrev cX8_clear : ByteArray := prog_10_method_2_code
def yX8_clear : MethodName := ⟨RX8, "clear", "()V"⟩
abbrev cX8_takeAll : ByteArray := prog_10_method_3_code
def yX8_takeAll : MethodName := ⟨RX8, "takeAll", "(LMerryDuchy$State;)V"⟩
abbrev cX8_allOwedBy : ByteArray := prog_10_method_4_code
def yX8_allOwedBy : MethodName := ⟨RX8, "allOwedBy", "(I)I"⟩
abbrev cX8_allCredit : ByteArray := prog_10_method_5_code
def yX8_allCredit : MethodName := ⟨RX8, "allCredit", "()I"⟩
def RX9 : String := "MerryDuchy$Tax"
def TX9 : u_T := fun k => match k with
  | 0 => ("MerryDuchy$Tax", "costs", "[I", true)
  | 1 => ("MerryDuchy$Tax", "can", "[Z", true)
  | 2 => ("MerryDuchy$Tax", "chosen", "[I", true)
  | _ => ("MerryDuchy$Tax", "men", "I", false)
def tyX9 : Nat → FieldType := fun k => match k with
  | 0 => .array .int
  | 1 => .array .boolean
  | 2 => .array .int
  | _ => .int
theorem nmX9 : ∀ a, a < 4 → ∀ b, b < 4 → a ≠ b → (TX9 a).2.1 ≠ (TX9 b).2.1 := by decide +kernel
theorem tyX9_ok : ∀ k, k < 4 → parseFieldDescriptor (TX9 k).2.2.1 = some (tyX9 k) := by decide +kernel
abbrev cX9_init : ByteArray := prog_11_method_1_code
def yX9_init : MethodName := ⟨RX9, "<init>", "()V"⟩
abbrev cX9_find : ByteArray := prog_11_method_2_code
def yX9_find : MethodName := ⟨RX9, "find", "(LMerryDuchy$Duchy;I)I"⟩
abbrev cX9_fillCosts : ByteArray := prog_11_method_3_code
def yX9_fillCosts : MethodName := ⟨RX9, "fillCosts", "(LMerryDuchy$Duchy;)V"⟩
abbrev cX9_leastGreatest : ByteArray := prog_11_method_4_code
def yX9_leastGreatest : MethodName := ⟨RX9, "leastGreatest", "(I)I"⟩
abbrev cX9_dearest : ByteArray := prog_11_method_5_code
def yX9_dearest : MethodName := ⟨RX9, "dearest", "(II)I"⟩
abbrev cX9_fillCan : ByteArray := prog_11_method_6_code
def yX9_fillCan : MethodName := ⟨RX9, "fillCan", "(II)V"⟩
abbrev cX9_canPay : ByteArray := prog_11_method_7_code
def yX9_canPay : MethodName := ⟨RX9, "canPay", "(III)Z"⟩
abbrev cX9_choose : ByteArray := prog_11_method_8_code
def yX9_choose : MethodName := ⟨RX9, "choose", "(III)V"⟩
def RX10 : String := "MerryDuchy$Tokens"
def TX10 : u_T := fun k => match k with
  | 0 => ("MerryDuchy$Tokens", "bytes", "[B", true)
  | 1 => ("MerryDuchy$Tokens", "keyWords", "[J", true)
  | 2 => ("MerryDuchy$Tokens", "length", "I", false)
  | 3 => ("MerryDuchy$Tokens", "mostBytes", "I", false)
  | 4 => ("MerryDuchy$Tokens", "at", "I", false)
  | 5 => ("MerryDuchy$Tokens", "start", "I", false)
  | 6 => ("MerryDuchy$Tokens", "kind", "I", false)
  | 7 => ("MerryDuchy$Tokens", "key", "I", false)
  | 8 => ("MerryDuchy$Tokens", "word", "J", false)
  | 9 => ("MerryDuchy$Tokens", "value", "I", false)
  | 10 => ("MerryDuchy$Tokens", "takenWord", "J", false)
  | 11 => ("MerryDuchy$Tokens", "taken", "I", false)
  | 12 => ("MerryDuchy$Tokens", "fault", "I", false)
  | _ => ("MerryDuchy$Tokens", "place", "I", false)
def tyX10 : Nat → FieldType := fun k => match k with
  | 0 => .array .byte
  | 1 => .array .long
  | 2 => .int
  | 3 => .int
  | 4 => .int
  | 5 => .int
  | 6 => .int
  | 7 => .int
  | 8 => .long
  | 9 => .int
  | 10 => .long
  | 11 => .int
  | 12 => .int
  | _ => .int
theorem nmX10 : ∀ a, a < 14 → ∀ b, b < 14 → a ≠ b → (TX10 a).2.1 ≠ (TX10 b).2.1 := by decide +kernel
theorem tyX10_ok : ∀ k, k < 14 → parseFieldDescriptor (TX10 k).2.2.1 = some (tyX10 k) := by decide +kernel
abbrev cX10_init : ByteArray := prog_12_method_1_code
def yX10_init : MethodName := ⟨RX10, "<init>", "()V"⟩
abbrev cX10_start : ByteArray := prog_12_method_2_code
def yX10_start : MethodName := ⟨RX10, "start", "(II)V"⟩
abbrev cX10_next : ByteArray := prog_12_method_3_code
def yX10_next : MethodName := ⟨RX10, "next", "()V"⟩
abbrev cX10_readRun : ByteArray := prog_12_method_4_code
def yX10_readRun : MethodName := ⟨RX10, "readRun", "()V"⟩
abbrev cX10_keyOf : ByteArray := prog_12_method_5_code
def yX10_keyOf : MethodName := ⟨RX10, "keyOf", "(J)I"⟩
abbrev cX10_readSign : ByteArray := prog_12_method_6_code
def yX10_readSign : MethodName := ⟨RX10, "readSign", "()V"⟩
abbrev cX10_fails : ByteArray := prog_12_method_7_code
def yX10_fails : MethodName := ⟨RX10, "fails", "(II)Z"⟩
abbrev cX10_isSign : ByteArray := prog_12_method_8_code
def yX10_isSign : MethodName := ⟨RX10, "isSign", "(I)Z"⟩
abbrev cX10_takesSign : ByteArray := prog_12_method_9_code
def yX10_takesSign : MethodName := ⟨RX10, "takesSign", "(I)Z"⟩
abbrev cX10_takesNumber : ByteArray := prog_12_method_10_code
def yX10_takesNumber : MethodName := ⟨RX10, "takesNumber", "(II)Z"⟩
abbrev cX10_takesNewName : ByteArray := prog_12_method_11_code
def yX10_takesNewName : MethodName := ⟨RX10, "takesNewName", "(LMerryDuchy$Duchy;)Z"⟩
abbrev cX10_takesName : ByteArray := prog_12_method_12_code
def yX10_takesName : MethodName := ⟨RX10, "takesName", "(LMerryDuchy$Duchy;I)Z"⟩
def RX11 : String := "MerryDuchy"
def TX11 : u_T := fun k => match k with
  | 0 => ("MerryDuchy", "tokens", "LMerryDuchy$Tokens;", true)
  | 1 => ("MerryDuchy", "tape", "[B", true)
  | 2 => ("MerryDuchy", "tapeLength", "I", false)
  | 3 => ("MerryDuchy", "latestFault", "I", false)
  | 4 => ("MerryDuchy", "acts", "LMerryDuchy$Acts;", true)
  | 5 => ("MerryDuchy", "here", "LMerryDuchy$Duchy;", true)
  | 6 => ("MerryDuchy", "draft", "LMerryDuchy$Duchy;", true)
  | 7 => ("MerryDuchy", "images", "[LMerryDuchy$Duchy;", true)
  | 8 => ("MerryDuchy", "imaged", "[Z", true)
  | 9 => ("MerryDuchy", "trial", "LMerryDuchy$State;", true)
  | 10 => ("MerryDuchy", "past", "LMerryDuchy$Past;", true)
  | 11 => ("MerryDuchy", "latestRing", "LMerryDuchy$Ring;", true)
  | 12 => ("MerryDuchy", "latestPlan", "LMerryDuchy$Plan;", true)
  | 13 => ("MerryDuchy", "latestTax", "LMerryDuchy$Tax;", true)
  | 14 => ("MerryDuchy", "latestFits", "LMerryDuchy$Fits;", true)
  | 15 => ("MerryDuchy", "latestBook", "LMerryDuchy$Book;", true)
  | 16 => ("MerryDuchy", "latestList", "[B", true)
  | _ => ("MerryDuchy", "listLength", "I", false)
def tyX11 : Nat → FieldType := fun k => match k with
  | 0 => .object "MerryDuchy$Tokens"
  | 1 => .array .byte
  | 2 => .int
  | 3 => .int
  | 4 => .object "MerryDuchy$Acts"
  | 5 => .object "MerryDuchy$Duchy"
  | 6 => .object "MerryDuchy$Duchy"
  | 7 => .array (.object "MerryDuchy$Duchy")
  | 8 => .array .boolean
  | 9 => .object "MerryDuchy$State"
  | 10 => .object "MerryDuchy$Past"
  | 11 => .object "MerryDuchy$Ring"
  | 12 => .object "MerryDuchy$Plan"
  | 13 => .object "MerryDuchy$Tax"
  | 14 => .object "MerryDuchy$Fits"
  | 15 => .object "MerryDuchy$Book"
  | 16 => .array .byte
  | _ => .int
theorem nmX11 : ∀ a, a < 18 → ∀ b, b < 18 → a ≠ b → (TX11 a).2.1 ≠ (TX11 b).2.1 := by decide +kernel
theorem tyX11_ok : ∀ k, k < 18 → parseFieldDescriptor (TX11 k).2.2.1 = some (tyX11 k) := by decide +kernel
abbrev cX11_init : ByteArray := prog_1_method_1_code
def yX11_init : MethodName := ⟨RX11, "<init>", "()V"⟩
abbrev cX11_feed : ByteArray := prog_1_method_2_code
def yX11_feed : MethodName := ⟨RX11, "feed", "(IIIII)I"⟩
abbrev cX11_feedNumber : ByteArray := prog_1_method_3_code
def yX11_feedNumber : MethodName := ⟨RX11, "feedNumber", "(I)V"⟩
abbrev cX11_end : ByteArray := prog_1_method_4_code
def yX11_end : MethodName := ⟨RX11, "end", "(I)Z"⟩
abbrev cX11_duchy : ByteArray := prog_1_method_5_code
def yX11_duchy : MethodName := ⟨RX11, "duchy", "()I"⟩
abbrev cX11_startTokens : ByteArray := prog_1_method_6_code
def yX11_startTokens : MethodName := ⟨RX11, "startTokens", "(I)V"⟩
abbrev cX11_fault : ByteArray := prog_1_method_7_code
def yX11_fault : MethodName := ⟨RX11, "fault", "()I"⟩
abbrev cX11_man : ByteArray := prog_1_method_8_code
def yX11_man : MethodName := ⟨RX11, "man", "(II)I"⟩
abbrev cX11_goodsOf : ByteArray := prog_1_method_9_code
def yX11_goodsOf : MethodName := ⟨RX11, "goodsOf", "(I)I"⟩
abbrev cX11_cost : ByteArray := prog_1_method_10_code
def yX11_cost : MethodName := ⟨RX11, "cost", "(II)I"⟩
abbrev cX11_times : ByteArray := prog_1_method_11_code
def yX11_times : MethodName := ⟨RX11, "times", "(II)I"⟩
abbrev cX11_bought : ByteArray := prog_1_method_12_code
def yX11_bought : MethodName := ⟨RX11, "bought", "(II)I"⟩
abbrev cX11_good : ByteArray := prog_1_method_13_code
def yX11_good : MethodName := ⟨RX11, "good", "(II)I"⟩
abbrev cX11_owes : ByteArray := prog_1_method_14_code
def yX11_owes : MethodName := ⟨RX11, "owes", "(II)I"⟩
abbrev cX11_now : ByteArray := prog_1_method_15_code
def yX11_now : MethodName := ⟨RX11, "now", "(I)I"⟩
abbrev cX11_forfeit : ByteArray := prog_1_method_16_code
def yX11_forfeit : MethodName := ⟨RX11, "forfeit", "(II)I"⟩
abbrev cX11_buy : ByteArray := prog_1_method_17_code
def yX11_buy : MethodName := ⟨RX11, "buy", "(II)I"⟩
abbrev cX11_lend : ByteArray := prog_1_method_18_code
def yX11_lend : MethodName := ⟨RX11, "lend", "(III)I"⟩
abbrev cX11_repay : ByteArray := prog_1_method_19_code
def yX11_repay : MethodName := ⟨RX11, "repay", "(III)I"⟩
abbrev cX11_triedBetween : ByteArray := prog_1_method_20_code
def yX11_triedBetween : MethodName := ⟨RX11, "triedBetween", "(IIII)I"⟩
abbrev cX11_strike : ByteArray := prog_1_method_21_code
def yX11_strike : MethodName := ⟨RX11, "strike", "()I"⟩
abbrev cX11_tried : ByteArray := prog_1_method_22_code
def yX11_tried : MethodName := ⟨RX11, "tried", "(IIII)I"⟩
abbrev cX11_done : ByteArray := prog_1_method_23_code
def yX11_done : MethodName := ⟨RX11, "done", "(IIII)I"⟩
abbrev cX11_weeks : ByteArray := prog_1_method_24_code
def yX11_weeks : MethodName := ⟨RX11, "weeks", "(I)I"⟩
abbrev cX11_weeksToGo : ByteArray := prog_1_method_25_code
def yX11_weeksToGo : MethodName := ⟨RX11, "weeksToGo", "(LMerryDuchy$State;I)I"⟩
abbrev cX11_undo : ByteArray := prog_1_method_26_code
def yX11_undo : MethodName := ⟨RX11, "undo", "()I"⟩
abbrev cX11_ring : ByteArray := prog_1_method_27_code
def yX11_ring : MethodName := ⟨RX11, "ring", "()I"⟩
abbrev cX11_ringAt : ByteArray := prog_1_method_28_code
def yX11_ringAt : MethodName := ⟨RX11, "ringAt", "(I)I"⟩
abbrev cX11_plan : ByteArray := prog_1_method_29_code
def yX11_plan : MethodName := ⟨RX11, "plan", "(II)I"⟩
abbrev cX11_planned : ByteArray := prog_1_method_30_code
def yX11_planned : MethodName := ⟨RX11, "planned", "(I)I"⟩
abbrev cX11_lasts : ByteArray := prog_1_method_31_code
def yX11_lasts : MethodName := ⟨RX11, "lasts", "(II)I"⟩
abbrev cX11_worth : ByteArray := prog_1_method_32_code
def yX11_worth : MethodName := ⟨RX11, "worth", "(II)I"⟩
abbrev cX11_even : ByteArray := prog_1_method_33_code
def yX11_even : MethodName := ⟨RX11, "even", "()I"⟩
abbrev cX11_fits : ByteArray := prog_1_method_34_code
def yX11_fits : MethodName := ⟨RX11, "fits", "()I"⟩
abbrev cX11_tells : ByteArray := prog_1_method_35_code
def yX11_tells : MethodName := ⟨RX11, "tells", "()I"⟩
abbrev cX11_share : ByteArray := prog_1_method_36_code
def yX11_share : MethodName := ⟨RX11, "share", "(III)I"⟩
abbrev cX11_prideWithin : ByteArray := prog_1_method_37_code
def yX11_prideWithin : MethodName := ⟨RX11, "prideWithin", "(II)I"⟩
abbrev cX11_tax : ByteArray := prog_1_method_38_code
def yX11_tax : MethodName := ⟨RX11, "tax", "(I)I"⟩
abbrev cX11_taxOf : ByteArray := prog_1_method_39_code
def yX11_taxOf : MethodName := ⟨RX11, "taxOf", "(I)I"⟩
abbrev cX11_proudest : ByteArray := prog_1_method_40_code
def yX11_proudest : MethodName := ⟨RX11, "proudest", "()I"⟩
abbrev cX11_list : ByteArray := prog_1_method_41_code
def yX11_list : MethodName := ⟨RX11, "list", "(I)I"⟩
abbrev cX11_listName : ByteArray := prog_1_method_42_code
def yX11_listName : MethodName := ⟨RX11, "listName", "(II)V"⟩
abbrev cX11_listText : ByteArray := prog_1_method_43_code
def yX11_listText : MethodName := ⟨RX11, "listText", "(Ljava/lang/String;)V"⟩
abbrev cX11_listNumber : ByteArray := prog_1_method_44_code
def yX11_listNumber : MethodName := ⟨RX11, "listNumber", "(I)V"⟩
abbrev cX11_listByte : ByteArray := prog_1_method_45_code
def yX11_listByte : MethodName := ⟨RX11, "listByte", "(I)V"⟩
abbrev cX11_byteAt : ByteArray := prog_1_method_46_code
def yX11_byteAt : MethodName := ⟨RX11, "byteAt", "(I)I"⟩
abbrev cX11_drawn : ByteArray := prog_1_method_47_code
def yX11_drawn : MethodName := ⟨RX11, "drawn", "(II)I"⟩
abbrev cX11_odds : ByteArray := prog_1_method_48_code
def yX11_odds : MethodName := ⟨RX11, "odds", "(III)I"⟩
abbrev cX11_book : ByteArray := prog_1_method_49_code
def yX11_book : MethodName := ⟨RX11, "book", "(I)I"⟩
abbrev cX11_told : ByteArray := prog_1_method_50_code
def yX11_told : MethodName := ⟨RX11, "told", "(I)I"⟩
abbrev cX11_sentence : ByteArray := prog_1_method_51_code
def yX11_sentence : MethodName := ⟨RX11, "sentence", "()I"⟩
abbrev cX11_said : ByteArray := prog_1_method_52_code
def yX11_said : MethodName := ⟨RX11, "said", "(I)I"⟩
abbrev cX11_image : ByteArray := prog_1_method_53_code
def yX11_image : MethodName := ⟨RX11, "image", "(I)Z"⟩
abbrev cX11_restore : ByteArray := prog_1_method_54_code
def yX11_restore : MethodName := ⟨RX11, "restore", "(I)Z"⟩
abbrev cX11_count : ByteArray := prog_1_method_55_code
def yX11_count : MethodName := ⟨RX11, "count", "(I)I"⟩
abbrev cX11_sum : ByteArray := prog_1_method_56_code
def yX11_sum : MethodName := ⟨RX11, "sum", "([IIII)I"⟩
abbrev cX11_copyRow : ByteArray := prog_1_method_57_code
def yX11_copyRow : MethodName := ⟨RX11, "copyRow", "([I[I)V"⟩
def RX12 : String := "MerryDuchyModel"
def TX12 : u_T := fun k => match k with
  | 0 => ("MerryDuchyModel", "thrown", "I", false)
  | 1 => ("MerryDuchyModel", "tape", "[I", true)
  | 2 => ("MerryDuchyModel", "taped", "I", false)
  | 3 => ("MerryDuchyModel", "size", "I", false)
  | 4 => ("MerryDuchyModel", "limit", "I", false)
  | 5 => ("MerryDuchyModel", "to", "I", false)
  | 6 => ("MerryDuchyModel", "from", "I", false)
  | 7 => ("MerryDuchyModel", "kind", "I", false)
  | 8 => ("MerryDuchyModel", "number", "I", false)
  | 9 => ("MerryDuchyModel", "sign", "I", false)
  | 10 => ("MerryDuchyModel", "fault", "I", false)
  | 11 => ("MerryDuchyModel", "place", "I", false)
  | 12 => ("MerryDuchyModel", "word", "J", false)
  | 13 => ("MerryDuchyModel", "told", "I", false)
  | 14 => ("MerryDuchyModel", "now", "[I", true)
  | 15 => ("MerryDuchyModel", "read", "[I", true)
  | 16 => ("MerryDuchyModel", "kept", "[I", true)
  | 17 => ("MerryDuchyModel", "snaps", "[I", true)
  | 18 => ("MerryDuchyModel", "aside", "[I", true)
  | 19 => ("MerryDuchyModel", "name", "[J", true)
  | 20 => ("MerryDuchyModel", "readName", "[J", true)
  | 21 => ("MerryDuchyModel", "keptName", "[J", true)
  | 22 => ("MerryDuchyModel", "isKept", "[Z", true)
  | 23 => ("MerryDuchyModel", "snapMany", "I", false)
  | 24 => ("MerryDuchyModel", "hasWears", "Z", false)
  | 25 => ("MerryDuchyModel", "hasMends", "Z", false)
  | 26 => ("MerryDuchyModel", "going", "[I", true)
  | 27 => ("MerryDuchyModel", "ring", "[I", true)
  | 28 => ("MerryDuchyModel", "ringMany", "I", false)
  | 29 => ("MerryDuchyModel", "often", "[I", true)
  | 30 => ("MerryDuchyModel", "planned", "[I", true)
  | 31 => ("MerryDuchyModel", "planMany", "I", false)
  | 32 => ("MerryDuchyModel", "hasPlan", "Z", false)
  | 33 => ("MerryDuchyModel", "groups", "[I", true)
  | 34 => ("MerryDuchyModel", "apart", "[I", true)
  | 35 => ("MerryDuchyModel", "telling", "I", false)
  | 36 => ("MerryDuchyModel", "doneBy", "[I", true)
  | 37 => ("MerryDuchyModel", "costs", "[I", true)
  | 38 => ("MerryDuchyModel", "reach", "[Z", true)
  | 39 => ("MerryDuchyModel", "taxed", "[I", true)
  | 40 => ("MerryDuchyModel", "hasTax", "Z", false)
  | 41 => ("MerryDuchyModel", "text", "[I", true)
  | 42 => ("MerryDuchyModel", "texts", "I", false)
  | 43 => ("MerryDuchyModel", "seed", "I", false)
  | 44 => ("MerryDuchyModel", "line", "[I", true)
  | 45 => ("MerryDuchyModel", "written", "[I", true)
  | 46 => ("MerryDuchyModel", "lineMany", "I", false)
  | 47 => ("MerryDuchyModel", "hasWritten", "Z", false)
  | 48 => ("MerryDuchyModel", "node", "[I", true)
  | 49 => ("MerryDuchyModel", "nodes", "I", false)
  | 50 => ("MerryDuchyModel", "onesMany", "I", false)
  | 51 => ("MerryDuchyModel", "within", "I", false)
  | _ => ("MerryDuchyModel", "top", "I", false)
def tyX12 : Nat → FieldType := fun k => match k with
  | 0 => .int
  | 1 => .array .int
  | 2 => .int
  | 3 => .int
  | 4 => .int
  | 5 => .int
  | 6 => .int
  | 7 => .int
  | 8 => .int
  | 9 => .int
  | 10 => .int
  | 11 => .int
  | 12 => .long
  | 13 => .int
  | 14 => .array .int
  | 15 => .array .int
  | 16 => .array .int
  | 17 => .array .int
  | 18 => .array .int
  | 19 => .array .long
  | 20 => .array .long
  | 21 => .array .long
  | 22 => .array .boolean
  | 23 => .int
  | 24 => .boolean
  | 25 => .boolean
  | 26 => .array .int
  | 27 => .array .int
  | 28 => .int
  | 29 => .array .int
  | 30 => .array .int
  | 31 => .int
  | 32 => .boolean
  | 33 => .array .int
  | 34 => .array .int
  | 35 => .int
  | 36 => .array .int
  | 37 => .array .int
  | 38 => .array .boolean
  | 39 => .array .int
  | 40 => .boolean
  | 41 => .array .int
  | 42 => .int
  | 43 => .int
  | 44 => .array .int
  | 45 => .array .int
  | 46 => .int
  | 47 => .boolean
  | 48 => .array .int
  | 49 => .int
  | 50 => .int
  | 51 => .int
  | _ => .int
theorem nmX12 : ∀ a, a < 53 → ∀ b, b < 53 → a ≠ b → (TX12 a).2.1 ≠ (TX12 b).2.1 := by decide +kernel
theorem tyX12_ok : ∀ k, k < 53 → parseFieldDescriptor (TX12 k).2.2.1 = some (tyX12 k) := by decide +kernel
abbrev cX12_refuse : ByteArray := prog_14_method_2_code
def yX12_refuse : MethodName := ⟨RX12, "refuse", "()I"⟩
abbrev cX12_come : ByteArray := prog_14_method_3_code
def yX12_come : MethodName := ⟨RX12, "come", "(I)V"⟩
abbrev cX12_feed : ByteArray := prog_14_method_4_code
def yX12_feed : MethodName := ⟨RX12, "feed", "(IIIII)I"⟩
abbrev cX12_end : ByteArray := prog_14_method_5_code
def yX12_end : MethodName := ⟨RX12, "end", "(I)Z"⟩
abbrev cX12_take : ByteArray := prog_14_method_6_code
def yX12_take : MethodName := ⟨RX12, "take", "()I"⟩
abbrev cX12_isIn : ByteArray := prog_14_method_7_code
def yX12_isIn : MethodName := ⟨RX12, "isIn", "(III)Z"⟩
abbrev cX12_has : ByteArray := prog_14_method_8_code
def yX12_has : MethodName := ⟨RX12, "has", "(II)Z"⟩
abbrev cX12_least : ByteArray := prog_14_method_10_code
def yX12_least : MethodName := ⟨RX12, "least", "(II)I"⟩
abbrev cX12_tapeAt : ByteArray := prog_14_method_13_code
def yX12_tapeAt : MethodName := ⟨RX12, "tapeAt", "(I)I"⟩
abbrev cX12_isDigit : ByteArray := prog_14_method_14_code
def yX12_isDigit : MethodName := ⟨RX12, "isDigit", "(I)Z"⟩
abbrev cX12_isLetter : ByteArray := prog_14_method_15_code
def yX12_isLetter : MethodName := ⟨RX12, "isLetter", "(I)Z"⟩
abbrev cX12_go : ByteArray := prog_14_method_16_code
def yX12_go : MethodName := ⟨RX12, "go", "()V"⟩
abbrev cX12_spelt : ByteArray := prog_14_method_17_code
def yX12_spelt : MethodName := ⟨RX12, "spelt", "(IIIIIII)J"⟩
abbrev cX12_wordOf : ByteArray := prog_14_method_18_code
def yX12_wordOf : MethodName := ⟨RX12, "wordOf", "(I)J"⟩
abbrev cX12_isWord : ByteArray := prog_14_method_19_code
def yX12_isWord : MethodName := ⟨RX12, "isWord", "(I)Z"⟩
abbrev cX12_isSign : ByteArray := prog_14_method_20_code
def yX12_isSign : MethodName := ⟨RX12, "isSign", "(I)Z"⟩
abbrev cX12_isName : ByteArray := prog_14_method_21_code
def yX12_isName : MethodName := ⟨RX12, "isName", "()Z"⟩
abbrev cX12_bad : ByteArray := prog_14_method_22_code
def yX12_bad : MethodName := ⟨RX12, "bad", "(I)Z"⟩
abbrev cX12_readNumber : ByteArray := prog_14_method_23_code
def yX12_readNumber : MethodName := ⟨RX12, "readNumber", "(II)Z"⟩
abbrev cX12_readEnd : ByteArray := prog_14_method_24_code
def yX12_readEnd : MethodName := ⟨RX12, "readEnd", "()Z"⟩
abbrev cX12_begin : ByteArray := prog_14_method_25_code
def yX12_begin : MethodName := ⟨RX12, "begin", "(I)V"⟩
abbrev cX12_init : ByteArray := prog_14_method_26_code
def yX12_init : MethodName := ⟨RX12, "<init>", "()V"⟩
abbrev cX12_startSo : ByteArray := prog_14_method_27_code
def yX12_startSo : MethodName := ⟨RX12, "startSo", "()V"⟩
abbrev cX12_findIn : ByteArray := prog_14_method_28_code
def yX12_findIn : MethodName := ⟨RX12, "findIn", "([JIIJ)I"⟩
abbrev cX12_readNew : ByteArray := prog_14_method_29_code
def yX12_readNew : MethodName := ⟨RX12, "readNew", "(I)Z"⟩
abbrev cX12_isOne : ByteArray := prog_14_method_30_code
def yX12_isOne : MethodName := ⟨RX12, "isOne", "(II)Z"⟩
abbrev cX12_readFirst : ByteArray := prog_14_method_31_code
def yX12_readFirst : MethodName := ⟨RX12, "readFirst", "(II)Z"⟩
abbrev cX12_put : ByteArray := prog_14_method_32_code
def yX12_put : MethodName := ⟨RX12, "put", "(IZ)Z"⟩
abbrev cX12_readMan : ByteArray := prog_14_method_33_code
def yX12_readMan : MethodName := ⟨RX12, "readMan", "()Z"⟩
abbrev cX12_readForfeit : ByteArray := prog_14_method_34_code
def yX12_readForfeit : MethodName := ⟨RX12, "readForfeit", "()Z"⟩
abbrev cX12_readMinds : ByteArray := prog_14_method_35_code
def yX12_readMinds : MethodName := ⟨RX12, "readMinds", "()Z"⟩
abbrev cX12_readGood : ByteArray := prog_14_method_36_code
def yX12_readGood : MethodName := ⟨RX12, "readGood", "()Z"⟩
abbrev cX12_readOwes : ByteArray := prog_14_method_37_code
def yX12_readOwes : MethodName := ⟨RX12, "readOwes", "()Z"⟩
abbrev cX12_readLine : ByteArray := prog_14_method_38_code
def yX12_readLine : MethodName := ⟨RX12, "readLine", "()Z"⟩
abbrev cX12_duchy : ByteArray := prog_14_method_39_code
def yX12_duchy : MethodName := ⟨RX12, "duchy", "()I"⟩
abbrev cX12_fault : ByteArray := prog_14_method_40_code
def yX12_fault : MethodName := ⟨RX12, "fault", "()I"⟩
abbrev cX12_isMan : ByteArray := prog_14_method_41_code
def yX12_isMan : MethodName := ⟨RX12, "isMan", "(I)Z"⟩
abbrev cX12_isForfeit : ByteArray := prog_14_method_42_code
def yX12_isForfeit : MethodName := ⟨RX12, "isForfeit", "(I)Z"⟩
abbrev cX12_isGood : ByteArray := prog_14_method_43_code
def yX12_isGood : MethodName := ⟨RX12, "isGood", "(I)Z"⟩
abbrev cX12_costBy : ByteArray := prog_14_method_44_code
def yX12_costBy : MethodName := ⟨RX12, "costBy", "(III)I"⟩
abbrev cX12_costOf : ByteArray := prog_14_method_45_code
def yX12_costOf : MethodName := ⟨RX12, "costOf", "(II)I"⟩
abbrev cX12_timesOf : ByteArray := prog_14_method_46_code
def yX12_timesOf : MethodName := ⟨RX12, "timesOf", "(II)I"⟩
abbrev cX12_owesOf : ByteArray := prog_14_method_47_code
def yX12_owesOf : MethodName := ⟨RX12, "owesOf", "(II)I"⟩
abbrev cX12_owesAll : ByteArray := prog_14_method_48_code
def yX12_owesAll : MethodName := ⟨RX12, "owesAll", "(I)I"⟩
abbrev cX12_owedAll : ByteArray := prog_14_method_49_code
def yX12_owedAll : MethodName := ⟨RX12, "owedAll", "(I)I"⟩
abbrev cX12_goodsOf : ByteArray := prog_14_method_50_code
def yX12_goodsOf : MethodName := ⟨RX12, "goodsOf", "(I)I"⟩
abbrev cX12_sumOf : ByteArray := prog_14_method_51_code
def yX12_sumOf : MethodName := ⟨RX12, "sumOf", "(II)I"⟩
abbrev cX12_man : ByteArray := prog_14_method_52_code
def yX12_man : MethodName := ⟨RX12, "man", "(II)I"⟩
abbrev cX12_cost : ByteArray := prog_14_method_53_code
def yX12_cost : MethodName := ⟨RX12, "cost", "(II)I"⟩
abbrev cX12_times : ByteArray := prog_14_method_54_code
def yX12_times : MethodName := ⟨RX12, "times", "(II)I"⟩
abbrev cX12_bought : ByteArray := prog_14_method_55_code
def yX12_bought : MethodName := ⟨RX12, "bought", "(II)I"⟩
abbrev cX12_good : ByteArray := prog_14_method_56_code
def yX12_good : MethodName := ⟨RX12, "good", "(II)I"⟩
abbrev cX12_owes : ByteArray := prog_14_method_57_code
def yX12_owes : MethodName := ⟨RX12, "owes", "(II)I"⟩
abbrev cX12_now : ByteArray := prog_14_method_58_code
def yX12_now : MethodName := ⟨RX12, "now", "(I)I"⟩
abbrev cX12_goesRound : ByteArray := prog_14_method_59_code
def yX12_goesRound : MethodName := ⟨RX12, "goesRound", "(II)Z"⟩
abbrev cX12_layRing : ByteArray := prog_14_method_60_code
def yX12_layRing : MethodName := ⟨RX12, "layRing", "()I"⟩
abbrev cX12_ring : ByteArray := prog_14_method_61_code
def yX12_ring : MethodName := ⟨RX12, "ring", "()I"⟩
abbrev cX12_ringAt : ByteArray := prog_14_method_62_code
def yX12_ringAt : MethodName := ⟨RX12, "ringAt", "(I)I"⟩
abbrev cX12_snap : ByteArray := prog_14_method_63_code
def yX12_snap : MethodName := ⟨RX12, "snap", "()V"⟩
abbrev cX12_why : ByteArray := prog_14_method_64_code
def yX12_why : MethodName := ⟨RX12, "why", "(IIII)I"⟩
abbrev cX12_doForfeit : ByteArray := prog_14_method_65_code
def yX12_doForfeit : MethodName := ⟨RX12, "doForfeit", "(II)I"⟩
abbrev cX12_doPay : ByteArray := prog_14_method_66_code
def yX12_doPay : MethodName := ⟨RX12, "doPay", "(III)V"⟩
abbrev cX12_doStrike : ByteArray := prog_14_method_67_code
def yX12_doStrike : MethodName := ⟨RX12, "doStrike", "()I"⟩
abbrev cX12_live : ByteArray := prog_14_method_68_code
def yX12_live : MethodName := ⟨RX12, "live", "(IIII)V"⟩
abbrev cX12_act : ByteArray := prog_14_method_69_code
def yX12_act : MethodName := ⟨RX12, "act", "(IIII)I"⟩
abbrev cX12_forfeit : ByteArray := prog_14_method_70_code
def yX12_forfeit : MethodName := ⟨RX12, "forfeit", "(II)I"⟩
abbrev cX12_buy : ByteArray := prog_14_method_71_code
def yX12_buy : MethodName := ⟨RX12, "buy", "(II)I"⟩
abbrev cX12_lend : ByteArray := prog_14_method_72_code
def yX12_lend : MethodName := ⟨RX12, "lend", "(III)I"⟩
abbrev cX12_repay : ByteArray := prog_14_method_73_code
def yX12_repay : MethodName := ⟨RX12, "repay", "(III)I"⟩
abbrev cX12_strike : ByteArray := prog_14_method_74_code
def yX12_strike : MethodName := ⟨RX12, "strike", "()I"⟩
abbrev cX12_undo : ByteArray := prog_14_method_75_code
def yX12_undo : MethodName := ⟨RX12, "undo", "()I"⟩
abbrev cX12_oneWeek : ByteArray := prog_14_method_76_code
def yX12_oneWeek : MethodName := ⟨RX12, "oneWeek", "()V"⟩
abbrev cX12_passWeeks : ByteArray := prog_14_method_77_code
def yX12_passWeeks : MethodName := ⟨RX12, "passWeeks", "(I)I"⟩
abbrev cX12_weeks : ByteArray := prog_14_method_78_code
def yX12_weeks : MethodName := ⟨RX12, "weeks", "(I)I"⟩
abbrev cX12_paysBy : ByteArray := prog_14_method_79_code
def yX12_paysBy : MethodName := ⟨RX12, "paysBy", "(III)I"⟩
abbrev cX12_canDo : ByteArray := prog_14_method_80_code
def yX12_canDo : MethodName := ⟨RX12, "canDo", "(II)I"⟩
abbrev cX12_oftenBy : ByteArray := prog_14_method_81_code
def yX12_oftenBy : MethodName := ⟨RX12, "oftenBy", "(III)I"⟩
abbrev cX12_plan : ByteArray := prog_14_method_82_code
def yX12_plan : MethodName := ⟨RX12, "plan", "(II)I"⟩
abbrev cX12_planned : ByteArray := prog_14_method_83_code
def yX12_planned : MethodName := ⟨RX12, "planned", "(I)I"⟩
abbrev cX12_lastsOf : ByteArray := prog_14_method_84_code
def yX12_lastsOf : MethodName := ⟨RX12, "lastsOf", "(II)I"⟩
abbrev cX12_lasts : ByteArray := prog_14_method_85_code
def yX12_lasts : MethodName := ⟨RX12, "lasts", "(II)I"⟩
abbrev cX12_worth : ByteArray := prog_14_method_86_code
def yX12_worth : MethodName := ⟨RX12, "worth", "(II)I"⟩
abbrev cX12_even : ByteArray := prog_14_method_87_code
def yX12_even : MethodName := ⟨RX12, "even", "()I"⟩
abbrev cX12_fits : ByteArray := prog_14_method_88_code
def yX12_fits : MethodName := ⟨RX12, "fits", "()I"⟩
abbrev cX12_mostAlike : ByteArray := prog_14_method_89_code
def yX12_mostAlike : MethodName := ⟨RX12, "mostAlike", "(II)I"⟩
abbrev cX12_tells : ByteArray := prog_14_method_90_code
def yX12_tells : MethodName := ⟨RX12, "tells", "()I"⟩
abbrev cX12_share : ByteArray := prog_14_method_91_code
def yX12_share : MethodName := ⟨RX12, "share", "(III)I"⟩
abbrev cX12_mayDo : ByteArray := prog_14_method_92_code
def yX12_mayDo : MethodName := ⟨RX12, "mayDo", "(III)Z"⟩
abbrev cX12_layReach : ByteArray := prog_14_method_93_code
def yX12_layReach : MethodName := ⟨RX12, "layReach", "(I)V"⟩
abbrev cX12_tax : ByteArray := prog_14_method_94_code
def yX12_tax : MethodName := ⟨RX12, "tax", "(I)I"⟩
abbrev cX12_taxOf : ByteArray := prog_14_method_95_code
def yX12_taxOf : MethodName := ⟨RX12, "taxOf", "(I)I"⟩
abbrev cX12_proudest : ByteArray := prog_14_method_96_code
def yX12_proudest : MethodName := ⟨RX12, "proudest", "()I"⟩
abbrev cX12_write : ByteArray := prog_14_method_97_code
def yX12_write : MethodName := ⟨RX12, "write", "(I)V"⟩
abbrev cX12_writeWord : ByteArray := prog_14_method_98_code
def yX12_writeWord : MethodName := ⟨RX12, "writeWord", "(J)V"⟩
abbrev cX12_writeNumber : ByteArray := prog_14_method_99_code
def yX12_writeNumber : MethodName := ⟨RX12, "writeNumber", "(I)V"⟩
abbrev cX12_writeNext : ByteArray := prog_14_method_100_code
def yX12_writeNext : MethodName := ⟨RX12, "writeNext", "(J)V"⟩
abbrev cX12_list : ByteArray := prog_14_method_101_code
def yX12_list : MethodName := ⟨RX12, "list", "(I)I"⟩
abbrev cX12_byteAt : ByteArray := prog_14_method_102_code
def yX12_byteAt : MethodName := ⟨RX12, "byteAt", "(I)I"⟩
abbrev cX12_draw : ByteArray := prog_14_method_103_code
def yX12_draw : MethodName := ⟨RX12, "draw", "(I)I"⟩
abbrev cX12_tryTo : ByteArray := prog_14_method_104_code
def yX12_tryTo : MethodName := ⟨RX12, "tryTo", "(III)V"⟩
abbrev cX12_drawWeeks : ByteArray := prog_14_method_105_code
def yX12_drawWeeks : MethodName := ⟨RX12, "drawWeeks", "(II)I"⟩
abbrev cX12_drawn : ByteArray := prog_14_method_106_code
def yX12_drawn : MethodName := ⟨RX12, "drawn", "(II)I"⟩
abbrev cX12_layAside : ByteArray := prog_14_method_107_code
def yX12_layAside : MethodName := ⟨RX12, "layAside", "()V"⟩
abbrev cX12_takeBack : ByteArray := prog_14_method_108_code
def yX12_takeBack : MethodName := ⟨RX12, "takeBack", "()V"⟩
abbrev cX12_odds : ByteArray := prog_14_method_109_code
def yX12_odds : MethodName := ⟨RX12, "odds", "(III)I"⟩
abbrev cX12_readNamed : ByteArray := prog_14_method_110_code
def yX12_readNamed : MethodName := ⟨RX12, "readNamed", "(II)Z"⟩
abbrev cX12_keep : ByteArray := prog_14_method_111_code
def yX12_keep : MethodName := ⟨RX12, "keep", "(IZ)Z"⟩
abbrev cX12_readDoes : ByteArray := prog_14_method_112_code
def yX12_readDoes : MethodName := ⟨RX12, "readDoes", "(I)Z"⟩
abbrev cX12_readBookLine : ByteArray := prog_14_method_113_code
def yX12_readBookLine : MethodName := ⟨RX12, "readBookLine", "()Z"⟩
abbrev cX12_goBy : ByteArray := prog_14_method_114_code
def yX12_goBy : MethodName := ⟨RX12, "goBy", "(I)I"⟩
abbrev cX12_book : ByteArray := prog_14_method_115_code
def yX12_book : MethodName := ⟨RX12, "book", "(I)I"⟩
abbrev cX12_stay : ByteArray := prog_14_method_116_code
def yX12_stay : MethodName := ⟨RX12, "stay", "(Z)V"⟩
abbrev cX12_told : ByteArray := prog_14_method_117_code
def yX12_told : MethodName := ⟨RX12, "told", "(I)I"⟩
abbrev cX12_readWhich : ByteArray := prog_14_method_118_code
def yX12_readWhich : MethodName := ⟨RX12, "readWhich", "(I)Z"⟩
abbrev cX12_saysOne : ByteArray := prog_14_method_119_code
def yX12_saysOne : MethodName := ⟨RX12, "saysOne", "(IIII)I"⟩
abbrev cX12_readOr : ByteArray := prog_14_method_120_code
def yX12_readOr : MethodName := ⟨RX12, "readOr", "()Z"⟩
abbrev cX12_readAnd : ByteArray := prog_14_method_121_code
def yX12_readAnd : MethodName := ⟨RX12, "readAnd", "()Z"⟩
abbrev cX12_readSaid : ByteArray := prog_14_method_122_code
def yX12_readSaid : MethodName := ⟨RX12, "readSaid", "()Z"⟩
abbrev cX12_readNot : ByteArray := prog_14_method_123_code
def yX12_readNot : MethodName := ⟨RX12, "readNot", "()Z"⟩
abbrev cX12_readBracket : ByteArray := prog_14_method_124_code
def yX12_readBracket : MethodName := ⟨RX12, "readBracket", "()Z"⟩
abbrev cX12_readOf : ByteArray := prog_14_method_125_code
def yX12_readOf : MethodName := ⟨RX12, "readOf", "(I)Z"⟩
abbrev cX12_readCompare : ByteArray := prog_14_method_126_code
def yX12_readCompare : MethodName := ⟨RX12, "readCompare", "(I)Z"⟩
abbrev cX12_sentence : ByteArray := prog_14_method_127_code
def yX12_sentence : MethodName := ⟨RX12, "sentence", "()I"⟩
abbrev cX12_holds : ByteArray := prog_14_method_128_code
def yX12_holds : MethodName := ⟨RX12, "holds", "(II)Z"⟩
abbrev cX12_said : ByteArray := prog_14_method_129_code
def yX12_said : MethodName := ⟨RX12, "said", "(I)I"⟩
abbrev cX12_image : ByteArray := prog_14_method_130_code
def yX12_image : MethodName := ⟨RX12, "image", "(I)Z"⟩
abbrev cX12_restore : ByteArray := prog_14_method_131_code
def yX12_restore : MethodName := ⟨RX12, "restore", "(I)Z"⟩
abbrev cX12_count : ByteArray := prog_14_method_132_code
def yX12_count : MethodName := ⟨RX12, "count", "(I)I"⟩
def RJ6 : String := "java/lang/Integer"
abbrev cJ6_bitCount_0f7a4 : ByteArray := prog_19_method_49_code
def yJ6_bitCount_0f7a4 : MethodName := ⟨RJ6, "bitCount", "(I)I"⟩
def RJ7 : String := "java/util/Arrays"
abbrev cJ7_fill_53178 : ByteArray := prog_29_method_103_code
def yJ7_fill_53178 : MethodName := ⟨RJ7, "fill", "([II)V"⟩
def RL : String := "MerryDuchyLaw"
abbrev cL_man : ByteArray := method_3_code
def yL_man : MethodName := ⟨RL, "man", "(LMerryDuchy;II[J)I"⟩
abbrev cL_law : ByteArray := code
def yL_law : MethodName := ⟨RL, "law", "([I)Z"⟩
abbrev vwCl : List vw_C := [(RX0, TX0, 5), (RX1, TX1, 4), (RX2, TX2, 10), (RX3, TX3, 2), (RX4, TX4, 3), (RX5, TX5, 4), (RX6, TX6, 2), (RX7, TX7, 4), (RX8, TX8, 8), (RX9, TX9, 4), (RX10, TX10, 14), (RX11, TX11, 18), (RX12, TX12, 53)]
def gtbl : List Cond := lw_tbl.filter goodWord
theorem gm {w : Cond} (i : Nat) (h : lw_tbl[i]? = some w) (hg : goodWord w = true) : w ∈ gtbl := List.mem_filter.mpr ⟨List.mem_of_getElem? h, hg⟩
theorem gms {ws : List Cond} (ps : List Nat) (hp : ws = ps.filterMap (fun i => lw_tbl[i]?)) (h : ws.all goodWord = true) : ∀ w ∈ ws, w ∈ gtbl := by
  intro w hw
  have h1 := List.all_eq_true.mp h w hw
  rw [hp] at hw
  obtain ⟨i, -, hi⟩ := List.mem_filterMap.mp hw
  exact gm i hi h1
theorem gt1 {w : Cond} (i : Nat) (h : tables_1_1[i]? = some w) (hg : goodWord w = true) : w ∈ gtbl := List.mem_filter.mpr ⟨List.mem_append_right _ (List.mem_append_left _ (List.mem_of_getElem? h)), hg⟩
theorem gt2 {w : Cond} (i : Nat) (h : tables_1_2[i]? = some w) (hg : goodWord w = true) : w ∈ gtbl := List.mem_filter.mpr ⟨List.mem_append_right _ (List.mem_append_right _ (List.mem_append_left _ (List.mem_of_getElem? h))), hg⟩
theorem gt3 {w : Cond} (i : Nat) (h : tables_1_3[i]? = some w) (hg : goodWord w = true) : w ∈ gtbl := List.mem_filter.mpr ⟨List.mem_append_right _ (List.mem_append_right _ (List.mem_append_right _ (List.mem_append_left _ (List.mem_of_getElem? h)))), hg⟩
theorem gt4 {w : Cond} (i : Nat) (h : tables_1_4[i]? = some w) (hg : goodWord w = true) : w ∈ gtbl := List.mem_filter.mpr ⟨List.mem_append_right _ (List.mem_append_right _ (List.mem_append_right _ (List.mem_append_right _ (List.mem_append_left _ (List.mem_of_getElem? h))))), hg⟩
theorem gt5 {w : Cond} (i : Nat) (h : tables_1_5[i]? = some w) (hg : goodWord w = true) : w ∈ gtbl := List.mem_filter.mpr ⟨List.mem_append_right _ (List.mem_append_right _ (List.mem_append_right _ (List.mem_append_right _ (List.mem_append_right _ (List.mem_append_left _ (List.mem_of_getElem? h)))))), hg⟩
theorem gt6 {w : Cond} (i : Nat) (h : tables_1_6[i]? = some w) (hg : goodWord w = true) : w ∈ gtbl := List.mem_filter.mpr ⟨List.mem_append_right _ (List.mem_append_right _ (List.mem_append_right _ (List.mem_append_right _ (List.mem_append_right _ (List.mem_append_right _ (List.mem_append_left _ (List.mem_of_getElem? h))))))), hg⟩
theorem gt7 {w : Cond} (i : Nat) (h : tables_1_7[i]? = some w) (hg : goodWord w = true) : w ∈ gtbl := List.mem_filter.mpr ⟨List.mem_append_right _ (List.mem_append_right _ (List.mem_append_right _ (List.mem_append_right _ (List.mem_append_right _ (List.mem_append_right _ (List.mem_append_right _ (List.mem_append_left _ (List.mem_of_getElem? h)))))))), hg⟩
theorem gt8 {w : Cond} (i : Nat) (h : tables_1_8[i]? = some w) (hg : goodWord w = true) : w ∈ gtbl := List.mem_filter.mpr ⟨List.mem_append_right _ (List.mem_append_right _ (List.mem_append_right _ (List.mem_append_right _ (List.mem_append_right _ (List.mem_append_right _ (List.mem_append_right _ (List.mem_append_right _ (List.mem_of_getElem? h)))))))), hg⟩
theorem inC0 : ∀ w ∈ u_ws RX0 TX0 5, w ∈ gtbl := gms [450, 452, 454, 456, 458] (by decide +kernel) (by decide +kernel)
theorem inC1 : ∀ w ∈ u_ws RX1 TX1 4, w ∈ gtbl := gms [556, 558, 560, 562] (by decide +kernel) (by decide +kernel)
theorem inC2 : ∀ w ∈ u_ws RX2 TX2 10, w ∈ gtbl := gms [407, 409, 411, 413, 415, 417, 419, 421, 423, 425] (by decide +kernel) (by decide +kernel)
theorem inC3 : ∀ w ∈ u_ws RX3 TX3 2, w ∈ gtbl := gms [539, 541] (by decide +kernel) (by decide +kernel)
theorem inC4 : ∀ w ∈ u_ws RX4 TX4 3, w ∈ gtbl := gms [478, 480, 482] (by decide +kernel) (by decide +kernel)
theorem inC5 : ∀ w ∈ u_ws RX5 TX5 4, w ∈ gtbl := gms [500, 502, 504, 506] (by decide +kernel) (by decide +kernel)
theorem inC6 : ∀ w ∈ u_ws RX6 TX6 2, w ∈ gtbl := gms [438, 440] (by decide +kernel) (by decide +kernel)
theorem inC7 : ∀ w ∈ u_ws RX7 TX7 4, w ∈ gtbl := gms [372, 374, 376, 378] (by decide +kernel) (by decide +kernel)
theorem inC8 : ∀ w ∈ u_ws RX8 TX8 8, w ∈ gtbl := gms [342, 344, 346, 348, 350, 352, 354, 356] (by decide +kernel) (by decide +kernel)
theorem inC9 : ∀ w ∈ u_ws RX9 TX9 4, w ∈ gtbl := gms [521, 523, 525, 527] (by decide +kernel) (by decide +kernel)
theorem inC10 : ∀ w ∈ u_ws RX10 TX10 14, w ∈ gtbl := gms [254, 256, 258, 260, 262, 264, 266, 268, 270, 272, 274, 276, 278, 280] (by decide +kernel) (by decide +kernel)
theorem inC11 : ∀ w ∈ u_ws RX11 TX11 18, w ∈ gtbl := gms [583, 585, 587, 589, 591, 593, 595, 597, 599, 601, 603, 605, 607, 609, 611, 613, 615, 617] (by decide +kernel) (by decide +kernel)
theorem inC12 : ∀ w ∈ u_ws RX12 TX12 53, w ∈ gtbl := gms [1409, 1411, 1413, 1415, 1417, 1419, 1421, 1423, 1425, 1427, 1429, 1431, 1433, 1435, 1437, 1439, 1441, 1443, 1445, 1447, 1449, 1451, 1453, 1455, 1457, 1459, 1461, 1463, 1465, 1467, 1469, 1471, 1473, 1475, 1477, 1479, 1481, 1483, 1485, 1487, 1489, 1491, 1493, 1495, 1497, 1499, 1501, 1503, 1505, 1507, 1509, 1511, 1513] (by decide +kernel) (by decide +kernel)
def nestT : List (String × Nat × MethodName × String) := [("MerryDuchy", 25, ⟨"MerryDuchy$Acts", "<init>", "()V"⟩, "MerryDuchy"), ("MerryDuchy$Duchy", 33, ⟨"MerryDuchy$State", "<init>", "()V"⟩, "MerryDuchy"), ("MerryDuchy$Duchy", 40, ⟨"MerryDuchy$Sentence", "<init>", "()V"⟩, "MerryDuchy"), ("MerryDuchy$Acts", 20, ⟨"MerryDuchy$Ring", "<init>", "()V"⟩, "MerryDuchy"), ("MerryDuchy", 53, ⟨"MerryDuchy$State", "<init>", "()V"⟩, "MerryDuchy"), ("MerryDuchy$Past", 17, ⟨"MerryDuchy$State", "<init>", "()V"⟩, "MerryDuchy"), ("MerryDuchy", 67, ⟨"MerryDuchy$Ring", "<init>", "()V"⟩, "MerryDuchy"), ("MerryDuchy", 74, ⟨"MerryDuchy$Plan", "<init>", "()V"⟩, "MerryDuchy"), ("MerryDuchy", 81, ⟨"MerryDuchy$Tax", "<init>", "()V"⟩, "MerryDuchy"), ("MerryDuchy", 88, ⟨"MerryDuchy$Fits", "<init>", "()V"⟩, "MerryDuchy"), ("MerryDuchy", 95, ⟨"MerryDuchy$Book", "<init>", "()V"⟩, "MerryDuchy"), ("MerryDuchy$Duchy", 59, ⟨"MerryDuchy", "copyRow", "([I[I)V"⟩, "MerryDuchy"), ("MerryDuchy$State", 43, ⟨"MerryDuchy", "copyRow", "([I[I)V"⟩, "MerryDuchy"), ("MerryDuchy$Sentence", 25, ⟨"MerryDuchy", "copyRow", "([I[I)V"⟩, "MerryDuchy"), ("MerryDuchy$State", 47, ⟨"MerryDuchy", "sum", "([IIII)I"⟩, "MerryDuchy"), ("MerryDuchy$Ring", 15, ⟨"MerryDuchy", "copyRow", "([I[I)V"⟩, "MerryDuchy"), ("MerryDuchy$Acts", 139, ⟨"MerryDuchy", "sum", "([IIII)I"⟩, "MerryDuchy")]
