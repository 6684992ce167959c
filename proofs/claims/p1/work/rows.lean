section
-- ===== PART A: goes FIRST, ahead of the names: the tables' words, and 'selects' of the private methods out of them =====
/-- a private method of a class that the tables say can be made, by its rows of tables_1 -/
def lw_okq (q : MethodName × Nat) : Prop := (q.1.cls ≠ "java/lang/invoke/MethodHandle" ∧ q.1.cls ≠ "java/lang/invoke/VarHandle") ∧ Cond.instantiable q.1.cls q.2 ∈ tables_1 ∧ Cond.privateMethod q.1 ∈ tables_1 ∧ Cond.instanceMethod q.1 ∈ tables_1
theorem lw_p0 : lw_okq (⟨"MerryDuchy", "feedNumber", "(I)V"⟩, 18) := ⟨⟨by decide +kernel, by decide +kernel⟩, List.mem_of_getElem? (i := 27) (by decide +kernel), List.mem_of_getElem? (i := 493) (by decide +kernel), List.mem_of_getElem? (i := 494) (by decide +kernel)⟩
theorem lw_p1 : lw_okq (⟨"MerryDuchy", "startTokens", "(I)V"⟩, 18) := ⟨⟨by decide +kernel, by decide +kernel⟩, List.mem_of_getElem? (i := 27) (by decide +kernel), List.mem_of_getElem? (i := 505) (by decide +kernel), List.mem_of_getElem? (i := 506) (by decide +kernel)⟩
theorem lw_p2 : lw_okq (⟨"MerryDuchy$Tokens", "readRun", "()V"⟩, 14) := ⟨⟨by decide +kernel, by decide +kernel⟩, List.mem_of_getElem? (i := 35) (by decide +kernel), List.mem_of_getElem? (i := 520) (by decide +kernel), List.mem_of_getElem? (i := 521) (by decide +kernel)⟩
theorem lw_p3 : lw_okq (⟨"MerryDuchy$Tokens", "readSign", "()V"⟩, 14) := ⟨⟨by decide +kernel, by decide +kernel⟩, List.mem_of_getElem? (i := 35) (by decide +kernel), List.mem_of_getElem? (i := 524) (by decide +kernel), List.mem_of_getElem? (i := 525) (by decide +kernel)⟩
theorem lw_p4 : lw_okq (⟨"MerryDuchy$Tokens", "keyOf", "(J)I"⟩, 14) := ⟨⟨by decide +kernel, by decide +kernel⟩, List.mem_of_getElem? (i := 35) (by decide +kernel), List.mem_of_getElem? (i := 528) (by decide +kernel), List.mem_of_getElem? (i := 529) (by decide +kernel)⟩
theorem lw_p5 : lw_okq (⟨"MerryDuchy$Duchy", "clear", "()V"⟩, 10) := ⟨⟨by decide +kernel, by decide +kernel⟩, List.mem_of_getElem? (i := 160) (by decide +kernel), List.mem_of_getElem? (i := 536) (by decide +kernel), List.mem_of_getElem? (i := 537) (by decide +kernel)⟩
theorem lw_p6 : lw_okq (⟨"MerryDuchy$Duchy", "readLine", "(LMerryDuchy$Tokens;)Z"⟩, 10) := ⟨⟨by decide +kernel, by decide +kernel⟩, List.mem_of_getElem? (i := 160) (by decide +kernel), List.mem_of_getElem? (i := 552) (by decide +kernel), List.mem_of_getElem? (i := 553) (by decide +kernel)⟩
theorem lw_p7 : lw_okq (⟨"MerryDuchy$Duchy", "readMan", "(LMerryDuchy$Tokens;)Z"⟩, 10) := ⟨⟨by decide +kernel, by decide +kernel⟩, List.mem_of_getElem? (i := 160) (by decide +kernel), List.mem_of_getElem? (i := 556) (by decide +kernel), List.mem_of_getElem? (i := 557) (by decide +kernel)⟩
theorem lw_p8 : lw_okq (⟨"MerryDuchy$Duchy", "takesFirstWord", "(LMerryDuchy$Tokens;I)Z"⟩, 10) := ⟨⟨by decide +kernel, by decide +kernel⟩, List.mem_of_getElem? (i := 160) (by decide +kernel), List.mem_of_getElem? (i := 560) (by decide +kernel), List.mem_of_getElem? (i := 561) (by decide +kernel)⟩
theorem lw_p9 : lw_okq (⟨"MerryDuchy$Duchy", "addName", "(IJ)I"⟩, 10) := ⟨⟨by decide +kernel, by decide +kernel⟩, List.mem_of_getElem? (i := 160) (by decide +kernel), List.mem_of_getElem? (i := 582) (by decide +kernel), List.mem_of_getElem? (i := 583) (by decide +kernel)⟩
theorem lw_p10 : lw_okq (⟨"MerryDuchy$Duchy", "readForfeit", "(LMerryDuchy$Tokens;)Z"⟩, 10) := ⟨⟨by decide +kernel, by decide +kernel⟩, List.mem_of_getElem? (i := 160) (by decide +kernel), List.mem_of_getElem? (i := 587) (by decide +kernel), List.mem_of_getElem? (i := 588) (by decide +kernel)⟩
theorem lw_p11 : lw_okq (⟨"MerryDuchy$Duchy", "readMinds", "(LMerryDuchy$Tokens;)Z"⟩, 10) := ⟨⟨by decide +kernel, by decide +kernel⟩, List.mem_of_getElem? (i := 160) (by decide +kernel), List.mem_of_getElem? (i := 591) (by decide +kernel), List.mem_of_getElem? (i := 592) (by decide +kernel)⟩
theorem lw_p12 : lw_okq (⟨"MerryDuchy$Duchy", "readGood", "(LMerryDuchy$Tokens;)Z"⟩, 10) := ⟨⟨by decide +kernel, by decide +kernel⟩, List.mem_of_getElem? (i := 160) (by decide +kernel), List.mem_of_getElem? (i := 599) (by decide +kernel), List.mem_of_getElem? (i := 600) (by decide +kernel)⟩
theorem lw_p13 : lw_okq (⟨"MerryDuchy$Duchy", "readOwes", "(LMerryDuchy$Tokens;)Z"⟩, 10) := ⟨⟨by decide +kernel, by decide +kernel⟩, List.mem_of_getElem? (i := 160) (by decide +kernel), List.mem_of_getElem? (i := 603) (by decide +kernel), List.mem_of_getElem? (i := 604) (by decide +kernel)⟩
theorem lw_p14 : lw_okq (⟨"MerryDuchy$Duchy", "readWears", "(LMerryDuchy$Tokens;)Z"⟩, 10) := ⟨⟨by decide +kernel, by decide +kernel⟩, List.mem_of_getElem? (i := 160) (by decide +kernel), List.mem_of_getElem? (i := 607) (by decide +kernel), List.mem_of_getElem? (i := 608) (by decide +kernel)⟩
theorem lw_p15 : lw_okq (⟨"MerryDuchy$Duchy", "readMends", "(LMerryDuchy$Tokens;)Z"⟩, 10) := ⟨⟨by decide +kernel, by decide +kernel⟩, List.mem_of_getElem? (i := 160) (by decide +kernel), List.mem_of_getElem? (i := 611) (by decide +kernel), List.mem_of_getElem? (i := 612) (by decide +kernel)⟩
def lw_privs_1 : List (MethodName × Nat) := [(⟨"MerryDuchy", "feedNumber", "(I)V"⟩, 18), (⟨"MerryDuchy", "startTokens", "(I)V"⟩, 18), (⟨"MerryDuchy$Tokens", "readRun", "()V"⟩, 14), (⟨"MerryDuchy$Tokens", "readSign", "()V"⟩, 14), (⟨"MerryDuchy$Tokens", "keyOf", "(J)I"⟩, 14), (⟨"MerryDuchy$Duchy", "clear", "()V"⟩, 10), (⟨"MerryDuchy$Duchy", "readLine", "(LMerryDuchy$Tokens;)Z"⟩, 10), (⟨"MerryDuchy$Duchy", "readMan", "(LMerryDuchy$Tokens;)Z"⟩, 10), (⟨"MerryDuchy$Duchy", "takesFirstWord", "(LMerryDuchy$Tokens;I)Z"⟩, 10), (⟨"MerryDuchy$Duchy", "addName", "(IJ)I"⟩, 10), (⟨"MerryDuchy$Duchy", "readForfeit", "(LMerryDuchy$Tokens;)Z"⟩, 10), (⟨"MerryDuchy$Duchy", "readMinds", "(LMerryDuchy$Tokens;)Z"⟩, 10), (⟨"MerryDuchy$Duchy", "readGood", "(LMerryDuchy$Tokens;)Z"⟩, 10), (⟨"MerryDuchy$Duchy", "readOwes", "(LMerryDuchy$Tokens;)Z"⟩, 10), (⟨"MerryDuchy$Duchy", "readWears", "(LMerryDuchy$Tokens;)Z"⟩, 10), (⟨"MerryDuchy$Duchy", "readMends", "(LMerryDuchy$Tokens;)Z"⟩, 10)]
theorem lw_r1 : ∀ q ∈ lw_privs_1, lw_okq q := List.forall_mem_cons.mpr ⟨lw_p0, List.forall_mem_cons.mpr ⟨lw_p1, List.forall_mem_cons.mpr ⟨lw_p2, List.forall_mem_cons.mpr ⟨lw_p3, List.forall_mem_cons.mpr ⟨lw_p4, List.forall_mem_cons.mpr ⟨lw_p5, List.forall_mem_cons.mpr ⟨lw_p6, List.forall_mem_cons.mpr ⟨lw_p7, List.forall_mem_cons.mpr ⟨lw_p8, List.forall_mem_cons.mpr ⟨lw_p9, List.forall_mem_cons.mpr ⟨lw_p10, List.forall_mem_cons.mpr ⟨lw_p11, List.forall_mem_cons.mpr ⟨lw_p12, List.forall_mem_cons.mpr ⟨lw_p13, List.forall_mem_cons.mpr ⟨lw_p14, List.forall_mem_cons.mpr ⟨lw_p15, fun _ h => absurd h List.not_mem_nil⟩⟩⟩⟩⟩⟩⟩⟩⟩⟩⟩⟩⟩⟩⟩⟩
theorem lw_p16 : lw_okq (⟨"MerryDuchy$Duchy", "fillWhatWasNotTold", "()V"⟩, 10) := ⟨⟨by decide +kernel, by decide +kernel⟩, List.mem_of_getElem? (i := 160) (by decide +kernel), List.mem_of_getElem? (i := 623) (by decide +kernel), List.mem_of_getElem? (i := 624) (by decide +kernel)⟩
theorem lw_p17 : lw_okq (⟨"MerryDuchy$Ring", "closes", "(LMerryDuchy$State;III)Z"⟩, 2) := ⟨⟨by decide +kernel, by decide +kernel⟩, List.mem_of_getElem? (i := 297) (by decide +kernel), List.mem_of_getElem? (i := 722) (by decide +kernel), List.mem_of_getElem? (i := 723) (by decide +kernel)⟩
theorem lw_p18 : lw_okq (⟨"MerryDuchy", "done", "(IIII)I"⟩, 18) := ⟨⟨by decide +kernel, by decide +kernel⟩, List.mem_of_getElem? (i := 27) (by decide +kernel), List.mem_of_getElem? (i := 726) (by decide +kernel), List.mem_of_getElem? (i := 727) (by decide +kernel)⟩
theorem lw_p19 : lw_okq (⟨"MerryDuchy$Acts", "doForfeit", "(LMerryDuchy$State;II)I"⟩, 5) := ⟨⟨by decide +kernel, by decide +kernel⟩, List.mem_of_getElem? (i := 154) (by decide +kernel), List.mem_of_getElem? (i := 740) (by decide +kernel), List.mem_of_getElem? (i := 741) (by decide +kernel)⟩
theorem lw_p20 : lw_okq (⟨"MerryDuchy$Ring", "pairAt", "(I)I"⟩, 2) := ⟨⟨by decide +kernel, by decide +kernel⟩, List.mem_of_getElem? (i := 297) (by decide +kernel), List.mem_of_getElem? (i := 748) (by decide +kernel), List.mem_of_getElem? (i := 749) (by decide +kernel)⟩
theorem lw_p21 : lw_okq (⟨"MerryDuchy$Acts", "passWeeks", "(LMerryDuchy$State;I)V"⟩, 5) := ⟨⟨by decide +kernel, by decide +kernel⟩, List.mem_of_getElem? (i := 154) (by decide +kernel), List.mem_of_getElem? (i := 753) (by decide +kernel), List.mem_of_getElem? (i := 754) (by decide +kernel)⟩
theorem lw_p22 : lw_okq (⟨"MerryDuchy", "tried", "(IIII)I"⟩, 18) := ⟨⟨by decide +kernel, by decide +kernel⟩, List.mem_of_getElem? (i := 27) (by decide +kernel), List.mem_of_getElem? (i := 762) (by decide +kernel), List.mem_of_getElem? (i := 763) (by decide +kernel)⟩
theorem lw_p23 : lw_okq (⟨"MerryDuchy", "triedBetween", "(IIII)I"⟩, 18) := ⟨⟨by decide +kernel, by decide +kernel⟩, List.mem_of_getElem? (i := 27) (by decide +kernel), List.mem_of_getElem? (i := 770) (by decide +kernel), List.mem_of_getElem? (i := 771) (by decide +kernel)⟩
theorem lw_p24 : lw_okq (⟨"MerryDuchy$Plan", "fillPays", "(LMerryDuchy$Duchy;II)V"⟩, 4) := ⟨⟨by decide +kernel, by decide +kernel⟩, List.mem_of_getElem? (i := 357) (by decide +kernel), List.mem_of_getElem? (i := 822) (by decide +kernel), List.mem_of_getElem? (i := 823) (by decide +kernel)⟩
theorem lw_p25 : lw_okq (⟨"MerryDuchy$Plan", "fewestFor", "(II)I"⟩, 4) := ⟨⟨by decide +kernel, by decide +kernel⟩, List.mem_of_getElem? (i := 357) (by decide +kernel), List.mem_of_getElem? (i := 827) (by decide +kernel), List.mem_of_getElem? (i := 828) (by decide +kernel)⟩
theorem lw_p26 : lw_okq (⟨"MerryDuchy$Plan", "choose", "(II)V"⟩, 4) := ⟨⟨by decide +kernel, by decide +kernel⟩, List.mem_of_getElem? (i := 357) (by decide +kernel), List.mem_of_getElem? (i := 831) (by decide +kernel), List.mem_of_getElem? (i := 832) (by decide +kernel)⟩
theorem lw_p27 : lw_okq (⟨"MerryDuchy$Acts", "balanceOf", "(I)I"⟩, 5) := ⟨⟨by decide +kernel, by decide +kernel⟩, List.mem_of_getElem? (i := 154) (by decide +kernel), List.mem_of_getElem? (i := 864) (by decide +kernel), List.mem_of_getElem? (i := 865) (by decide +kernel)⟩
theorem lw_p28 : lw_okq (⟨"MerryDuchy$Fits", "mayHavePaid", "(LMerryDuchy$Duchy;I[BI)Z"⟩, 2) := ⟨⟨by decide +kernel, by decide +kernel⟩, List.mem_of_getElem? (i := 399) (by decide +kernel), List.mem_of_getElem? (i := 883) (by decide +kernel), List.mem_of_getElem? (i := 884) (by decide +kernel)⟩
theorem lw_p29 : lw_okq (⟨"MerryDuchy$Fits", "countDone", "(LMerryDuchy$Duchy;[BI)V"⟩, 2) := ⟨⟨by decide +kernel, by decide +kernel⟩, List.mem_of_getElem? (i := 399) (by decide +kernel), List.mem_of_getElem? (i := 889) (by decide +kernel), List.mem_of_getElem? (i := 890) (by decide +kernel)⟩
theorem lw_p30 : lw_okq (⟨"MerryDuchy$Fits", "mostTelling", "(LMerryDuchy$Duchy;I)I"⟩, 2) := ⟨⟨by decide +kernel, by decide +kernel⟩, List.mem_of_getElem? (i := 399) (by decide +kernel), List.mem_of_getElem? (i := 893) (by decide +kernel), List.mem_of_getElem? (i := 894) (by decide +kernel)⟩
theorem lw_p31 : lw_okq (⟨"MerryDuchy$Fits", "mostLeft", "(LMerryDuchy$Duchy;II)I"⟩, 2) := ⟨⟨by decide +kernel, by decide +kernel⟩, List.mem_of_getElem? (i := 399) (by decide +kernel), List.mem_of_getElem? (i := 898) (by decide +kernel), List.mem_of_getElem? (i := 899) (by decide +kernel)⟩
def lw_privs_2 : List (MethodName × Nat) := [(⟨"MerryDuchy$Duchy", "fillWhatWasNotTold", "()V"⟩, 10), (⟨"MerryDuchy$Ring", "closes", "(LMerryDuchy$State;III)Z"⟩, 2), (⟨"MerryDuchy", "done", "(IIII)I"⟩, 18), (⟨"MerryDuchy$Acts", "doForfeit", "(LMerryDuchy$State;II)I"⟩, 5), (⟨"MerryDuchy$Ring", "pairAt", "(I)I"⟩, 2), (⟨"MerryDuchy$Acts", "passWeeks", "(LMerryDuchy$State;I)V"⟩, 5), (⟨"MerryDuchy", "tried", "(IIII)I"⟩, 18), (⟨"MerryDuchy", "triedBetween", "(IIII)I"⟩, 18), (⟨"MerryDuchy$Plan", "fillPays", "(LMerryDuchy$Duchy;II)V"⟩, 4), (⟨"MerryDuchy$Plan", "fewestFor", "(II)I"⟩, 4), (⟨"MerryDuchy$Plan", "choose", "(II)V"⟩, 4), (⟨"MerryDuchy$Acts", "balanceOf", "(I)I"⟩, 5), (⟨"MerryDuchy$Fits", "mayHavePaid", "(LMerryDuchy$Duchy;I[BI)Z"⟩, 2), (⟨"MerryDuchy$Fits", "countDone", "(LMerryDuchy$Duchy;[BI)V"⟩, 2), (⟨"MerryDuchy$Fits", "mostTelling", "(LMerryDuchy$Duchy;I)I"⟩, 2), (⟨"MerryDuchy$Fits", "mostLeft", "(LMerryDuchy$Duchy;II)I"⟩, 2)]
theorem lw_r2 : ∀ q ∈ lw_privs_2, lw_okq q := List.forall_mem_cons.mpr ⟨lw_p16, List.forall_mem_cons.mpr ⟨lw_p17, List.forall_mem_cons.mpr ⟨lw_p18, List.forall_mem_cons.mpr ⟨lw_p19, List.forall_mem_cons.mpr ⟨lw_p20, List.forall_mem_cons.mpr ⟨lw_p21, List.forall_mem_cons.mpr ⟨lw_p22, List.forall_mem_cons.mpr ⟨lw_p23, List.forall_mem_cons.mpr ⟨lw_p24, List.forall_mem_cons.mpr ⟨lw_p25, List.forall_mem_cons.mpr ⟨lw_p26, List.forall_mem_cons.mpr ⟨lw_p27, List.forall_mem_cons.mpr ⟨lw_p28, List.forall_mem_cons.mpr ⟨lw_p29, List.forall_mem_cons.mpr ⟨lw_p30, List.forall_mem_cons.mpr ⟨lw_p31, fun _ h => absurd h List.not_mem_nil⟩⟩⟩⟩⟩⟩⟩⟩⟩⟩⟩⟩⟩⟩⟩⟩
theorem lw_p32 : lw_okq (⟨"MerryDuchy", "prideWithin", "(II)I"⟩, 18) := ⟨⟨by decide +kernel, by decide +kernel⟩, List.mem_of_getElem? (i := 27) (by decide +kernel), List.mem_of_getElem? (i := 911) (by decide +kernel), List.mem_of_getElem? (i := 912) (by decide +kernel)⟩
theorem lw_p33 : lw_okq (⟨"MerryDuchy$Tax", "fillCosts", "(LMerryDuchy$Duchy;)V"⟩, 4) := ⟨⟨by decide +kernel, by decide +kernel⟩, List.mem_of_getElem? (i := 378) (by decide +kernel), List.mem_of_getElem? (i := 923) (by decide +kernel), List.mem_of_getElem? (i := 924) (by decide +kernel)⟩
theorem lw_p34 : lw_okq (⟨"MerryDuchy$Tax", "leastGreatest", "(I)I"⟩, 4) := ⟨⟨by decide +kernel, by decide +kernel⟩, List.mem_of_getElem? (i := 378) (by decide +kernel), List.mem_of_getElem? (i := 931) (by decide +kernel), List.mem_of_getElem? (i := 932) (by decide +kernel)⟩
theorem lw_p35 : lw_okq (⟨"MerryDuchy$Tax", "dearest", "(II)I"⟩, 4) := ⟨⟨by decide +kernel, by decide +kernel⟩, List.mem_of_getElem? (i := 378) (by decide +kernel), List.mem_of_getElem? (i := 935) (by decide +kernel), List.mem_of_getElem? (i := 936) (by decide +kernel)⟩
theorem lw_p36 : lw_okq (⟨"MerryDuchy$Tax", "fillCan", "(II)V"⟩, 4) := ⟨⟨by decide +kernel, by decide +kernel⟩, List.mem_of_getElem? (i := 378) (by decide +kernel), List.mem_of_getElem? (i := 939) (by decide +kernel), List.mem_of_getElem? (i := 940) (by decide +kernel)⟩
theorem lw_p37 : lw_okq (⟨"MerryDuchy$Tax", "canPay", "(III)Z"⟩, 4) := ⟨⟨by decide +kernel, by decide +kernel⟩, List.mem_of_getElem? (i := 378) (by decide +kernel), List.mem_of_getElem? (i := 943) (by decide +kernel), List.mem_of_getElem? (i := 944) (by decide +kernel)⟩
theorem lw_p38 : lw_okq (⟨"MerryDuchy$Tax", "choose", "(III)V"⟩, 4) := ⟨⟨by decide +kernel, by decide +kernel⟩, List.mem_of_getElem? (i := 378) (by decide +kernel), List.mem_of_getElem? (i := 947) (by decide +kernel), List.mem_of_getElem? (i := 948) (by decide +kernel)⟩
theorem lw_p39 : lw_okq (⟨"MerryDuchy", "listName", "(II)V"⟩, 18) := ⟨⟨by decide +kernel, by decide +kernel⟩, List.mem_of_getElem? (i := 27) (by decide +kernel), List.mem_of_getElem? (i := 963) (by decide +kernel), List.mem_of_getElem? (i := 964) (by decide +kernel)⟩
theorem lw_p40 : lw_okq (⟨"MerryDuchy", "listByte", "(I)V"⟩, 18) := ⟨⟨by decide +kernel, by decide +kernel⟩, List.mem_of_getElem? (i := 27) (by decide +kernel), List.mem_of_getElem? (i := 967) (by decide +kernel), List.mem_of_getElem? (i := 968) (by decide +kernel)⟩
theorem lw_p41 : lw_okq (⟨"MerryDuchy", "listText", "(Ljava/lang/String;)V"⟩, 18) := ⟨⟨by decide +kernel, by decide +kernel⟩, List.mem_of_getElem? (i := 27) (by decide +kernel), List.mem_of_getElem? (i := 977) (by decide +kernel), List.mem_of_getElem? (i := 978) (by decide +kernel)⟩
theorem lw_p42 : lw_okq (⟨"MerryDuchy", "listNumber", "(I)V"⟩, 18) := ⟨⟨by decide +kernel, by decide +kernel⟩, List.mem_of_getElem? (i := 27) (by decide +kernel), List.mem_of_getElem? (i := 985) (by decide +kernel), List.mem_of_getElem? (i := 986) (by decide +kernel)⟩
theorem lw_p43 : lw_okq (⟨"MerryDuchy$Acts", "drawAct", "(LMerryDuchy$State;I)V"⟩, 5) := ⟨⟨by decide +kernel, by decide +kernel⟩, List.mem_of_getElem? (i := 154) (by decide +kernel), List.mem_of_getElem? (i := 1001) (by decide +kernel), List.mem_of_getElem? (i := 1002) (by decide +kernel)⟩
theorem lw_p44 : lw_okq (⟨"MerryDuchy$Acts", "draw", "(I)I"⟩, 5) := ⟨⟨by decide +kernel, by decide +kernel⟩, List.mem_of_getElem? (i := 154) (by decide +kernel), List.mem_of_getElem? (i := 1005) (by decide +kernel), List.mem_of_getElem? (i := 1006) (by decide +kernel)⟩
theorem lw_p45 : lw_okq (⟨"MerryDuchy$Acts", "drawOne", "(LMerryDuchy$State;III)V"⟩, 5) := ⟨⟨by decide +kernel, by decide +kernel⟩, List.mem_of_getElem? (i := 154) (by decide +kernel), List.mem_of_getElem? (i := 1010) (by decide +kernel), List.mem_of_getElem? (i := 1011) (by decide +kernel)⟩
theorem lw_p46 : lw_okq (⟨"MerryDuchy$Book", "readLine", "(LMerryDuchy$Tokens;LMerryDuchy$Duchy;)Z"⟩, 4) := ⟨⟨by decide +kernel, by decide +kernel⟩, List.mem_of_getElem? (i := 413) (by decide +kernel), List.mem_of_getElem? (i := 1033) (by decide +kernel), List.mem_of_getElem? (i := 1034) (by decide +kernel)⟩
theorem lw_p47 : lw_okq (⟨"MerryDuchy$Book", "readOfMan", "(LMerryDuchy$Tokens;LMerryDuchy$Duchy;I)Z"⟩, 4) := ⟨⟨by decide +kernel, by decide +kernel⟩, List.mem_of_getElem? (i := 413) (by decide +kernel), List.mem_of_getElem? (i := 1039) (by decide +kernel), List.mem_of_getElem? (i := 1040) (by decide +kernel)⟩
def lw_privs_3 : List (MethodName × Nat) := [(⟨"MerryDuchy", "prideWithin", "(II)I"⟩, 18), (⟨"MerryDuchy$Tax", "fillCosts", "(LMerryDuchy$Duchy;)V"⟩, 4), (⟨"MerryDuchy$Tax", "leastGreatest", "(I)I"⟩, 4), (⟨"MerryDuchy$Tax", "dearest", "(II)I"⟩, 4), (⟨"MerryDuchy$Tax", "fillCan", "(II)V"⟩, 4), (⟨"MerryDuchy$Tax", "canPay", "(III)Z"⟩, 4), (⟨"MerryDuchy$Tax", "choose", "(III)V"⟩, 4), (⟨"MerryDuchy", "listName", "(II)V"⟩, 18), (⟨"MerryDuchy", "listByte", "(I)V"⟩, 18), (⟨"MerryDuchy", "listText", "(Ljava/lang/String;)V"⟩, 18), (⟨"MerryDuchy", "listNumber", "(I)V"⟩, 18), (⟨"MerryDuchy$Acts", "drawAct", "(LMerryDuchy$State;I)V"⟩, 5), (⟨"MerryDuchy$Acts", "draw", "(I)I"⟩, 5), (⟨"MerryDuchy$Acts", "drawOne", "(LMerryDuchy$State;III)V"⟩, 5), (⟨"MerryDuchy$Book", "readLine", "(LMerryDuchy$Tokens;LMerryDuchy$Duchy;)Z"⟩, 4), (⟨"MerryDuchy$Book", "readOfMan", "(LMerryDuchy$Tokens;LMerryDuchy$Duchy;I)Z"⟩, 4)]
theorem lw_r3 : ∀ q ∈ lw_privs_3, lw_okq q := List.forall_mem_cons.mpr ⟨lw_p32, List.forall_mem_cons.mpr ⟨lw_p33, List.forall_mem_cons.mpr ⟨lw_p34, List.forall_mem_cons.mpr ⟨lw_p35, List.forall_mem_cons.mpr ⟨lw_p36, List.forall_mem_cons.mpr ⟨lw_p37, List.forall_mem_cons.mpr ⟨lw_p38, List.forall_mem_cons.mpr ⟨lw_p39, List.forall_mem_cons.mpr ⟨lw_p40, List.forall_mem_cons.mpr ⟨lw_p41, List.forall_mem_cons.mpr ⟨lw_p42, List.forall_mem_cons.mpr ⟨lw_p43, List.forall_mem_cons.mpr ⟨lw_p44, List.forall_mem_cons.mpr ⟨lw_p45, List.forall_mem_cons.mpr ⟨lw_p46, List.forall_mem_cons.mpr ⟨lw_p47, fun _ h => absurd h List.not_mem_nil⟩⟩⟩⟩⟩⟩⟩⟩⟩⟩⟩⟩⟩⟩⟩⟩
theorem lw_p48 : lw_okq (⟨"MerryDuchy$Book", "add", "(IIII)Z"⟩, 4) := ⟨⟨by decide +kernel, by decide +kernel⟩, List.mem_of_getElem? (i := 413) (by decide +kernel), List.mem_of_getElem? (i := 1044) (by decide +kernel), List.mem_of_getElem? (i := 1045) (by decide +kernel)⟩
theorem lw_p49 : lw_okq (⟨"MerryDuchy$Sentence", "readCond", "(LMerryDuchy$Tokens;LMerryDuchy$Duchy;I)Z"⟩, 4) := ⟨⟨by decide +kernel, by decide +kernel⟩, List.mem_of_getElem? (i := 229) (by decide +kernel), List.mem_of_getElem? (i := 1070) (by decide +kernel), List.mem_of_getElem? (i := 1071) (by decide +kernel)⟩
theorem lw_p50 : lw_okq (⟨"MerryDuchy$Sentence", "readOne", "(LMerryDuchy$Tokens;LMerryDuchy$Duchy;I)Z"⟩, 4) := ⟨⟨by decide +kernel, by decide +kernel⟩, List.mem_of_getElem? (i := 229) (by decide +kernel), List.mem_of_getElem? (i := 1074) (by decide +kernel), List.mem_of_getElem? (i := 1075) (by decide +kernel)⟩
theorem lw_p51 : lw_okq (⟨"MerryDuchy$Sentence", "add", "(III)Z"⟩, 4) := ⟨⟨by decide +kernel, by decide +kernel⟩, List.mem_of_getElem? (i := 229) (by decide +kernel), List.mem_of_getElem? (i := 1082) (by decide +kernel), List.mem_of_getElem? (i := 1083) (by decide +kernel)⟩
theorem lw_p52 : lw_okq (⟨"MerryDuchy$Sentence", "readPlainOne", "(LMerryDuchy$Tokens;LMerryDuchy$Duchy;I)Z"⟩, 4) := ⟨⟨by decide +kernel, by decide +kernel⟩, List.mem_of_getElem? (i := 229) (by decide +kernel), List.mem_of_getElem? (i := 1086) (by decide +kernel), List.mem_of_getElem? (i := 1087) (by decide +kernel)⟩
theorem lw_p53 : lw_okq (⟨"java/lang/Throwable", "fillInStackTrace", "(I)Ljava/lang/Throwable;"⟩, 6) := ⟨⟨by decide +kernel, by decide +kernel⟩, List.mem_of_getElem? (i := 1177) (by decide +kernel), List.mem_of_getElem? (i := 1175) (by decide +kernel), List.mem_of_getElem? (i := 1176) (by decide +kernel)⟩
theorem lw_p54 : lw_okq (⟨"MerryDuchy", "goodsOf", "(I)I"⟩, 18) := ⟨⟨by decide +kernel, by decide +kernel⟩, List.mem_of_getElem? (i := 27) (by decide +kernel), List.mem_of_getElem? (i := 1203) (by decide +kernel), List.mem_of_getElem? (i := 1204) (by decide +kernel)⟩
theorem lw_p55 : lw_okq (⟨"MerryDuchyModel", "come", "(I)V"⟩, 53) := ⟨⟨by decide +kernel, by decide +kernel⟩, List.mem_of_getElem? (i := 1217) (by decide +kernel), List.mem_of_getElem? (i := 1215) (by decide +kernel), List.mem_of_getElem? (i := 1216) (by decide +kernel)⟩
theorem lw_p56 : lw_okq (⟨"MerryDuchyModel", "begin", "(I)V"⟩, 53) := ⟨⟨by decide +kernel, by decide +kernel⟩, List.mem_of_getElem? (i := 1217) (by decide +kernel), List.mem_of_getElem? (i := 1393) (by decide +kernel), List.mem_of_getElem? (i := 1394) (by decide +kernel)⟩
theorem lw_p57 : lw_okq (⟨"MerryDuchyModel", "take", "()I"⟩, 53) := ⟨⟨by decide +kernel, by decide +kernel⟩, List.mem_of_getElem? (i := 1217) (by decide +kernel), List.mem_of_getElem? (i := 1397) (by decide +kernel), List.mem_of_getElem? (i := 1398) (by decide +kernel)⟩
theorem lw_p58 : lw_okq (⟨"MerryDuchyModel", "go", "()V"⟩, 53) := ⟨⟨by decide +kernel, by decide +kernel⟩, List.mem_of_getElem? (i := 1217) (by decide +kernel), List.mem_of_getElem? (i := 1401) (by decide +kernel), List.mem_of_getElem? (i := 1402) (by decide +kernel)⟩
theorem lw_p59 : lw_okq (⟨"MerryDuchyModel", "tapeAt", "(I)I"⟩, 53) := ⟨⟨by decide +kernel, by decide +kernel⟩, List.mem_of_getElem? (i := 1217) (by decide +kernel), List.mem_of_getElem? (i := 1411) (by decide +kernel), List.mem_of_getElem? (i := 1412) (by decide +kernel)⟩
theorem lw_p60 : lw_okq (⟨"MerryDuchyModel", "readLine", "()Z"⟩, 53) := ⟨⟨by decide +kernel, by decide +kernel⟩, List.mem_of_getElem? (i := 1217) (by decide +kernel), List.mem_of_getElem? (i := 1417) (by decide +kernel), List.mem_of_getElem? (i := 1418) (by decide +kernel)⟩
theorem lw_p61 : lw_okq (⟨"MerryDuchyModel", "isWord", "(I)Z"⟩, 53) := ⟨⟨by decide +kernel, by decide +kernel⟩, List.mem_of_getElem? (i := 1217) (by decide +kernel), List.mem_of_getElem? (i := 1421) (by decide +kernel), List.mem_of_getElem? (i := 1422) (by decide +kernel)⟩
theorem lw_p62 : lw_okq (⟨"MerryDuchyModel", "readMan", "()Z"⟩, 53) := ⟨⟨by decide +kernel, by decide +kernel⟩, List.mem_of_getElem? (i := 1217) (by decide +kernel), List.mem_of_getElem? (i := 1431) (by decide +kernel), List.mem_of_getElem? (i := 1432) (by decide +kernel)⟩
theorem lw_p63 : lw_okq (⟨"MerryDuchyModel", "readFirst", "(II)Z"⟩, 53) := ⟨⟨by decide +kernel, by decide +kernel⟩, List.mem_of_getElem? (i := 1217) (by decide +kernel), List.mem_of_getElem? (i := 1435) (by decide +kernel), List.mem_of_getElem? (i := 1436) (by decide +kernel)⟩
def lw_privs_4 : List (MethodName × Nat) := [(⟨"MerryDuchy$Book", "add", "(IIII)Z"⟩, 4), (⟨"MerryDuchy$Sentence", "readCond", "(LMerryDuchy$Tokens;LMerryDuchy$Duchy;I)Z"⟩, 4), (⟨"MerryDuchy$Sentence", "readOne", "(LMerryDuchy$Tokens;LMerryDuchy$Duchy;I)Z"⟩, 4), (⟨"MerryDuchy$Sentence", "add", "(III)Z"⟩, 4), (⟨"MerryDuchy$Sentence", "readPlainOne", "(LMerryDuchy$Tokens;LMerryDuchy$Duchy;I)Z"⟩, 4), (⟨"java/lang/Throwable", "fillInStackTrace", "(I)Ljava/lang/Throwable;"⟩, 6), (⟨"MerryDuchy", "goodsOf", "(I)I"⟩, 18), (⟨"MerryDuchyModel", "come", "(I)V"⟩, 53), (⟨"MerryDuchyModel", "begin", "(I)V"⟩, 53), (⟨"MerryDuchyModel", "take", "()I"⟩, 53), (⟨"MerryDuchyModel", "go", "()V"⟩, 53), (⟨"MerryDuchyModel", "tapeAt", "(I)I"⟩, 53), (⟨"MerryDuchyModel", "readLine", "()Z"⟩, 53), (⟨"MerryDuchyModel", "isWord", "(I)Z"⟩, 53), (⟨"MerryDuchyModel", "readMan", "()Z"⟩, 53), (⟨"MerryDuchyModel", "readFirst", "(II)Z"⟩, 53)]
theorem lw_r4 : ∀ q ∈ lw_privs_4, lw_okq q := List.forall_mem_cons.mpr ⟨lw_p48, List.forall_mem_cons.mpr ⟨lw_p49, List.forall_mem_cons.mpr ⟨lw_p50, List.forall_mem_cons.mpr ⟨lw_p51, List.forall_mem_cons.mpr ⟨lw_p52, List.forall_mem_cons.mpr ⟨lw_p53, List.forall_mem_cons.mpr ⟨lw_p54, List.forall_mem_cons.mpr ⟨lw_p55, List.forall_mem_cons.mpr ⟨lw_p56, List.forall_mem_cons.mpr ⟨lw_p57, List.forall_mem_cons.mpr ⟨lw_p58, List.forall_mem_cons.mpr ⟨lw_p59, List.forall_mem_cons.mpr ⟨lw_p60, List.forall_mem_cons.mpr ⟨lw_p61, List.forall_mem_cons.mpr ⟨lw_p62, List.forall_mem_cons.mpr ⟨lw_p63, fun _ h => absurd h List.not_mem_nil⟩⟩⟩⟩⟩⟩⟩⟩⟩⟩⟩⟩⟩⟩⟩⟩
theorem lw_p64 : lw_okq (⟨"MerryDuchyModel", "bad", "(I)Z"⟩, 53) := ⟨⟨by decide +kernel, by decide +kernel⟩, List.mem_of_getElem? (i := 1217) (by decide +kernel), List.mem_of_getElem? (i := 1439) (by decide +kernel), List.mem_of_getElem? (i := 1440) (by decide +kernel)⟩
theorem lw_p65 : lw_okq (⟨"MerryDuchyModel", "readNew", "(I)Z"⟩, 53) := ⟨⟨by decide +kernel, by decide +kernel⟩, List.mem_of_getElem? (i := 1217) (by decide +kernel), List.mem_of_getElem? (i := 1443) (by decide +kernel), List.mem_of_getElem? (i := 1444) (by decide +kernel)⟩
theorem lw_p66 : lw_okq (⟨"MerryDuchyModel", "isName", "()Z"⟩, 53) := ⟨⟨by decide +kernel, by decide +kernel⟩, List.mem_of_getElem? (i := 1217) (by decide +kernel), List.mem_of_getElem? (i := 1447) (by decide +kernel), List.mem_of_getElem? (i := 1448) (by decide +kernel)⟩
theorem lw_p67 : lw_okq (⟨"MerryDuchyModel", "readNumber", "(II)Z"⟩, 53) := ⟨⟨by decide +kernel, by decide +kernel⟩, List.mem_of_getElem? (i := 1217) (by decide +kernel), List.mem_of_getElem? (i := 1454) (by decide +kernel), List.mem_of_getElem? (i := 1455) (by decide +kernel)⟩
theorem lw_p68 : lw_okq (⟨"MerryDuchyModel", "put", "(IZ)Z"⟩, 53) := ⟨⟨by decide +kernel, by decide +kernel⟩, List.mem_of_getElem? (i := 1217) (by decide +kernel), List.mem_of_getElem? (i := 1461) (by decide +kernel), List.mem_of_getElem? (i := 1462) (by decide +kernel)⟩
theorem lw_p69 : lw_okq (⟨"MerryDuchyModel", "readForfeit", "()Z"⟩, 53) := ⟨⟨by decide +kernel, by decide +kernel⟩, List.mem_of_getElem? (i := 1217) (by decide +kernel), List.mem_of_getElem? (i := 1465) (by decide +kernel), List.mem_of_getElem? (i := 1466) (by decide +kernel)⟩
theorem lw_p70 : lw_okq (⟨"MerryDuchyModel", "readMinds", "()Z"⟩, 53) := ⟨⟨by decide +kernel, by decide +kernel⟩, List.mem_of_getElem? (i := 1217) (by decide +kernel), List.mem_of_getElem? (i := 1469) (by decide +kernel), List.mem_of_getElem? (i := 1470) (by decide +kernel)⟩
theorem lw_p71 : lw_okq (⟨"MerryDuchyModel", "isOne", "(II)Z"⟩, 53) := ⟨⟨by decide +kernel, by decide +kernel⟩, List.mem_of_getElem? (i := 1217) (by decide +kernel), List.mem_of_getElem? (i := 1473) (by decide +kernel), List.mem_of_getElem? (i := 1474) (by decide +kernel)⟩
theorem lw_p72 : lw_okq (⟨"MerryDuchyModel", "readGood", "()Z"⟩, 53) := ⟨⟨by decide +kernel, by decide +kernel⟩, List.mem_of_getElem? (i := 1217) (by decide +kernel), List.mem_of_getElem? (i := 1477) (by decide +kernel), List.mem_of_getElem? (i := 1478) (by decide +kernel)⟩
theorem lw_p73 : lw_okq (⟨"MerryDuchyModel", "readOwes", "()Z"⟩, 53) := ⟨⟨by decide +kernel, by decide +kernel⟩, List.mem_of_getElem? (i := 1217) (by decide +kernel), List.mem_of_getElem? (i := 1481) (by decide +kernel), List.mem_of_getElem? (i := 1482) (by decide +kernel)⟩
theorem lw_p74 : lw_okq (⟨"MerryDuchyModel", "readEnd", "()Z"⟩, 53) := ⟨⟨by decide +kernel, by decide +kernel⟩, List.mem_of_getElem? (i := 1217) (by decide +kernel), List.mem_of_getElem? (i := 1485) (by decide +kernel), List.mem_of_getElem? (i := 1486) (by decide +kernel)⟩
theorem lw_p75 : lw_okq (⟨"MerryDuchyModel", "isSign", "(I)Z"⟩, 53) := ⟨⟨by decide +kernel, by decide +kernel⟩, List.mem_of_getElem? (i := 1217) (by decide +kernel), List.mem_of_getElem? (i := 1489) (by decide +kernel), List.mem_of_getElem? (i := 1490) (by decide +kernel)⟩
theorem lw_p76 : lw_okq (⟨"MerryDuchyModel", "startSo", "()V"⟩, 53) := ⟨⟨by decide +kernel, by decide +kernel⟩, List.mem_of_getElem? (i := 1217) (by decide +kernel), List.mem_of_getElem? (i := 1493) (by decide +kernel), List.mem_of_getElem? (i := 1494) (by decide +kernel)⟩
theorem lw_p77 : lw_okq (⟨"MerryDuchyModel", "isMan", "(I)Z"⟩, 53) := ⟨⟨by decide +kernel, by decide +kernel⟩, List.mem_of_getElem? (i := 1217) (by decide +kernel), List.mem_of_getElem? (i := 1505) (by decide +kernel), List.mem_of_getElem? (i := 1506) (by decide +kernel)⟩
theorem lw_p78 : lw_okq (⟨"MerryDuchyModel", "refuse", "()I"⟩, 53) := ⟨⟨by decide +kernel, by decide +kernel⟩, List.mem_of_getElem? (i := 1217) (by decide +kernel), List.mem_of_getElem? (i := 1509) (by decide +kernel), List.mem_of_getElem? (i := 1510) (by decide +kernel)⟩
theorem lw_p79 : lw_okq (⟨"MerryDuchyModel", "owesAll", "(I)I"⟩, 53) := ⟨⟨by decide +kernel, by decide +kernel⟩, List.mem_of_getElem? (i := 1217) (by decide +kernel), List.mem_of_getElem? (i := 1513) (by decide +kernel), List.mem_of_getElem? (i := 1514) (by decide +kernel)⟩
def lw_privs_5 : List (MethodName × Nat) := [(⟨"MerryDuchyModel", "bad", "(I)Z"⟩, 53), (⟨"MerryDuchyModel", "readNew", "(I)Z"⟩, 53), (⟨"MerryDuchyModel", "isName", "()Z"⟩, 53), (⟨"MerryDuchyModel", "readNumber", "(II)Z"⟩, 53), (⟨"MerryDuchyModel", "put", "(IZ)Z"⟩, 53), (⟨"MerryDuchyModel", "readForfeit", "()Z"⟩, 53), (⟨"MerryDuchyModel", "readMinds", "()Z"⟩, 53), (⟨"MerryDuchyModel", "isOne", "(II)Z"⟩, 53), (⟨"MerryDuchyModel", "readGood", "()Z"⟩, 53), (⟨"MerryDuchyModel", "readOwes", "()Z"⟩, 53), (⟨"MerryDuchyModel", "readEnd", "()Z"⟩, 53), (⟨"MerryDuchyModel", "isSign", "(I)Z"⟩, 53), (⟨"MerryDuchyModel", "startSo", "()V"⟩, 53), (⟨"MerryDuchyModel", "isMan", "(I)Z"⟩, 53), (⟨"MerryDuchyModel", "refuse", "()I"⟩, 53), (⟨"MerryDuchyModel", "owesAll", "(I)I"⟩, 53)]
theorem lw_r5 : ∀ q ∈ lw_privs_5, lw_okq q := List.forall_mem_cons.mpr ⟨lw_p64, List.forall_mem_cons.mpr ⟨lw_p65, List.forall_mem_cons.mpr ⟨lw_p66, List.forall_mem_cons.mpr ⟨lw_p67, List.forall_mem_cons.mpr ⟨lw_p68, List.forall_mem_cons.mpr ⟨lw_p69, List.forall_mem_cons.mpr ⟨lw_p70, List.forall_mem_cons.mpr ⟨lw_p71, List.forall_mem_cons.mpr ⟨lw_p72, List.forall_mem_cons.mpr ⟨lw_p73, List.forall_mem_cons.mpr ⟨lw_p74, List.forall_mem_cons.mpr ⟨lw_p75, List.forall_mem_cons.mpr ⟨lw_p76, List.forall_mem_cons.mpr ⟨lw_p77, List.forall_mem_cons.mpr ⟨lw_p78, List.forall_mem_cons.mpr ⟨lw_p79, fun _ h => absurd h List.not_mem_nil⟩⟩⟩⟩⟩⟩⟩⟩⟩⟩⟩⟩⟩⟩⟩⟩
theorem lw_p80 : lw_okq (⟨"MerryDuchyModel", "owesOf", "(II)I"⟩, 53) := ⟨⟨by decide +kernel, by decide +kernel⟩, List.mem_of_getElem? (i := 1217) (by decide +kernel), List.mem_of_getElem? (i := 1517) (by decide +kernel), List.mem_of_getElem? (i := 1518) (by decide +kernel)⟩
theorem lw_p81 : lw_okq (⟨"MerryDuchyModel", "owedAll", "(I)I"⟩, 53) := ⟨⟨by decide +kernel, by decide +kernel⟩, List.mem_of_getElem? (i := 1217) (by decide +kernel), List.mem_of_getElem? (i := 1521) (by decide +kernel), List.mem_of_getElem? (i := 1522) (by decide +kernel)⟩
theorem lw_p82 : lw_okq (⟨"MerryDuchyModel", "goodsOf", "(I)I"⟩, 53) := ⟨⟨by decide +kernel, by decide +kernel⟩, List.mem_of_getElem? (i := 1217) (by decide +kernel), List.mem_of_getElem? (i := 1525) (by decide +kernel), List.mem_of_getElem? (i := 1526) (by decide +kernel)⟩
theorem lw_p83 : lw_okq (⟨"MerryDuchyModel", "sumOf", "(II)I"⟩, 53) := ⟨⟨by decide +kernel, by decide +kernel⟩, List.mem_of_getElem? (i := 1217) (by decide +kernel), List.mem_of_getElem? (i := 1529) (by decide +kernel), List.mem_of_getElem? (i := 1530) (by decide +kernel)⟩
theorem lw_p84 : lw_okq (⟨"MerryDuchyModel", "isForfeit", "(I)Z"⟩, 53) := ⟨⟨by decide +kernel, by decide +kernel⟩, List.mem_of_getElem? (i := 1217) (by decide +kernel), List.mem_of_getElem? (i := 1537) (by decide +kernel), List.mem_of_getElem? (i := 1538) (by decide +kernel)⟩
theorem lw_p85 : lw_okq (⟨"MerryDuchyModel", "costOf", "(II)I"⟩, 53) := ⟨⟨by decide +kernel, by decide +kernel⟩, List.mem_of_getElem? (i := 1217) (by decide +kernel), List.mem_of_getElem? (i := 1541) (by decide +kernel), List.mem_of_getElem? (i := 1542) (by decide +kernel)⟩
theorem lw_p86 : lw_okq (⟨"MerryDuchyModel", "timesOf", "(II)I"⟩, 53) := ⟨⟨by decide +kernel, by decide +kernel⟩, List.mem_of_getElem? (i := 1217) (by decide +kernel), List.mem_of_getElem? (i := 1545) (by decide +kernel), List.mem_of_getElem? (i := 1546) (by decide +kernel)⟩
theorem lw_p87 : lw_okq (⟨"MerryDuchyModel", "costBy", "(III)I"⟩, 53) := ⟨⟨by decide +kernel, by decide +kernel⟩, List.mem_of_getElem? (i := 1217) (by decide +kernel), List.mem_of_getElem? (i := 1549) (by decide +kernel), List.mem_of_getElem? (i := 1550) (by decide +kernel)⟩
theorem lw_p88 : lw_okq (⟨"MerryDuchyModel", "isGood", "(I)Z"⟩, 53) := ⟨⟨by decide +kernel, by decide +kernel⟩, List.mem_of_getElem? (i := 1217) (by decide +kernel), List.mem_of_getElem? (i := 1564) (by decide +kernel), List.mem_of_getElem? (i := 1565) (by decide +kernel)⟩
theorem lw_p89 : lw_okq (⟨"MerryDuchyModel", "layRing", "()I"⟩, 53) := ⟨⟨by decide +kernel, by decide +kernel⟩, List.mem_of_getElem? (i := 1217) (by decide +kernel), List.mem_of_getElem? (i := 1584) (by decide +kernel), List.mem_of_getElem? (i := 1585) (by decide +kernel)⟩
theorem lw_p90 : lw_okq (⟨"MerryDuchyModel", "goesRound", "(II)Z"⟩, 53) := ⟨⟨by decide +kernel, by decide +kernel⟩, List.mem_of_getElem? (i := 1217) (by decide +kernel), List.mem_of_getElem? (i := 1588) (by decide +kernel), List.mem_of_getElem? (i := 1589) (by decide +kernel)⟩
theorem lw_p91 : lw_okq (⟨"MerryDuchyModel", "why", "(IIII)I"⟩, 53) := ⟨⟨by decide +kernel, by decide +kernel⟩, List.mem_of_getElem? (i := 1217) (by decide +kernel), List.mem_of_getElem? (i := 1600) (by decide +kernel), List.mem_of_getElem? (i := 1601) (by decide +kernel)⟩
theorem lw_p92 : lw_okq (⟨"MerryDuchyModel", "snap", "()V"⟩, 53) := ⟨⟨by decide +kernel, by decide +kernel⟩, List.mem_of_getElem? (i := 1217) (by decide +kernel), List.mem_of_getElem? (i := 1604) (by decide +kernel), List.mem_of_getElem? (i := 1605) (by decide +kernel)⟩
theorem lw_p93 : lw_okq (⟨"MerryDuchyModel", "doForfeit", "(II)I"⟩, 53) := ⟨⟨by decide +kernel, by decide +kernel⟩, List.mem_of_getElem? (i := 1217) (by decide +kernel), List.mem_of_getElem? (i := 1608) (by decide +kernel), List.mem_of_getElem? (i := 1609) (by decide +kernel)⟩
theorem lw_p94 : lw_okq (⟨"MerryDuchyModel", "act", "(IIII)I"⟩, 53) := ⟨⟨by decide +kernel, by decide +kernel⟩, List.mem_of_getElem? (i := 1217) (by decide +kernel), List.mem_of_getElem? (i := 1616) (by decide +kernel), List.mem_of_getElem? (i := 1617) (by decide +kernel)⟩
theorem lw_p95 : lw_okq (⟨"MerryDuchyModel", "live", "(IIII)V"⟩, 53) := ⟨⟨by decide +kernel, by decide +kernel⟩, List.mem_of_getElem? (i := 1217) (by decide +kernel), List.mem_of_getElem? (i := 1620) (by decide +kernel), List.mem_of_getElem? (i := 1621) (by decide +kernel)⟩
def lw_privs_6 : List (MethodName × Nat) := [(⟨"MerryDuchyModel", "owesOf", "(II)I"⟩, 53), (⟨"MerryDuchyModel", "owedAll", "(I)I"⟩, 53), (⟨"MerryDuchyModel", "goodsOf", "(I)I"⟩, 53), (⟨"MerryDuchyModel", "sumOf", "(II)I"⟩, 53), (⟨"MerryDuchyModel", "isForfeit", "(I)Z"⟩, 53), (⟨"MerryDuchyModel", "costOf", "(II)I"⟩, 53), (⟨"MerryDuchyModel", "timesOf", "(II)I"⟩, 53), (⟨"MerryDuchyModel", "costBy", "(III)I"⟩, 53), (⟨"MerryDuchyModel", "isGood", "(I)Z"⟩, 53), (⟨"MerryDuchyModel", "layRing", "()I"⟩, 53), (⟨"MerryDuchyModel", "goesRound", "(II)Z"⟩, 53), (⟨"MerryDuchyModel", "why", "(IIII)I"⟩, 53), (⟨"MerryDuchyModel", "snap", "()V"⟩, 53), (⟨"MerryDuchyModel", "doForfeit", "(II)I"⟩, 53), (⟨"MerryDuchyModel", "act", "(IIII)I"⟩, 53), (⟨"MerryDuchyModel", "live", "(IIII)V"⟩, 53)]
theorem lw_r6 : ∀ q ∈ lw_privs_6, lw_okq q := List.forall_mem_cons.mpr ⟨lw_p80, List.forall_mem_cons.mpr ⟨lw_p81, List.forall_mem_cons.mpr ⟨lw_p82, List.forall_mem_cons.mpr ⟨lw_p83, List.forall_mem_cons.mpr ⟨lw_p84, List.forall_mem_cons.mpr ⟨lw_p85, List.forall_mem_cons.mpr ⟨lw_p86, List.forall_mem_cons.mpr ⟨lw_p87, List.forall_mem_cons.mpr ⟨lw_p88, List.forall_mem_cons.mpr ⟨lw_p89, List.forall_mem_cons.mpr ⟨lw_p90, List.forall_mem_cons.mpr ⟨lw_p91, List.forall_mem_cons.mpr ⟨lw_p92, List.forall_mem_cons.mpr ⟨lw_p93, List.forall_mem_cons.mpr ⟨lw_p94, List.forall_mem_cons.mpr ⟨lw_p95, fun _ h => absurd h List.not_mem_nil⟩⟩⟩⟩⟩⟩⟩⟩⟩⟩⟩⟩⟩⟩⟩⟩
theorem lw_p96 : lw_okq (⟨"MerryDuchyModel", "doPay", "(III)V"⟩, 53) := ⟨⟨by decide +kernel, by decide +kernel⟩, List.mem_of_getElem? (i := 1217) (by decide +kernel), List.mem_of_getElem? (i := 1624) (by decide +kernel), List.mem_of_getElem? (i := 1625) (by decide +kernel)⟩
theorem lw_p97 : lw_okq (⟨"MerryDuchyModel", "doStrike", "()I"⟩, 53) := ⟨⟨by decide +kernel, by decide +kernel⟩, List.mem_of_getElem? (i := 1217) (by decide +kernel), List.mem_of_getElem? (i := 1628) (by decide +kernel), List.mem_of_getElem? (i := 1629) (by decide +kernel)⟩
theorem lw_p98 : lw_okq (⟨"MerryDuchyModel", "passWeeks", "(I)I"⟩, 53) := ⟨⟨by decide +kernel, by decide +kernel⟩, List.mem_of_getElem? (i := 1217) (by decide +kernel), List.mem_of_getElem? (i := 1652) (by decide +kernel), List.mem_of_getElem? (i := 1653) (by decide +kernel)⟩
theorem lw_p99 : lw_okq (⟨"MerryDuchyModel", "oneWeek", "()V"⟩, 53) := ⟨⟨by decide +kernel, by decide +kernel⟩, List.mem_of_getElem? (i := 1217) (by decide +kernel), List.mem_of_getElem? (i := 1656) (by decide +kernel), List.mem_of_getElem? (i := 1657) (by decide +kernel)⟩
theorem lw_p100 : lw_okq (⟨"MerryDuchyModel", "oftenBy", "(III)I"⟩, 53) := ⟨⟨by decide +kernel, by decide +kernel⟩, List.mem_of_getElem? (i := 1217) (by decide +kernel), List.mem_of_getElem? (i := 1665) (by decide +kernel), List.mem_of_getElem? (i := 1666) (by decide +kernel)⟩
theorem lw_p101 : lw_okq (⟨"MerryDuchyModel", "canDo", "(II)I"⟩, 53) := ⟨⟨by decide +kernel, by decide +kernel⟩, List.mem_of_getElem? (i := 1217) (by decide +kernel), List.mem_of_getElem? (i := 1669) (by decide +kernel), List.mem_of_getElem? (i := 1670) (by decide +kernel)⟩
theorem lw_p102 : lw_okq (⟨"MerryDuchyModel", "paysBy", "(III)I"⟩, 53) := ⟨⟨by decide +kernel, by decide +kernel⟩, List.mem_of_getElem? (i := 1217) (by decide +kernel), List.mem_of_getElem? (i := 1673) (by decide +kernel), List.mem_of_getElem? (i := 1674) (by decide +kernel)⟩
theorem lw_p103 : lw_okq (⟨"MerryDuchyModel", "lastsOf", "(II)I"⟩, 53) := ⟨⟨by decide +kernel, by decide +kernel⟩, List.mem_of_getElem? (i := 1217) (by decide +kernel), List.mem_of_getElem? (i := 1685) (by decide +kernel), List.mem_of_getElem? (i := 1686) (by decide +kernel)⟩
theorem lw_p104 : lw_okq (⟨"MerryDuchyModel", "mostAlike", "(II)I"⟩, 53) := ⟨⟨by decide +kernel, by decide +kernel⟩, List.mem_of_getElem? (i := 1217) (by decide +kernel), List.mem_of_getElem? (i := 1704) (by decide +kernel), List.mem_of_getElem? (i := 1705) (by decide +kernel)⟩
theorem lw_p105 : lw_okq (⟨"MerryDuchyModel", "layReach", "(I)V"⟩, 53) := ⟨⟨by decide +kernel, by decide +kernel⟩, List.mem_of_getElem? (i := 1217) (by decide +kernel), List.mem_of_getElem? (i := 1720) (by decide +kernel), List.mem_of_getElem? (i := 1721) (by decide +kernel)⟩
theorem lw_p106 : lw_okq (⟨"MerryDuchyModel", "mayDo", "(III)Z"⟩, 53) := ⟨⟨by decide +kernel, by decide +kernel⟩, List.mem_of_getElem? (i := 1217) (by decide +kernel), List.mem_of_getElem? (i := 1724) (by decide +kernel), List.mem_of_getElem? (i := 1725) (by decide +kernel)⟩
theorem lw_p107 : lw_okq (⟨"MerryDuchyModel", "writeWord", "(J)V"⟩, 53) := ⟨⟨by decide +kernel, by decide +kernel⟩, List.mem_of_getElem? (i := 1217) (by decide +kernel), List.mem_of_getElem? (i := 1740) (by decide +kernel), List.mem_of_getElem? (i := 1741) (by decide +kernel)⟩
theorem lw_p108 : lw_okq (⟨"MerryDuchyModel", "write", "(I)V"⟩, 53) := ⟨⟨by decide +kernel, by decide +kernel⟩, List.mem_of_getElem? (i := 1217) (by decide +kernel), List.mem_of_getElem? (i := 1744) (by decide +kernel), List.mem_of_getElem? (i := 1745) (by decide +kernel)⟩
theorem lw_p109 : lw_okq (⟨"MerryDuchyModel", "writeNext", "(J)V"⟩, 53) := ⟨⟨by decide +kernel, by decide +kernel⟩, List.mem_of_getElem? (i := 1217) (by decide +kernel), List.mem_of_getElem? (i := 1748) (by decide +kernel), List.mem_of_getElem? (i := 1749) (by decide +kernel)⟩
theorem lw_p110 : lw_okq (⟨"MerryDuchyModel", "writeNumber", "(I)V"⟩, 53) := ⟨⟨by decide +kernel, by decide +kernel⟩, List.mem_of_getElem? (i := 1217) (by decide +kernel), List.mem_of_getElem? (i := 1752) (by decide +kernel), List.mem_of_getElem? (i := 1753) (by decide +kernel)⟩
theorem lw_p111 : lw_okq (⟨"MerryDuchyModel", "drawWeeks", "(II)I"⟩, 53) := ⟨⟨by decide +kernel, by decide +kernel⟩, List.mem_of_getElem? (i := 1217) (by decide +kernel), List.mem_of_getElem? (i := 1764) (by decide +kernel), List.mem_of_getElem? (i := 1765) (by decide +kernel)⟩
def lw_privs_7 : List (MethodName × Nat) := [(⟨"MerryDuchyModel", "doPay", "(III)V"⟩, 53), (⟨"MerryDuchyModel", "doStrike", "()I"⟩, 53), (⟨"MerryDuchyModel", "passWeeks", "(I)I"⟩, 53), (⟨"MerryDuchyModel", "oneWeek", "()V"⟩, 53), (⟨"MerryDuchyModel", "oftenBy", "(III)I"⟩, 53), (⟨"MerryDuchyModel", "canDo", "(II)I"⟩, 53), (⟨"MerryDuchyModel", "paysBy", "(III)I"⟩, 53), (⟨"MerryDuchyModel", "lastsOf", "(II)I"⟩, 53), (⟨"MerryDuchyModel", "mostAlike", "(II)I"⟩, 53), (⟨"MerryDuchyModel", "layReach", "(I)V"⟩, 53), (⟨"MerryDuchyModel", "mayDo", "(III)Z"⟩, 53), (⟨"MerryDuchyModel", "writeWord", "(J)V"⟩, 53), (⟨"MerryDuchyModel", "write", "(I)V"⟩, 53), (⟨"MerryDuchyModel", "writeNext", "(J)V"⟩, 53), (⟨"MerryDuchyModel", "writeNumber", "(I)V"⟩, 53), (⟨"MerryDuchyModel", "drawWeeks", "(II)I"⟩, 53)]
theorem lw_r7 : ∀ q ∈ lw_privs_7, lw_okq q := List.forall_mem_cons.mpr ⟨lw_p96, List.forall_mem_cons.mpr ⟨lw_p97, List.forall_mem_cons.mpr ⟨lw_p98, List.forall_mem_cons.mpr ⟨lw_p99, List.forall_mem_cons.mpr ⟨lw_p100, List.forall_mem_cons.mpr ⟨lw_p101, List.forall_mem_cons.mpr ⟨lw_p102, List.forall_mem_cons.mpr ⟨lw_p103, List.forall_mem_cons.mpr ⟨lw_p104, List.forall_mem_cons.mpr ⟨lw_p105, List.forall_mem_cons.mpr ⟨lw_p106, List.forall_mem_cons.mpr ⟨lw_p107, List.forall_mem_cons.mpr ⟨lw_p108, List.forall_mem_cons.mpr ⟨lw_p109, List.forall_mem_cons.mpr ⟨lw_p110, List.forall_mem_cons.mpr ⟨lw_p111, fun _ h => absurd h List.not_mem_nil⟩⟩⟩⟩⟩⟩⟩⟩⟩⟩⟩⟩⟩⟩⟩⟩
theorem lw_p112 : lw_okq (⟨"MerryDuchyModel", "draw", "(I)I"⟩, 53) := ⟨⟨by decide +kernel, by decide +kernel⟩, List.mem_of_getElem? (i := 1217) (by decide +kernel), List.mem_of_getElem? (i := 1768) (by decide +kernel), List.mem_of_getElem? (i := 1769) (by decide +kernel)⟩
theorem lw_p113 : lw_okq (⟨"MerryDuchyModel", "tryTo", "(III)V"⟩, 53) := ⟨⟨by decide +kernel, by decide +kernel⟩, List.mem_of_getElem? (i := 1217) (by decide +kernel), List.mem_of_getElem? (i := 1773) (by decide +kernel), List.mem_of_getElem? (i := 1774) (by decide +kernel)⟩
theorem lw_p114 : lw_okq (⟨"MerryDuchyModel", "layAside", "()V"⟩, 53) := ⟨⟨by decide +kernel, by decide +kernel⟩, List.mem_of_getElem? (i := 1217) (by decide +kernel), List.mem_of_getElem? (i := 1781) (by decide +kernel), List.mem_of_getElem? (i := 1782) (by decide +kernel)⟩
theorem lw_p115 : lw_okq (⟨"MerryDuchyModel", "takeBack", "()V"⟩, 53) := ⟨⟨by decide +kernel, by decide +kernel⟩, List.mem_of_getElem? (i := 1217) (by decide +kernel), List.mem_of_getElem? (i := 1785) (by decide +kernel), List.mem_of_getElem? (i := 1786) (by decide +kernel)⟩
theorem lw_p116 : lw_okq (⟨"MerryDuchyModel", "readBookLine", "()Z"⟩, 53) := ⟨⟨by decide +kernel, by decide +kernel⟩, List.mem_of_getElem? (i := 1217) (by decide +kernel), List.mem_of_getElem? (i := 1793) (by decide +kernel), List.mem_of_getElem? (i := 1794) (by decide +kernel)⟩
theorem lw_p117 : lw_okq (⟨"MerryDuchyModel", "readDoes", "(I)Z"⟩, 53) := ⟨⟨by decide +kernel, by decide +kernel⟩, List.mem_of_getElem? (i := 1217) (by decide +kernel), List.mem_of_getElem? (i := 1797) (by decide +kernel), List.mem_of_getElem? (i := 1798) (by decide +kernel)⟩
theorem lw_p118 : lw_okq (⟨"MerryDuchyModel", "readNamed", "(II)Z"⟩, 53) := ⟨⟨by decide +kernel, by decide +kernel⟩, List.mem_of_getElem? (i := 1217) (by decide +kernel), List.mem_of_getElem? (i := 1801) (by decide +kernel), List.mem_of_getElem? (i := 1802) (by decide +kernel)⟩
theorem lw_p119 : lw_okq (⟨"MerryDuchyModel", "keep", "(IZ)Z"⟩, 53) := ⟨⟨by decide +kernel, by decide +kernel⟩, List.mem_of_getElem? (i := 1217) (by decide +kernel), List.mem_of_getElem? (i := 1805) (by decide +kernel), List.mem_of_getElem? (i := 1806) (by decide +kernel)⟩
theorem lw_p120 : lw_okq (⟨"MerryDuchyModel", "goBy", "(I)I"⟩, 53) := ⟨⟨by decide +kernel, by decide +kernel⟩, List.mem_of_getElem? (i := 1217) (by decide +kernel), List.mem_of_getElem? (i := 1809) (by decide +kernel), List.mem_of_getElem? (i := 1810) (by decide +kernel)⟩
theorem lw_p121 : lw_okq (⟨"MerryDuchyModel", "stay", "(Z)V"⟩, 53) := ⟨⟨by decide +kernel, by decide +kernel⟩, List.mem_of_getElem? (i := 1217) (by decide +kernel), List.mem_of_getElem? (i := 1813) (by decide +kernel), List.mem_of_getElem? (i := 1814) (by decide +kernel)⟩
theorem lw_p122 : lw_okq (⟨"MerryDuchyModel", "readOr", "()Z"⟩, 53) := ⟨⟨by decide +kernel, by decide +kernel⟩, List.mem_of_getElem? (i := 1217) (by decide +kernel), List.mem_of_getElem? (i := 1825) (by decide +kernel), List.mem_of_getElem? (i := 1826) (by decide +kernel)⟩
theorem lw_p123 : lw_okq (⟨"MerryDuchyModel", "readAnd", "()Z"⟩, 53) := ⟨⟨by decide +kernel, by decide +kernel⟩, List.mem_of_getElem? (i := 1217) (by decide +kernel), List.mem_of_getElem? (i := 1829) (by decide +kernel), List.mem_of_getElem? (i := 1830) (by decide +kernel)⟩
theorem lw_p124 : lw_okq (⟨"MerryDuchyModel", "readSaid", "()Z"⟩, 53) := ⟨⟨by decide +kernel, by decide +kernel⟩, List.mem_of_getElem? (i := 1217) (by decide +kernel), List.mem_of_getElem? (i := 1833) (by decide +kernel), List.mem_of_getElem? (i := 1834) (by decide +kernel)⟩
theorem lw_p125 : lw_okq (⟨"MerryDuchyModel", "readBracket", "()Z"⟩, 53) := ⟨⟨by decide +kernel, by decide +kernel⟩, List.mem_of_getElem? (i := 1217) (by decide +kernel), List.mem_of_getElem? (i := 1837) (by decide +kernel), List.mem_of_getElem? (i := 1838) (by decide +kernel)⟩
theorem lw_p126 : lw_okq (⟨"MerryDuchyModel", "readNot", "()Z"⟩, 53) := ⟨⟨by decide +kernel, by decide +kernel⟩, List.mem_of_getElem? (i := 1217) (by decide +kernel), List.mem_of_getElem? (i := 1841) (by decide +kernel), List.mem_of_getElem? (i := 1842) (by decide +kernel)⟩
theorem lw_p127 : lw_okq (⟨"MerryDuchyModel", "saysOne", "(IIII)I"⟩, 53) := ⟨⟨by decide +kernel, by decide +kernel⟩, List.mem_of_getElem? (i := 1217) (by decide +kernel), List.mem_of_getElem? (i := 1845) (by decide +kernel), List.mem_of_getElem? (i := 1846) (by decide +kernel)⟩
def lw_privs_8 : List (MethodName × Nat) := [(⟨"MerryDuchyModel", "draw", "(I)I"⟩, 53), (⟨"MerryDuchyModel", "tryTo", "(III)V"⟩, 53), (⟨"MerryDuchyModel", "layAside", "()V"⟩, 53), (⟨"MerryDuchyModel", "takeBack", "()V"⟩, 53), (⟨"MerryDuchyModel", "readBookLine", "()Z"⟩, 53), (⟨"MerryDuchyModel", "readDoes", "(I)Z"⟩, 53), (⟨"MerryDuchyModel", "readNamed", "(II)Z"⟩, 53), (⟨"MerryDuchyModel", "keep", "(IZ)Z"⟩, 53), (⟨"MerryDuchyModel", "goBy", "(I)I"⟩, 53), (⟨"MerryDuchyModel", "stay", "(Z)V"⟩, 53), (⟨"MerryDuchyModel", "readOr", "()Z"⟩, 53), (⟨"MerryDuchyModel", "readAnd", "()Z"⟩, 53), (⟨"MerryDuchyModel", "readSaid", "()Z"⟩, 53), (⟨"MerryDuchyModel", "readBracket", "()Z"⟩, 53), (⟨"MerryDuchyModel", "readNot", "()Z"⟩, 53), (⟨"MerryDuchyModel", "saysOne", "(IIII)I"⟩, 53)]
theorem lw_r8 : ∀ q ∈ lw_privs_8, lw_okq q := List.forall_mem_cons.mpr ⟨lw_p112, List.forall_mem_cons.mpr ⟨lw_p113, List.forall_mem_cons.mpr ⟨lw_p114, List.forall_mem_cons.mpr ⟨lw_p115, List.forall_mem_cons.mpr ⟨lw_p116, List.forall_mem_cons.mpr ⟨lw_p117, List.forall_mem_cons.mpr ⟨lw_p118, List.forall_mem_cons.mpr ⟨lw_p119, List.forall_mem_cons.mpr ⟨lw_p120, List.forall_mem_cons.mpr ⟨lw_p121, List.forall_mem_cons.mpr ⟨lw_p122, List.forall_mem_cons.mpr ⟨lw_p123, List.forall_mem_cons.mpr ⟨lw_p124, List.forall_mem_cons.mpr ⟨lw_p125, List.forall_mem_cons.mpr ⟨lw_p126, List.forall_mem_cons.mpr ⟨lw_p127, fun _ h => absurd h List.not_mem_nil⟩⟩⟩⟩⟩⟩⟩⟩⟩⟩⟩⟩⟩⟩⟩⟩
theorem lw_p128 : lw_okq (⟨"MerryDuchyModel", "readOf", "(I)Z"⟩, 53) := ⟨⟨by decide +kernel, by decide +kernel⟩, List.mem_of_getElem? (i := 1217) (by decide +kernel), List.mem_of_getElem? (i := 1849) (by decide +kernel), List.mem_of_getElem? (i := 1850) (by decide +kernel)⟩
theorem lw_p129 : lw_okq (⟨"MerryDuchyModel", "readWhich", "(I)Z"⟩, 53) := ⟨⟨by decide +kernel, by decide +kernel⟩, List.mem_of_getElem? (i := 1217) (by decide +kernel), List.mem_of_getElem? (i := 1853) (by decide +kernel), List.mem_of_getElem? (i := 1854) (by decide +kernel)⟩
theorem lw_p130 : lw_okq (⟨"MerryDuchyModel", "readCompare", "(I)Z"⟩, 53) := ⟨⟨by decide +kernel, by decide +kernel⟩, List.mem_of_getElem? (i := 1217) (by decide +kernel), List.mem_of_getElem? (i := 1857) (by decide +kernel), List.mem_of_getElem? (i := 1858) (by decide +kernel)⟩
theorem lw_p131 : lw_okq (⟨"MerryDuchyModel", "holds", "(II)Z"⟩, 53) := ⟨⟨by decide +kernel, by decide +kernel⟩, List.mem_of_getElem? (i := 1217) (by decide +kernel), List.mem_of_getElem? (i := 1865) (by decide +kernel), List.mem_of_getElem? (i := 1866) (by decide +kernel)⟩
def lw_privs_9 : List (MethodName × Nat) := [(⟨"MerryDuchyModel", "readOf", "(I)Z"⟩, 53), (⟨"MerryDuchyModel", "readWhich", "(I)Z"⟩, 53), (⟨"MerryDuchyModel", "readCompare", "(I)Z"⟩, 53), (⟨"MerryDuchyModel", "holds", "(II)Z"⟩, 53)]
theorem lw_r9 : ∀ q ∈ lw_privs_9, lw_okq q := List.forall_mem_cons.mpr ⟨lw_p128, List.forall_mem_cons.mpr ⟨lw_p129, List.forall_mem_cons.mpr ⟨lw_p130, List.forall_mem_cons.mpr ⟨lw_p131, fun _ h => absurd h List.not_mem_nil⟩⟩⟩⟩
def lw_privs : List (MethodName × Nat) := lw_privs_1 ++ (lw_privs_2 ++ (lw_privs_3 ++ (lw_privs_4 ++ (lw_privs_5 ++ (lw_privs_6 ++ (lw_privs_7 ++ (lw_privs_8 ++ (lw_privs_9))))))))
def lw_tbl : List Cond := k2_sels lw_privs ++ tables_1
theorem lw_privs_ok : ∀ q ∈ lw_privs, lw_okq q := by
  show ∀ q ∈ lw_privs_1 ++ (lw_privs_2 ++ (lw_privs_3 ++ (lw_privs_4 ++ (lw_privs_5 ++ (lw_privs_6 ++ (lw_privs_7 ++ (lw_privs_8 ++ (lw_privs_9)))))))), lw_okq q
  exact List.forall_mem_append.mpr ⟨lw_r1, List.forall_mem_append.mpr ⟨lw_r2, List.forall_mem_append.mpr ⟨lw_r3, List.forall_mem_append.mpr ⟨lw_r4, List.forall_mem_append.mpr ⟨lw_r5, List.forall_mem_append.mpr ⟨lw_r6, List.forall_mem_append.mpr ⟨lw_r7, List.forall_mem_append.mpr ⟨lw_r8, lw_r9⟩⟩⟩⟩⟩⟩⟩⟩
def RX0 : String := "MerryDuchy$Acts"
def TX0 : u_T := fun k => match k with
  | 0 => ("MerryDuchy$Acts", "duchy", "LMerryDuchy$Duchy;", true)
  | 1 => ("MerryDuchy$Acts", "ring", "LMerryDuchy$Ring;", true)
  | 2 => ("MerryDuchy$Acts", "groups", "[I", true)
  | 3 => ("MerryDuchy$Acts", "balances", "[I", true)
  | _ => ("MerryDuchy$Acts", "seed", "I", false)
def tyX0 : Nat → FieldType := fun k => match k with
  | 0 => .object "MerryDuchy$Duchy"
  | 1 => .object "MerryDuchy$Ring"
  | 2 => .array .int
  | 3 => .array .int
  | _ => .int
theorem nmX0 : ∀ a, a < 5 → ∀ b, b < 5 → a ≠ b → (TX0 a).2.1 ≠ (TX0 b).2.1 := by decide +kernel
theorem tyX0_ok : ∀ k, k < 5 → parseFieldDescriptor (TX0 k).2.2.1 = some (tyX0 k) := by decide +kernel
abbrev cX0_init : ByteArray := prog_2_method_1_code
def yX0_init : MethodName := ⟨RX0, "<init>", "()V"⟩
abbrev cX0_whyNot : ByteArray := prog_2_method_2_code
def yX0_whyNot : MethodName := ⟨RX0, "whyNot", "(LMerryDuchy$State;IIII)I"⟩
abbrev cX0_perform : ByteArray := prog_2_method_3_code
def yX0_perform : MethodName := ⟨RX0, "perform", "(LMerryDuchy$State;IIII)I"⟩
abbrev cX0_doForfeit : ByteArray := prog_2_method_4_code
def yX0_doForfeit : MethodName := ⟨RX0, "doForfeit", "(LMerryDuchy$State;II)I"⟩
abbrev cX0_passWeeks : ByteArray := prog_2_method_5_code
def yX0_passWeeks : MethodName := ⟨RX0, "passWeeks", "(LMerryDuchy$State;I)V"⟩
abbrev cX0_drawWeeks : ByteArray := prog_2_method_6_code
def yX0_drawWeeks : MethodName := ⟨RX0, "drawWeeks", "(LMerryDuchy$State;II)V"⟩
abbrev cX0_drawAct : ByteArray := prog_2_method_7_code
def yX0_drawAct : MethodName := ⟨RX0, "drawAct", "(LMerryDuchy$State;I)V"⟩
abbrev cX0_drawOne : ByteArray := prog_2_method_8_code
def yX0_drawOne : MethodName := ⟨RX0, "drawOne", "(LMerryDuchy$State;III)V"⟩
abbrev cX0_draw : ByteArray := prog_2_method_9_code
def yX0_draw : MethodName := ⟨RX0, "draw", "(I)I"⟩
abbrev cX0_timesLeft : ByteArray := prog_2_method_10_code
def yX0_timesLeft : MethodName := ⟨RX0, "timesLeft", "(II)I"⟩
abbrev cX0_mildestForfeit : ByteArray := prog_2_method_11_code
def yX0_mildestForfeit : MethodName := ⟨RX0, "mildestForfeit", "(I)I"⟩
abbrev cX0_fewestPayments : ByteArray := prog_2_method_12_code
def yX0_fewestPayments : MethodName := ⟨RX0, "fewestPayments", "()I"⟩
abbrev cX0_balanceOf : ByteArray := prog_2_method_13_code
def yX0_balanceOf : MethodName := ⟨RX0, "balanceOf", "(I)I"⟩
def RX1 : String := "MerryDuchy$Book"
def TX1 : u_T := fun k => match k with
  | 0 => ("MerryDuchy$Book", "rows", "[I", true)
  | 1 => ("MerryDuchy$Book", "lines", "I", false)
  | 2 => ("MerryDuchy$Book", "told", "[I", true)
  | _ => ("MerryDuchy$Book", "toldRows", "I", false)
def tyX1 : Nat → FieldType := fun k => match k with
  | 0 => .array .int
  | 1 => .int
  | 2 => .array .int
  | _ => .int
theorem nmX1 : ∀ a, a < 4 → ∀ b, b < 4 → a ≠ b → (TX1 a).2.1 ≠ (TX1 b).2.1 := by decide +kernel
theorem tyX1_ok : ∀ k, k < 4 → parseFieldDescriptor (TX1 k).2.2.1 = some (tyX1 k) := by decide +kernel
abbrev cX1_init : ByteArray := prog_3_method_1_code
def yX1_init : MethodName := ⟨RX1, "<init>", "()V"⟩
abbrev cX1_readLines : ByteArray := prog_3_method_2_code
def yX1_readLines : MethodName := ⟨RX1, "readLines", "(LMerryDuchy$Tokens;LMerryDuchy$Duchy;)Z"⟩
abbrev cX1_readLine : ByteArray := prog_3_method_3_code
def yX1_readLine : MethodName := ⟨RX1, "readLine", "(LMerryDuchy$Tokens;LMerryDuchy$Duchy;)Z"⟩
abbrev cX1_readOfMan : ByteArray := prog_3_method_4_code
def yX1_readOfMan : MethodName := ⟨RX1, "readOfMan", "(LMerryDuchy$Tokens;LMerryDuchy$Duchy;I)Z"⟩
abbrev cX1_add : ByteArray := prog_3_method_5_code
def yX1_add : MethodName := ⟨RX1, "add", "(IIII)Z"⟩
abbrev cX1_live : ByteArray := prog_3_method_6_code
def yX1_live : MethodName := ⟨RX1, "live", "(LMerryDuchy$Acts;LMerryDuchy$State;)I"⟩
def RX2 : String := "MerryDuchy$Duchy"
def TX2 : u_T := fun k => match k with
  | 0 => ("MerryDuchy$Duchy", "counts", "[I", true)
  | 1 => ("MerryDuchy$Duchy", "names", "[J", true)
  | 2 => ("MerryDuchy$Duchy", "told", "[I", true)
  | 3 => ("MerryDuchy$Duchy", "bites", "[I", true)
  | 4 => ("MerryDuchy$Duchy", "minds", "[I", true)
  | 5 => ("MerryDuchy$Duchy", "worths", "[I", true)
  | 6 => ("MerryDuchy$Duchy", "wears", "I", false)
  | 7 => ("MerryDuchy$Duchy", "mends", "I", false)
  | 8 => ("MerryDuchy$Duchy", "state", "LMerryDuchy$State;", true)
  | _ => ("MerryDuchy$Duchy", "sentence", "LMerryDuchy$Sentence;", true)
def tyX2 : Nat → FieldType := fun k => match k with
  | 0 => .array .int
  | 1 => .array .long
  | 2 => .array .int
  | 3 => .array .int
  | 4 => .array .int
  | 5 => .array .int
  | 6 => .int
  | 7 => .int
  | 8 => .object "MerryDuchy$State"
  | _ => .object "MerryDuchy$Sentence"
theorem nmX2 : ∀ a, a < 10 → ∀ b, b < 10 → a ≠ b → (TX2 a).2.1 ≠ (TX2 b).2.1 := by decide +kernel
theorem tyX2_ok : ∀ k, k < 10 → parseFieldDescriptor (TX2 k).2.2.1 = some (tyX2 k) := by decide +kernel
abbrev cX2_init : ByteArray := prog_4_method_1_code
def yX2_init : MethodName := ⟨RX2, "<init>", "()V"⟩
abbrev cX2_men : ByteArray := prog_4_method_2_code
def yX2_men : MethodName := ⟨RX2, "men", "()I"⟩
abbrev cX2_forfeits : ByteArray := prog_4_method_3_code
def yX2_forfeits : MethodName := ⟨RX2, "forfeits", "()I"⟩
abbrev cX2_goods : ByteArray := prog_4_method_4_code
def yX2_goods : MethodName := ⟨RX2, "goods", "()I"⟩
abbrev cX2_has : ByteArray := prog_4_method_5_code
def yX2_has : MethodName := ⟨RX2, "has", "(II)Z"⟩
abbrev cX2_placeOf : ByteArray := prog_4_method_6_code
def yX2_placeOf : MethodName := ⟨RX2, "placeOf", "(J)I"⟩
abbrev cX2_costAfter : ByteArray := prog_4_method_7_code
def yX2_costAfter : MethodName := ⟨RX2, "costAfter", "(III)I"⟩
abbrev cX2_costNow : ByteArray := prog_4_method_8_code
def yX2_costNow : MethodName := ⟨RX2, "costNow", "(LMerryDuchy$State;II)I"⟩
abbrev cX2_takeAll : ByteArray := prog_4_method_9_code
def yX2_takeAll : MethodName := ⟨RX2, "takeAll", "(LMerryDuchy$Duchy;)V"⟩
abbrev cX2_readLines : ByteArray := prog_4_method_10_code
def yX2_readLines : MethodName := ⟨RX2, "readLines", "(LMerryDuchy$Tokens;)I"⟩
abbrev cX2_clear : ByteArray := prog_4_method_11_code
def yX2_clear : MethodName := ⟨RX2, "clear", "()V"⟩
abbrev cX2_fillWhatWasNotTold : ByteArray := prog_4_method_12_code
def yX2_fillWhatWasNotTold : MethodName := ⟨RX2, "fillWhatWasNotTold", "()V"⟩
abbrev cX2_readLine : ByteArray := prog_4_method_13_code
def yX2_readLine : MethodName := ⟨RX2, "readLine", "(LMerryDuchy$Tokens;)Z"⟩
abbrev cX2_takesFirstWord : ByteArray := prog_4_method_14_code
def yX2_takesFirstWord : MethodName := ⟨RX2, "takesFirstWord", "(LMerryDuchy$Tokens;I)Z"⟩
abbrev cX2_readMan : ByteArray := prog_4_method_15_code
def yX2_readMan : MethodName := ⟨RX2, "readMan", "(LMerryDuchy$Tokens;)Z"⟩
abbrev cX2_readForfeit : ByteArray := prog_4_method_16_code
def yX2_readForfeit : MethodName := ⟨RX2, "readForfeit", "(LMerryDuchy$Tokens;)Z"⟩
abbrev cX2_readGood : ByteArray := prog_4_method_17_code
def yX2_readGood : MethodName := ⟨RX2, "readGood", "(LMerryDuchy$Tokens;)Z"⟩
abbrev cX2_addName : ByteArray := prog_4_method_18_code
def yX2_addName : MethodName := ⟨RX2, "addName", "(IJ)I"⟩
abbrev cX2_readMinds : ByteArray := prog_4_method_19_code
def yX2_readMinds : MethodName := ⟨RX2, "readMinds", "(LMerryDuchy$Tokens;)Z"⟩
abbrev cX2_readOwes : ByteArray := prog_4_method_20_code
def yX2_readOwes : MethodName := ⟨RX2, "readOwes", "(LMerryDuchy$Tokens;)Z"⟩
abbrev cX2_readWears : ByteArray := prog_4_method_21_code
def yX2_readWears : MethodName := ⟨RX2, "readWears", "(LMerryDuchy$Tokens;)Z"⟩
abbrev cX2_readMends : ByteArray := prog_4_method_22_code
def yX2_readMends : MethodName := ⟨RX2, "readMends", "(LMerryDuchy$Tokens;)Z"⟩
def RX3 : String := "MerryDuchy$Fits"
def TX3 : u_T := fun k => match k with
  | 0 => ("MerryDuchy$Fits", "done", "[I", true)
  | _ => ("MerryDuchy$Fits", "telling", "I", false)
def tyX3 : Nat → FieldType := fun k => match k with
  | 0 => .array .int
  | _ => .int
theorem nmX3 : ∀ a, a < 2 → ∀ b, b < 2 → a ≠ b → (TX3 a).2.1 ≠ (TX3 b).2.1 := by decide +kernel
theorem tyX3_ok : ∀ k, k < 2 → parseFieldDescriptor (TX3 k).2.2.1 = some (tyX3 k) := by decide +kernel
abbrev cX3_init : ByteArray := prog_5_method_1_code
def yX3_init : MethodName := ⟨RX3, "<init>", "()V"⟩
abbrev cX3_find : ByteArray := prog_5_method_2_code
def yX3_find : MethodName := ⟨RX3, "find", "(LMerryDuchy$Duchy;[BI)I"⟩
abbrev cX3_mayHavePaid : ByteArray := prog_5_method_3_code
def yX3_mayHavePaid : MethodName := ⟨RX3, "mayHavePaid", "(LMerryDuchy$Duchy;I[BI)Z"⟩
abbrev cX3_countDone : ByteArray := prog_5_method_4_code
def yX3_countDone : MethodName := ⟨RX3, "countDone", "(LMerryDuchy$Duchy;[BI)V"⟩
abbrev cX3_mostTelling : ByteArray := prog_5_method_5_code
def yX3_mostTelling : MethodName := ⟨RX3, "mostTelling", "(LMerryDuchy$Duchy;I)I"⟩
abbrev cX3_mostLeft : ByteArray := prog_5_method_6_code
def yX3_mostLeft : MethodName := ⟨RX3, "mostLeft", "(LMerryDuchy$Duchy;II)I"⟩
def RX4 : String := "MerryDuchy$Past"
def TX4 : u_T := fun k => match k with
  | 0 => ("MerryDuchy$Past", "states", "[LMerryDuchy$State;", true)
  | 1 => ("MerryDuchy$Past", "next", "I", false)
  | _ => ("MerryDuchy$Past", "size", "I", false)
def tyX4 : Nat → FieldType := fun k => match k with
  | 0 => .array (.object "MerryDuchy$State")
  | 1 => .int
  | _ => .int
theorem nmX4 : ∀ a, a < 3 → ∀ b, b < 3 → a ≠ b → (TX4 a).2.1 ≠ (TX4 b).2.1 := by decide +kernel
theorem tyX4_ok : ∀ k, k < 3 → parseFieldDescriptor (TX4 k).2.2.1 = some (tyX4 k) := by decide +kernel
abbrev cX4_init : ByteArray := prog_6_method_1_code
def yX4_init : MethodName := ⟨RX4, "<init>", "()V"⟩
abbrev cX4_keep : ByteArray := prog_6_method_2_code
def yX4_keep : MethodName := ⟨RX4, "keep", "(LMerryDuchy$State;)V"⟩
abbrev cX4_giveBack : ByteArray := prog_6_method_3_code
def yX4_giveBack : MethodName := ⟨RX4, "giveBack", "(LMerryDuchy$State;)I"⟩
abbrev cX4_forget : ByteArray := prog_6_method_4_code
def yX4_forget : MethodName := ⟨RX4, "forget", "()V"⟩
def RX5 : String := "MerryDuchy$Plan"
def TX5 : u_T := fun k => match k with
  | 0 => ("MerryDuchy$Plan", "fewest", "[I", true)
  | 1 => ("MerryDuchy$Plan", "pays", "[I", true)
  | 2 => ("MerryDuchy$Plan", "times", "[I", true)
  | _ => ("MerryDuchy$Plan", "forfeits", "I", false)
def tyX5 : Nat → FieldType := fun k => match k with
  | 0 => .array .int
  | 1 => .array .int
  | 2 => .array .int
  | _ => .int
theorem nmX5 : ∀ a, a < 4 → ∀ b, b < 4 → a ≠ b → (TX5 a).2.1 ≠ (TX5 b).2.1 := by decide +kernel
theorem tyX5_ok : ∀ k, k < 4 → parseFieldDescriptor (TX5 k).2.2.1 = some (tyX5 k) := by decide +kernel
abbrev cX5_init : ByteArray := prog_7_method_1_code
def yX5_init : MethodName := ⟨RX5, "<init>", "()V"⟩
abbrev cX5_find : ByteArray := prog_7_method_2_code
def yX5_find : MethodName := ⟨RX5, "find", "(LMerryDuchy$Duchy;II)I"⟩
abbrev cX5_fillPays : ByteArray := prog_7_method_3_code
def yX5_fillPays : MethodName := ⟨RX5, "fillPays", "(LMerryDuchy$Duchy;II)V"⟩
abbrev cX5_fewestFor : ByteArray := prog_7_method_4_code
def yX5_fewestFor : MethodName := ⟨RX5, "fewestFor", "(II)I"⟩
abbrev cX5_choose : ByteArray := prog_7_method_5_code
def yX5_choose : MethodName := ⟨RX5, "choose", "(II)V"⟩
def RX6 : String := "MerryDuchy$Ring"
def TX6 : u_T := fun k => match k with
  | 0 => ("MerryDuchy$Ring", "men", "[I", true)
  | _ => ("MerryDuchy$Ring", "size", "I", false)
def tyX6 : Nat → FieldType := fun k => match k with
  | 0 => .array .int
  | _ => .int
theorem nmX6 : ∀ a, a < 2 → ∀ b, b < 2 → a ≠ b → (TX6 a).2.1 ≠ (TX6 b).2.1 := by decide +kernel
theorem tyX6_ok : ∀ k, k < 2 → parseFieldDescriptor (TX6 k).2.2.1 = some (tyX6 k) := by decide +kernel
abbrev cX6_init : ByteArray := prog_8_method_1_code
def yX6_init : MethodName := ⟨RX6, "<init>", "()V"⟩
abbrev cX6_takeAll : ByteArray := prog_8_method_2_code
def yX6_takeAll : MethodName := ⟨RX6, "takeAll", "(LMerryDuchy$Ring;)V"⟩
abbrev cX6_find : ByteArray := prog_8_method_3_code
def yX6_find : MethodName := ⟨RX6, "find", "(LMerryDuchy$State;I)Z"⟩
abbrev cX6_closes : ByteArray := prog_8_method_4_code
def yX6_closes : MethodName := ⟨RX6, "closes", "(LMerryDuchy$State;III)Z"⟩
abbrev cX6_strikeFrom : ByteArray := prog_8_method_5_code
def yX6_strikeFrom : MethodName := ⟨RX6, "strikeFrom", "(LMerryDuchy$State;)I"⟩
abbrev cX6_pairAt : ByteArray := prog_8_method_6_code
def yX6_pairAt : MethodName := ⟨RX6, "pairAt", "(I)I"⟩
def RX7 : String := "MerryDuchy$Sentence"
def TX7 : u_T := fun k => match k with
  | 0 => ("MerryDuchy$Sentence", "code", "[I", true)
  | 1 => ("MerryDuchy$Sentence", "stack", "[I", true)
  | 2 => ("MerryDuchy$Sentence", "length", "I", false)
  | _ => ("MerryDuchy$Sentence", "ones", "I", false)
def tyX7 : Nat → FieldType := fun k => match k with
  | 0 => .array .int
  | 1 => .array .int
  | 2 => .int
  | _ => .int
theorem nmX7 : ∀ a, a < 4 → ∀ b, b < 4 → a ≠ b → (TX7 a).2.1 ≠ (TX7 b).2.1 := by decide +kernel
theorem tyX7_ok : ∀ k, k < 4 → parseFieldDescriptor (TX7 k).2.2.1 = some (tyX7 k) := by decide +kernel
abbrev cX7_init : ByteArray := prog_9_method_1_code
def yX7_init : MethodName := ⟨RX7, "<init>", "()V"⟩
abbrev cX7_clear : ByteArray := prog_9_method_2_code
def yX7_clear : MethodName := ⟨RX7, "clear", "()V"⟩
abbrev cX7_takeAll : ByteArray := prog_9_method_3_code
def yX7_takeAll : MethodName := ⟨RX7, "takeAll", "(LMerryDuchy$Sentence;)V"⟩
abbrev cX7_readWhole : ByteArray := prog_9_method_4_code
def yX7_readWhole : MethodName := ⟨RX7, "readWhole", "(LMerryDuchy$Tokens;LMerryDuchy$Duchy;)Z"⟩
abbrev cX7_readCond : ByteArray := prog_9_method_5_code
def yX7_readCond : MethodName := ⟨RX7, "readCond", "(LMerryDuchy$Tokens;LMerryDuchy$Duchy;I)Z"⟩
abbrev cX7_readOne : ByteArray := prog_9_method_6_code
def yX7_readOne : MethodName := ⟨RX7, "readOne", "(LMerryDuchy$Tokens;LMerryDuchy$Duchy;I)Z"⟩
abbrev cX7_readPlainOne : ByteArray := prog_9_method_7_code
def yX7_readPlainOne : MethodName := ⟨RX7, "readPlainOne", "(LMerryDuchy$Tokens;LMerryDuchy$Duchy;I)Z"⟩
abbrev cX7_add : ByteArray := prog_9_method_8_code
def yX7_add : MethodName := ⟨RX7, "add", "(III)Z"⟩
abbrev cX7_menOf : ByteArray := prog_9_method_9_code
def yX7_menOf : MethodName := ⟨RX7, "menOf", "(LMerryDuchy$Duchy;)I"⟩
abbrev cX7_menOfOne : ByteArray := prog_9_method_10_code
def yX7_menOfOne : MethodName := ⟨RX7, "menOfOne", "(LMerryDuchy$Duchy;I)I"⟩
abbrev cX7_isSo : ByteArray := prog_9_method_11_code
def yX7_isSo : MethodName := ⟨RX7, "isSo", "(LMerryDuchy$Duchy;II)Z"⟩
abbrev cX7_holds : ByteArray := prog_9_method_12_code
def yX7_holds : MethodName := ⟨RX7, "holds", "(III)Z"⟩
def RX8 : String := "MerryDuchy$State"
def TX8 : u_T := fun k => match k with
  | 0 => ("MerryDuchy$State", "pride", "[I", true)
  | 1 => ("MerryDuchy$State", "credit", "[I", true)
  | 2 => ("MerryDuchy$State", "paid", "[I", true)
  | 3 => ("MerryDuchy$State", "stock", "[I", true)
  | 4 => ("MerryDuchy$State", "debts", "[I", true)
  | 5 => ("MerryDuchy$State", "times", "[I", true)
  | 6 => ("MerryDuchy$State", "bought", "[I", true)
  | _ => ("MerryDuchy$State", "week", "I", false)
def tyX8 : Nat → FieldType := fun k => match k with
  | 0 => .array .int
  | 1 => .array .int
  | 2 => .array .int
  | 3 => .array .int
  | 4 => .array .int
  | 5 => .array .int
  | 6 => .array .int
  | _ => .int
theorem nmX8 : ∀ a, a < 8 → ∀ b, b < 8 → a ≠ b → (TX8 a).2.1 ≠ (TX8 b).2.1 := by decide +kernel
theorem tyX8_ok : ∀ k, k < 8 → parseFieldDescriptor (TX8 k).2.2.1 = some (tyX8 k) := by decide +kernel
abbrev cX8_init : ByteArray := prog_10_method_1_code
def yX8_init : MethodName := ⟨RX8, "<init>", "()V"⟩
abbrev cX8_clear : ByteArray := prog_10_method_2_code
def yX8_clear : MethodName := ⟨RX8, "clear", "()V"⟩
abbrev cX8_takeAll : ByteArray := prog_10_method_3_code
def yX8_takeAll : MethodName := ⟨RX8, "takeAll", "(LMerryDuchy$State;)V"⟩
abbrev cX8_allOwedBy : ByteArray := prog_10_method_4_code
def yX8_allOwedBy : MethodName := ⟨RX8, "allOwedBy", "(I)I"⟩
abbrev cX8_allCredit : ByteArray := prog_10_method_5_code
def yX8_allCredit : MethodName := ⟨RX8, "allCredit", "()I"⟩
def RX9 : String := "MerryDuchy$Tax"
def TX9 : u_T := fun k => match k with
  | 0 => ("MerryDuchy$Tax", "costs", "[I", true)
  | 1 => ("MerryDuchy$Tax", "can", "[Z", true)
  | 2 => ("MerryDuchy$Tax", "chosen", "[I", true)
  | _ => ("MerryDuchy$Tax", "men", "I", false)
def tyX9 : Nat → FieldType := fun k => match k with
  | 0 => .array .int
  | 1 => .array .boolean
  | 2 => .array .int
  | _ => .int
theorem nmX9 : ∀ a, a < 4 → ∀ b, b < 4 → a ≠ b → (TX9 a).2.1 ≠ (TX9 b).2.1 := by decide +kernel
theorem tyX9_ok : ∀ k, k < 4 → parseFieldDescriptor (TX9 k).2.2.1 = some (tyX9 k) := by decide +kernel
abbrev cX9_init : ByteArray := prog_11_method_1_code
def yX9_init : MethodName := ⟨RX9, "<init>", "()V"⟩
abbrev cX9_find : ByteArray := prog_11_method_2_code
def yX9_find : MethodName := ⟨RX9, "find", "(LMerryDuchy$Duchy;I)I"⟩
abbrev cX9_fillCosts : ByteArray := prog_11_method_3_code
def yX9_fillCosts : MethodName := ⟨RX9, "fillCosts", "(LMerryDuchy$Duchy;)V"⟩
abbrev cX9_leastGreatest : ByteArray := prog_11_method_4_code
def yX9_leastGreatest : MethodName := ⟨RX9, "leastGreatest", "(I)I"⟩
abbrev cX9_dearest : ByteArray := prog_11_method_5_code
def yX9_dearest : MethodName := ⟨RX9, "dearest", "(II)I"⟩
abbrev cX9_fillCan : ByteArray := prog_11_method_6_code
def yX9_fillCan : MethodName := ⟨RX9, "fillCan", "(II)V"⟩
abbrev cX9_canPay : ByteArray := prog_11_method_7_code
def yX9_canPay : MethodName := ⟨RX9, "canPay", "(III)Z"⟩
abbrev cX9_choose : ByteArray := prog_11_method_8_code
def yX9_choose : MethodName := ⟨RX9, "choose", "(III)V"⟩
def RX10 : String := "MerryDuchy$Tokens"
def TX10 : u_T := fun k => match k with
  | 0 => ("MerryDuchy$Tokens", "bytes", "[B", true)
  | 1 => ("MerryDuchy$Tokens", "keyWords", "[J", true)
  | 2 => ("MerryDuchy$Tokens", "length", "I", false)
  | 3 => ("MerryDuchy$Tokens", "mostBytes", "I", false)
  | 4 => ("MerryDuchy$Tokens", "at", "I", false)
  | 5 => ("MerryDuchy$Tokens", "start", "I", false)
  | 6 => ("MerryDuchy$Tokens", "kind", "I", false)
  | 7 => ("MerryDuchy$Tokens", "key", "I", false)
  | 8 => ("MerryDuchy$Tokens", "word", "J", false)
  | 9 => ("MerryDuchy$Tokens", "value", "I", false)
  | 10 => ("MerryDuchy$Tokens", "takenWord", "J", false)
  | 11 => ("MerryDuchy$Tokens", "taken", "I", false)
  | 12 => ("MerryDuchy$Tokens", "fault", "I", false)
  | _ => ("MerryDuchy$Tokens", "place", "I", false)
def tyX10 : Nat → FieldType := fun k => match k with
  | 0 => .array .byte
  | 1 => .array .long
  | 2 => .int
  | 3 => .int
  | 4 => .int
  | 5 => .int
  | 6 => .int
  | 7 => .int
  | 8 => .long
  | 9 => .int
  | 10 => .long
  | 11 => .int
  | 12 => .int
  | _ => .int
theorem nmX10 : ∀ a, a < 14 → ∀ b, b < 14 → a ≠ b → (TX10 a).2.1 ≠ (TX10 b).2.1 := by decide +kernel
theorem tyX10_ok : ∀ k, k < 14 → parseFieldDescriptor (TX10 k).2.2.1 = some (tyX10 k) := by decide +kernel
abbrev cX10_init : ByteArray := prog_12_method_1_code
def yX10_init : MethodName := ⟨RX10, "<init>", "()V"⟩
abbrev cX10_start : ByteArray := prog_12_method_2_code
def yX10_start : MethodName := ⟨RX10, "start", "(II)V"⟩
abbrev cX10_next : ByteArray := prog_12_method_3_code
def yX10_next : MethodName := ⟨RX10, "next", "()V"⟩
abbrev cX10_readRun : ByteArray := prog_12_method_4_code
def yX10_readRun : MethodName := ⟨RX10, "readRun", "()V"⟩
abbrev cX10_keyOf : ByteArray := prog_12_method_5_code
def yX10_keyOf : MethodName := ⟨RX10, "keyOf", "(J)I"⟩
abbrev cX10_readSign : ByteArray := prog_12_method_6_code
def yX10_readSign : MethodName := ⟨RX10, "readSign", "()V"⟩
abbrev cX10_fails : ByteArray := prog_12_method_7_code
def yX10_fails : MethodName := ⟨RX10, "fails", "(II)Z"⟩
abbrev cX10_isSign : ByteArray := prog_12_method_8_code
def yX10_isSign : MethodName := ⟨RX10, "isSign", "(I)Z"⟩
abbrev cX10_takesSign : ByteArray := prog_12_method_9_code
def yX10_takesSign : MethodName := ⟨RX10, "takesSign", "(I)Z"⟩
abbrev cX10_takesNumber : ByteArray := prog_12_method_10_code
def yX10_takesNumber : MethodName := ⟨RX10, "takesNumber", "(II)Z"⟩
abbrev cX10_takesNewName : ByteArray := prog_12_method_11_code
def yX10_takesNewName : MethodName := ⟨RX10, "takesNewName", "(LMerryDuchy$Duchy;)Z"⟩
abbrev cX10_takesName : ByteArray := prog_12_method_12_code
def yX10_takesName : MethodName := ⟨RX10, "takesName", "(LMerryDuchy$Duchy;I)Z"⟩
def RX11 : String := "MerryDuchy"
def TX11 : u_T := fun k => match k with
  | 0 => ("MerryDuchy", "tokens", "LMerryDuchy$Tokens;", true)
  | 1 => ("MerryDuchy", "tape", "[B", true)
  | 2 => ("MerryDuchy", "tapeLength", "I", false)
  | 3 => ("MerryDuchy", "latestFault", "I", false)
  | 4 => ("MerryDuchy", "acts", "LMerryDuchy$Acts;", true)
  | 5 => ("MerryDuchy", "here", "LMerryDuchy$Duchy;", true)
  | 6 => ("MerryDuchy", "draft", "LMerryDuchy$Duchy;", true)
  | 7 => ("MerryDuchy", "images", "[LMerryDuchy$Duchy;", true)
  | 8 => ("MerryDuchy", "imaged", "[Z", true)
  | 9 => ("MerryDuchy", "trial", "LMerryDuchy$State;", true)
  | 10 => ("MerryDuchy", "past", "LMerryDuchy$Past;", true)
  | 11 => ("MerryDuchy", "latestRing", "LMerryDuchy$Ring;", true)
  | 12 => ("MerryDuchy", "latestPlan", "LMerryDuchy$Plan;", true)
  | 13 => ("MerryDuchy", "latestTax", "LMerryDuchy$Tax;", true)
  | 14 => ("MerryDuchy", "latestFits", "LMerryDuchy$Fits;", true)
  | 15 => ("MerryDuchy", "latestBook", "LMerryDuchy$Book;", true)
  | 16 => ("MerryDuchy", "latestList", "[B", true)
  | _ => ("MerryDuchy", "listLength", "I", false)
def tyX11 : Nat → FieldType := fun k => match k with
  | 0 => .object "MerryDuchy$Tokens"
  | 1 => .array .byte
  | 2 => .int
  | 3 => .int
  | 4 => .object "MerryDuchy$Acts"
  | 5 => .object "MerryDuchy$Duchy"
  | 6 => .object "MerryDuchy$Duchy"
  | 7 => .array (.object "MerryDuchy$Duchy")
  | 8 => .array .boolean
  | 9 => .object "MerryDuchy$State"
  | 10 => .object "MerryDuchy$Past"
  | 11 => .object "MerryDuchy$Ring"
  | 12 => .object "MerryDuchy$Plan"
  | 13 => .object "MerryDuchy$Tax"
  | 14 => .object "MerryDuchy$Fits"
  | 15 => .object "MerryDuchy$Book"
  | 16 => .array .byte
  | _ => .int
theorem nmX11 : ∀ a, a < 18 → ∀ b, b < 18 → a ≠ b → (TX11 a).2.1 ≠ (TX11 b).2.1 := by decide +kernel
theorem tyX11_ok : ∀ k, k < 18 → parseFieldDescriptor (TX11 k).2.2.1 = some (tyX11 k) := by decide +kernel
abbrev cX11_init : ByteArray := prog_1_method_1_code
def yX11_init : MethodName := ⟨RX11, "<init>", "()V"⟩
abbrev cX11_feed : ByteArray := prog_1_method_2_code
def yX11_feed : MethodName := ⟨RX11, "feed", "(IIIII)I"⟩
abbrev cX11_feedNumber : ByteArray := prog_1_method_3_code
def yX11_feedNumber : MethodName := ⟨RX11, "feedNumber", "(I)V"⟩
abbrev cX11_end : ByteArray := prog_1_method_4_code
def yX11_end : MethodName := ⟨RX11, "end", "(I)Z"⟩
abbrev cX11_duchy : ByteArray := prog_1_method_5_code
def yX11_duchy : MethodName := ⟨RX11, "duchy", "()I"⟩
abbrev cX11_startTokens : ByteArray := prog_1_method_6_code
def yX11_startTokens : MethodName := ⟨RX11, "startTokens", "(I)V"⟩
abbrev cX11_fault : ByteArray := prog_1_method_7_code
def yX11_fault : MethodName := ⟨RX11, "fault", "()I"⟩
abbrev cX11_man : ByteArray := prog_1_method_8_code
def yX11_man : MethodName := ⟨RX11, "man", "(II)I"⟩
abbrev cX11_goodsOf : ByteArray := prog_1_method_9_code
def yX11_goodsOf : MethodName := ⟨RX11, "goodsOf", "(I)I"⟩
abbrev cX11_cost : ByteArray := prog_1_method_10_code
def yX11_cost : MethodName := ⟨RX11, "cost", "(II)I"⟩
abbrev cX11_times : ByteArray := prog_1_method_11_code
def yX11_times : MethodName := ⟨RX11, "times", "(II)I"⟩
abbrev cX11_bought : ByteArray := prog_1_method_12_code
def yX11_bought : MethodName := ⟨RX11, "bought", "(II)I"⟩
abbrev cX11_good : ByteArray := prog_1_method_13_code
def yX11_good : MethodName := ⟨RX11, "good", "(II)I"⟩
abbrev cX11_owes : ByteArray := prog_1_method_14_code
def yX11_owes : MethodName := ⟨RX11, "owes", "(II)I"⟩
abbrev cX11_now : ByteArray := prog_1_method_15_code
def yX11_now : MethodName := ⟨RX11, "now", "(I)I"⟩
abbrev cX11_forfeit : ByteArray := prog_1_method_16_code
def yX11_forfeit : MethodName := ⟨RX11, "forfeit", "(II)I"⟩
abbrev cX11_buy : ByteArray := prog_1_method_17_code
def yX11_buy : MethodName := ⟨RX11, "buy", "(II)I"⟩
abbrev cX11_lend : ByteArray := prog_1_method_18_code
def yX11_lend : MethodName := ⟨RX11, "lend", "(III)I"⟩
abbrev cX11_repay : ByteArray := prog_1_method_19_code
def yX11_repay : MethodName := ⟨RX11, "repay", "(III)I"⟩
abbrev cX11_triedBetween : ByteArray := prog_1_method_20_code
def yX11_triedBetween : MethodName := ⟨RX11, "triedBetween", "(IIII)I"⟩
abbrev cX11_strike : ByteArray := prog_1_method_21_code
def yX11_strike : MethodName := ⟨RX11, "strike", "()I"⟩
abbrev cX11_tried : ByteArray := prog_1_method_22_code
def yX11_tried : MethodName := ⟨RX11, "tried", "(IIII)I"⟩
abbrev cX11_done : ByteArray := prog_1_method_23_code
def yX11_done : MethodName := ⟨RX11, "done", "(IIII)I"⟩
abbrev cX11_weeks : ByteArray := prog_1_method_24_code
def yX11_weeks : MethodName := ⟨RX11, "weeks", "(I)I"⟩
abbrev cX11_weeksToGo : ByteArray := prog_1_method_25_code
def yX11_weeksToGo : MethodName := ⟨RX11, "weeksToGo", "(LMerryDuchy$State;I)I"⟩
abbrev cX11_undo : ByteArray := prog_1_method_26_code
def yX11_undo : MethodName := ⟨RX11, "undo", "()I"⟩
abbrev cX11_ring : ByteArray := prog_1_method_27_code
def yX11_ring : MethodName := ⟨RX11, "ring", "()I"⟩
abbrev cX11_ringAt : ByteArray := prog_1_method_28_code
def yX11_ringAt : MethodName := ⟨RX11, "ringAt", "(I)I"⟩
abbrev cX11_plan : ByteArray := prog_1_method_29_code
def yX11_plan : MethodName := ⟨RX11, "plan", "(II)I"⟩
abbrev cX11_planned : ByteArray := prog_1_method_30_code
def yX11_planned : MethodName := ⟨RX11, "planned", "(I)I"⟩
abbrev cX11_lasts : ByteArray := prog_1_method_31_code
def yX11_lasts : MethodName := ⟨RX11, "lasts", "(II)I"⟩
abbrev cX11_worth : ByteArray := prog_1_method_32_code
def yX11_worth : MethodName := ⟨RX11, "worth", "(II)I"⟩
abbrev cX11_even : ByteArray := prog_1_method_33_code
def yX11_even : MethodName := ⟨RX11, "even", "()I"⟩
abbrev cX11_fits : ByteArray := prog_1_method_34_code
def yX11_fits : MethodName := ⟨RX11, "fits", "()I"⟩
abbrev cX11_tells : ByteArray := prog_1_method_35_code
def yX11_tells : MethodName := ⟨RX11, "tells", "()I"⟩
abbrev cX11_share : ByteArray := prog_1_method_36_code
def yX11_share : MethodName := ⟨RX11, "share", "(III)I"⟩
abbrev cX11_prideWithin : ByteArray := prog_1_method_37_code
def yX11_prideWithin : MethodName := ⟨RX11, "prideWithin", "(II)I"⟩
abbrev cX11_tax : ByteArray := prog_1_method_38_code
def yX11_tax : MethodName := ⟨RX11, "tax", "(I)I"⟩
abbrev cX11_taxOf : ByteArray := prog_1_method_39_code
def yX11_taxOf : MethodName := ⟨RX11, "taxOf", "(I)I"⟩
abbrev cX11_proudest : ByteArray := prog_1_method_40_code
def yX11_proudest : MethodName := ⟨RX11, "proudest", "()I"⟩
abbrev cX11_list : ByteArray := prog_1_method_41_code
def yX11_list : MethodName := ⟨RX11, "list", "(I)I"⟩
abbrev cX11_listName : ByteArray := prog_1_method_42_code
def yX11_listName : MethodName := ⟨RX11, "listName", "(II)V"⟩
abbrev cX11_listText : ByteArray := prog_1_method_43_code
def yX11_listText : MethodName := ⟨RX11, "listText", "(Ljava/lang/String;)V"⟩
abbrev cX11_listNumber : ByteArray := prog_1_method_44_code
def yX11_listNumber : MethodName := ⟨RX11, "listNumber", "(I)V"⟩
abbrev cX11_listByte : ByteArray := prog_1_method_45_code
def yX11_listByte : MethodName := ⟨RX11, "listByte", "(I)V"⟩
abbrev cX11_byteAt : ByteArray := prog_1_method_46_code
def yX11_byteAt : MethodName := ⟨RX11, "byteAt", "(I)I"⟩
abbrev cX11_drawn : ByteArray := prog_1_method_47_code
def yX11_drawn : MethodName := ⟨RX11, "drawn", "(II)I"⟩
abbrev cX11_odds : ByteArray := prog_1_method_48_code
def yX11_odds : MethodName := ⟨RX11, "odds", "(III)I"⟩
abbrev cX11_book : ByteArray := prog_1_method_49_code
def yX11_book : MethodName := ⟨RX11, "book", "(I)I"⟩
abbrev cX11_told : ByteArray := prog_1_method_50_code
def yX11_told : MethodName := ⟨RX11, "told", "(I)I"⟩
abbrev cX11_sentence : ByteArray := prog_1_method_51_code
def yX11_sentence : MethodName := ⟨RX11, "sentence", "()I"⟩
abbrev cX11_said : ByteArray := prog_1_method_52_code
def yX11_said : MethodName := ⟨RX11, "said", "(I)I"⟩
abbrev cX11_image : ByteArray := prog_1_method_53_code
def yX11_image : MethodName := ⟨RX11, "image", "(I)Z"⟩
abbrev cX11_restore : ByteArray := prog_1_method_54_code
def yX11_restore : MethodName := ⟨RX11, "restore", "(I)Z"⟩
abbrev cX11_count : ByteArray := prog_1_method_55_code
def yX11_count : MethodName := ⟨RX11, "count", "(I)I"⟩
abbrev cX11_sum : ByteArray := prog_1_method_56_code
def yX11_sum : MethodName := ⟨RX11, "sum", "([IIII)I"⟩
abbrev cX11_copyRow : ByteArray := prog_1_method_57_code
def yX11_copyRow : MethodName := ⟨RX11, "copyRow", "([I[I)V"⟩
def RX12 : String := "MerryDuchyModel"
def TX12 : u_T := fun k => match k with
  | 0 => ("MerryDuchyModel", "thrown", "I", false)
  | 1 => ("MerryDuchyModel", "tape", "[I", true)
  | 2 => ("MerryDuchyModel", "taped", "I", false)
  | 3 => ("MerryDuchyModel", "size", "I", false)
  | 4 => ("MerryDuchyModel", "limit", "I", false)
  | 5 => ("MerryDuchyModel", "to", "I", false)
  | 6 => ("MerryDuchyModel", "from", "I", false)
  | 7 => ("MerryDuchyModel", "kind", "I", false)
  | 8 => ("MerryDuchyModel", "number", "I", false)
  | 9 => ("MerryDuchyModel", "sign", "I", false)
  | 10 => ("MerryDuchyModel", "fault", "I", false)
  | 11 => ("MerryDuchyModel", "place", "I", false)
  | 12 => ("MerryDuchyModel", "word", "J", false)
  | 13 => ("MerryDuchyModel", "told", "I", false)
  | 14 => ("MerryDuchyModel", "now", "[I", true)
  | 15 => ("MerryDuchyModel", "read", "[I", true)
  | 16 => ("MerryDuchyModel", "kept", "[I", true)
  | 17 => ("MerryDuchyModel", "snaps", "[I", true)
  | 18 => ("MerryDuchyModel", "aside", "[I", true)
  | 19 => ("MerryDuchyModel", "name", "[J", true)
  | 20 => ("MerryDuchyModel", "readName", "[J", true)
  | 21 => ("MerryDuchyModel", "keptName", "[J", true)
  | 22 => ("MerryDuchyModel", "isKept", "[Z", true)
  | 23 => ("MerryDuchyModel", "snapMany", "I", false)
  | 24 => ("MerryDuchyModel", "hasWears", "Z", false)
  | 25 => ("MerryDuchyModel", "hasMends", "Z", false)
  | 26 => ("MerryDuchyModel", "going", "[I", true)
  | 27 => ("MerryDuchyModel", "ring", "[I", true)
  | 28 => ("MerryDuchyModel", "ringMany", "I", false)
  | 29 => ("MerryDuchyModel", "often", "[I", true)
  | 30 => ("MerryDuchyModel", "planned", "[I", true)
  | 31 => ("MerryDuchyModel", "planMany", "I", false)
  | 32 => ("MerryDuchyModel", "hasPlan", "Z", false)
  | 33 => ("MerryDuchyModel", "groups", "[I", true)
  | 34 => ("MerryDuchyModel", "apart", "[I", true)
  | 35 => ("MerryDuchyModel", "telling", "I", false)
  | 36 => ("MerryDuchyModel", "doneBy", "[I", true)
  | 37 => ("MerryDuchyModel", "costs", "[I", true)
  | 38 => ("MerryDuchyModel", "reach", "[Z", true)
  | 39 => ("MerryDuchyModel", "taxed", "[I", true)
  | 40 => ("MerryDuchyModel", "hasTax", "Z", false)
  | 41 => ("MerryDuchyModel", "text", "[I", true)
  | 42 => ("MerryDuchyModel", "texts", "I", false)
  | 43 => ("MerryDuchyModel", "seed", "I", false)
  | 44 => ("MerryDuchyModel", "line", "[I", true)
  | 45 => ("MerryDuchyModel", "written", "[I", true)
  | 46 => ("MerryDuchyModel", "lineMany", "I", false)
  | 47 => ("MerryDuchyModel", "hasWritten", "Z", false)
  | 48 => ("MerryDuchyModel", "node", "[I", true)
  | 49 => ("MerryDuchyModel", "nodes", "I", false)
  | 50 => ("MerryDuchyModel", "onesMany", "I", false)
  | 51 => ("MerryDuchyModel", "within", "I", false)
  | _ => ("MerryDuchyModel", "top", "I", false)
def tyX12 : Nat → FieldType := fun k => match k with
  | 0 => .int
  | 1 => .array .int
  | 2 => .int
  | 3 => .int
  | 4 => .int
  | 5 => .int
  | 6 => .int
  | 7 => .int
  | 8 => .int
  | 9 => .int
  | 10 => .int
  | 11 => .int
  | 12 => .long
  | 13 => .int
  | 14 => .array .int
  | 15 => .array .int
  | 16 => .array .int
  | 17 => .array .int
  | 18 => .array .int
  | 19 => .array .long
  | 20 => .array .long
  | 21 => .array .long
  | 22 => .array .boolean
  | 23 => .int
  | 24 => .boolean
  | 25 => .boolean
  | 26 => .array .int
  | 27 => .array .int
  | 28 => .int
  | 29 => .array .int
  | 30 => .array .int
  | 31 => .int
  | 32 => .boolean
  | 33 => .array .int
  | 34 => .array .int
  | 35 => .int
  | 36 => .array .int
  | 37 => .array .int
  | 38 => .array .boolean
  | 39 => .array .int
  | 40 => .boolean
  | 41 => .array .int
  | 42 => .int
  | 43 => .int
  | 44 => .array .int
  | 45 => .array .int
  | 46 => .int
  | 47 => .boolean
  | 48 => .array .int
  | 49 => .int
  | 50 => .int
  | 51 => .int
  | _ => .int
theorem nmX12 : ∀ a, a < 53 → ∀ b, b < 53 → a ≠ b → (TX12 a).2.1 ≠ (TX12 b).2.1 := by decide +kernel
theorem tyX12_ok : ∀ k, k < 53 → parseFieldDescriptor (TX12 k).2.2.1 = some (tyX12 k) := by decide +kernel
abbrev cX12_thrown : ByteArray := prog_14_method_1_code
def yX12_thrown : MethodName := ⟨RX12, "thrown", "()I"⟩
abbrev cX12_refuse : ByteArray := prog_14_method_2_code
def yX12_refuse : MethodName := ⟨RX12, "refuse", "()I"⟩
abbrev cX12_come : ByteArray := prog_14_method_3_code
def yX12_come : MethodName := ⟨RX12, "come", "(I)V"⟩
abbrev cX12_feed : ByteArray := prog_14_method_4_code
def yX12_feed : MethodName := ⟨RX12, "feed", "(IIIII)I"⟩
abbrev cX12_end : ByteArray := prog_14_method_5_code
def yX12_end : MethodName := ⟨RX12, "end", "(I)Z"⟩
abbrev cX12_take : ByteArray := prog_14_method_6_code
def yX12_take : MethodName := ⟨RX12, "take", "()I"⟩
abbrev cX12_isIn : ByteArray := prog_14_method_7_code
def yX12_isIn : MethodName := ⟨RX12, "isIn", "(III)Z"⟩
abbrev cX12_has : ByteArray := prog_14_method_8_code
def yX12_has : MethodName := ⟨RX12, "has", "(II)Z"⟩
abbrev cX12_least : ByteArray := prog_14_method_10_code
def yX12_least : MethodName := ⟨RX12, "least", "(II)I"⟩
abbrev cX12_tapeAt : ByteArray := prog_14_method_13_code
def yX12_tapeAt : MethodName := ⟨RX12, "tapeAt", "(I)I"⟩
abbrev cX12_isDigit : ByteArray := prog_14_method_14_code
def yX12_isDigit : MethodName := ⟨RX12, "isDigit", "(I)Z"⟩
abbrev cX12_isLetter : ByteArray := prog_14_method_15_code
def yX12_isLetter : MethodName := ⟨RX12, "isLetter", "(I)Z"⟩
abbrev cX12_go : ByteArray := prog_14_method_16_code
def yX12_go : MethodName := ⟨RX12, "go", "()V"⟩
abbrev cX12_spelt : ByteArray := prog_14_method_17_code
def yX12_spelt : MethodName := ⟨RX12, "spelt", "(IIIIIII)J"⟩
abbrev cX12_wordOf : ByteArray := prog_14_method_18_code
def yX12_wordOf : MethodName := ⟨RX12, "wordOf", "(I)J"⟩
abbrev cX12_isWord : ByteArray := prog_14_method_19_code
def yX12_isWord : MethodName := ⟨RX12, "isWord", "(I)Z"⟩
abbrev cX12_isSign : ByteArray := prog_14_method_20_code
def yX12_isSign : MethodName := ⟨RX12, "isSign", "(I)Z"⟩
abbrev cX12_isName : ByteArray := prog_14_method_21_code
def yX12_isName : MethodName := ⟨RX12, "isName", "()Z"⟩
abbrev cX12_bad : ByteArray := prog_14_method_22_code
def yX12_bad : MethodName := ⟨RX12, "bad", "(I)Z"⟩
abbrev cX12_readNumber : ByteArray := prog_14_method_23_code
def yX12_readNumber : MethodName := ⟨RX12, "readNumber", "(II)Z"⟩
abbrev cX12_readEnd : ByteArray := prog_14_method_24_code
def yX12_readEnd : MethodName := ⟨RX12, "readEnd", "()Z"⟩
abbrev cX12_begin : ByteArray := prog_14_method_25_code
def yX12_begin : MethodName := ⟨RX12, "begin", "(I)V"⟩
abbrev cX12_init : ByteArray := prog_14_method_26_code
def yX12_init : MethodName := ⟨RX12, "<init>", "()V"⟩
abbrev cX12_startSo : ByteArray := prog_14_method_27_code
def yX12_startSo : MethodName := ⟨RX12, "startSo", "()V"⟩
abbrev cX12_findIn : ByteArray := prog_14_method_28_code
def yX12_findIn : MethodName := ⟨RX12, "findIn", "([JIIJ)I"⟩
abbrev cX12_readNew : ByteArray := prog_14_method_29_code
def yX12_readNew : MethodName := ⟨RX12, "readNew", "(I)Z"⟩
abbrev cX12_isOne : ByteArray := prog_14_method_30_code
def yX12_isOne : MethodName := ⟨RX12, "isOne", "(II)Z"⟩
abbrev cX12_readFirst : ByteArray := prog_14_method_31_code
def yX12_readFirst : MethodName := ⟨RX12, "readFirst", "(II)Z"⟩
abbrev cX12_put : ByteArray := prog_14_method_32_code
def yX12_put : MethodName := ⟨RX12, "put", "(IZ)Z"⟩
abbrev cX12_readMan : ByteArray := prog_14_method_33_code
def yX12_readMan : MethodName := ⟨RX12, "readMan", "()Z"⟩
abbrev cX12_readForfeit : ByteArray := prog_14_method_34_code
def yX12_readForfeit : MethodName := ⟨RX12, "readForfeit", "()Z"⟩
abbrev cX12_readMinds : ByteArray := prog_14_method_35_code
def yX12_readMinds : MethodName := ⟨RX12, "readMinds", "()Z"⟩
abbrev cX12_readGood : ByteArray := prog_14_method_36_code
def yX12_readGood : MethodName := ⟨RX12, "readGood", "()Z"⟩
abbrev cX12_readOwes : ByteArray := prog_14_method_37_code
def yX12_readOwes : MethodName := ⟨RX12, "readOwes", "()Z"⟩
abbrev cX12_readLine : ByteArray := prog_14_method_38_code
def yX12_readLine : MethodName := ⟨RX12, "readLine", "()Z"⟩
abbrev cX12_duchy : ByteArray := prog_14_method_39_code
def yX12_duchy : MethodName := ⟨RX12, "duchy", "()I"⟩
abbrev cX12_fault : ByteArray := prog_14_method_40_code
def yX12_fault : MethodName := ⟨RX12, "fault", "()I"⟩
abbrev cX12_isMan : ByteArray := prog_14_method_41_code
def yX12_isMan : MethodName := ⟨RX12, "isMan", "(I)Z"⟩
abbrev cX12_isForfeit : ByteArray := prog_14_method_42_code
def yX12_isForfeit : MethodName := ⟨RX12, "isForfeit", "(I)Z"⟩
abbrev cX12_isGood : ByteArray := prog_14_method_43_code
def yX12_isGood : MethodName := ⟨RX12, "isGood", "(I)Z"⟩
abbrev cX12_costBy : ByteArray := prog_14_method_44_code
def yX12_costBy : MethodName := ⟨RX12, "costBy", "(III)I"⟩
abbrev cX12_costOf : ByteArray := prog_14_method_45_code
def yX12_costOf : MethodName := ⟨RX12, "costOf", "(II)I"⟩
abbrev cX12_timesOf : ByteArray := prog_14_method_46_code
def yX12_timesOf : MethodName := ⟨RX12, "timesOf", "(II)I"⟩
abbrev cX12_owesOf : ByteArray := prog_14_method_47_code
def yX12_owesOf : MethodName := ⟨RX12, "owesOf", "(II)I"⟩
abbrev cX12_owesAll : ByteArray := prog_14_method_48_code
def yX12_owesAll : MethodName := ⟨RX12, "owesAll", "(I)I"⟩
abbrev cX12_owedAll : ByteArray := prog_14_method_49_code
def yX12_owedAll : MethodName := ⟨RX12, "owedAll", "(I)I"⟩
abbrev cX12_goodsOf : ByteArray := prog_14_method_50_code
def yX12_goodsOf : MethodName := ⟨RX12, "goodsOf", "(I)I"⟩
abbrev cX12_sumOf : ByteArray := prog_14_method_51_code
def yX12_sumOf : MethodName := ⟨RX12, "sumOf", "(II)I"⟩
abbrev cX12_man : ByteArray := prog_14_method_52_code
def yX12_man : MethodName := ⟨RX12, "man", "(II)I"⟩
abbrev cX12_cost : ByteArray := prog_14_method_53_code
def yX12_cost : MethodName := ⟨RX12, "cost", "(II)I"⟩
abbrev cX12_times : ByteArray := prog_14_method_54_code
def yX12_times : MethodName := ⟨RX12, "times", "(II)I"⟩
abbrev cX12_bought : ByteArray := prog_14_method_55_code
def yX12_bought : MethodName := ⟨RX12, "bought", "(II)I"⟩
abbrev cX12_good : ByteArray := prog_14_method_56_code
def yX12_good : MethodName := ⟨RX12, "good", "(II)I"⟩
abbrev cX12_owes : ByteArray := prog_14_method_57_code
def yX12_owes : MethodName := ⟨RX12, "owes", "(II)I"⟩
abbrev cX12_now : ByteArray := prog_14_method_58_code
def yX12_now : MethodName := ⟨RX12, "now", "(I)I"⟩
abbrev cX12_goesRound : ByteArray := prog_14_method_59_code
def yX12_goesRound : MethodName := ⟨RX12, "goesRound", "(II)Z"⟩
abbrev cX12_layRing : ByteArray := prog_14_method_60_code
def yX12_layRing : MethodName := ⟨RX12, "layRing", "()I"⟩
abbrev cX12_ring : ByteArray := prog_14_method_61_code
def yX12_ring : MethodName := ⟨RX12, "ring", "()I"⟩
abbrev cX12_ringAt : ByteArray := prog_14_method_62_code
def yX12_ringAt : MethodName := ⟨RX12, "ringAt", "(I)I"⟩
abbrev cX12_snap : ByteArray := prog_14_method_63_code
def yX12_snap : MethodName := ⟨RX12, "snap", "()V"⟩
abbrev cX12_why : ByteArray := prog_14_method_64_code
def yX12_why : MethodName := ⟨RX12, "why", "(IIII)I"⟩
abbrev cX12_doForfeit : ByteArray := prog_14_method_65_code
def yX12_doForfeit : MethodName := ⟨RX12, "doForfeit", "(II)I"⟩
abbrev cX12_doPay : ByteArray := prog_14_method_66_code
def yX12_doPay : MethodName := ⟨RX12, "doPay", "(III)V"⟩
abbrev cX12_doStrike : ByteArray := prog_14_method_67_code
def yX12_doStrike : MethodName := ⟨RX12, "doStrike", "()I"⟩
abbrev cX12_live : ByteArray := prog_14_method_68_code
def yX12_live : MethodName := ⟨RX12, "live", "(IIII)V"⟩
abbrev cX12_act : ByteArray := prog_14_method_69_code
def yX12_act : MethodName := ⟨RX12, "act", "(IIII)I"⟩
abbrev cX12_forfeit : ByteArray := prog_14_method_70_code
def yX12_forfeit : MethodName := ⟨RX12, "forfeit", "(II)I"⟩
abbrev cX12_buy : ByteArray := prog_14_method_71_code
def yX12_buy : MethodName := ⟨RX12, "buy", "(II)I"⟩
abbrev cX12_lend : ByteArray := prog_14_method_72_code
def yX12_lend : MethodName := ⟨RX12, "lend", "(III)I"⟩
abbrev cX12_repay : ByteArray := prog_14_method_73_code
def yX12_repay : MethodName := ⟨RX12, "repay", "(III)I"⟩
abbrev cX12_strike : ByteArray := prog_14_method_74_code
def yX12_strike : MethodName := ⟨RX12, "strike", "()I"⟩
abbrev cX12_undo : ByteArray := prog_14_method_75_code
def yX12_undo : MethodName := ⟨RX12, "undo", "()I"⟩
abbrev cX12_oneWeek : ByteArray := prog_14_method_76_code
def yX12_oneWeek : MethodName := ⟨RX12, "oneWeek", "()V"⟩
abbrev cX12_passWeeks : ByteArray := prog_14_method_77_code
def yX12_passWeeks : MethodName := ⟨RX12, "passWeeks", "(I)I"⟩
abbrev cX12_weeks : ByteArray := prog_14_method_78_code
def yX12_weeks : MethodName := ⟨RX12, "weeks", "(I)I"⟩
abbrev cX12_paysBy : ByteArray := prog_14_method_79_code
def yX12_paysBy : MethodName := ⟨RX12, "paysBy", "(III)I"⟩
abbrev cX12_canDo : ByteArray := prog_14_method_80_code
def yX12_canDo : MethodName := ⟨RX12, "canDo", "(II)I"⟩
abbrev cX12_oftenBy : ByteArray := prog_14_method_81_code
def yX12_oftenBy : MethodName := ⟨RX12, "oftenBy", "(III)I"⟩
abbrev cX12_plan : ByteArray := prog_14_method_82_code
def yX12_plan : MethodName := ⟨RX12, "plan", "(II)I"⟩
abbrev cX12_planned : ByteArray := prog_14_method_83_code
def yX12_planned : MethodName := ⟨RX12, "planned", "(I)I"⟩
abbrev cX12_lastsOf : ByteArray := prog_14_method_84_code
def yX12_lastsOf : MethodName := ⟨RX12, "lastsOf", "(II)I"⟩
abbrev cX12_lasts : ByteArray := prog_14_method_85_code
def yX12_lasts : MethodName := ⟨RX12, "lasts", "(II)I"⟩
abbrev cX12_worth : ByteArray := prog_14_method_86_code
def yX12_worth : MethodName := ⟨RX12, "worth", "(II)I"⟩
abbrev cX12_even : ByteArray := prog_14_method_87_code
def yX12_even : MethodName := ⟨RX12, "even", "()I"⟩
abbrev cX12_fits : ByteArray := prog_14_method_88_code
def yX12_fits : MethodName := ⟨RX12, "fits", "()I"⟩
abbrev cX12_mostAlike : ByteArray := prog_14_method_89_code
def yX12_mostAlike : MethodName := ⟨RX12, "mostAlike", "(II)I"⟩
abbrev cX12_tells : ByteArray := prog_14_method_90_code
def yX12_tells : MethodName := ⟨RX12, "tells", "()I"⟩
abbrev cX12_share : ByteArray := prog_14_method_91_code
def yX12_share : MethodName := ⟨RX12, "share", "(III)I"⟩
abbrev cX12_mayDo : ByteArray := prog_14_method_92_code
def yX12_mayDo : MethodName := ⟨RX12, "mayDo", "(III)Z"⟩
abbrev cX12_layReach : ByteArray := prog_14_method_93_code
def yX12_layReach : MethodName := ⟨RX12, "layReach", "(I)V"⟩
abbrev cX12_tax : ByteArray := prog_14_method_94_code
def yX12_tax : MethodName := ⟨RX12, "tax", "(I)I"⟩
abbrev cX12_taxOf : ByteArray := prog_14_method_95_code
def yX12_taxOf : MethodName := ⟨RX12, "taxOf", "(I)I"⟩
abbrev cX12_proudest : ByteArray := prog_14_method_96_code
def yX12_proudest : MethodName := ⟨RX12, "proudest", "()I"⟩
abbrev cX12_write : ByteArray := prog_14_method_97_code
def yX12_write : MethodName := ⟨RX12, "write", "(I)V"⟩
abbrev cX12_writeWord : ByteArray := prog_14_method_98_code
def yX12_writeWord : MethodName := ⟨RX12, "writeWord", "(J)V"⟩
abbrev cX12_writeNumber : ByteArray := prog_14_method_99_code
def yX12_writeNumber : MethodName := ⟨RX12, "writeNumber", "(I)V"⟩
abbrev cX12_writeNext : ByteArray := prog_14_method_100_code
def yX12_writeNext : MethodName := ⟨RX12, "writeNext", "(J)V"⟩
abbrev cX12_list : ByteArray := prog_14_method_101_code
def yX12_list : MethodName := ⟨RX12, "list", "(I)I"⟩
abbrev cX12_byteAt : ByteArray := prog_14_method_102_code
def yX12_byteAt : MethodName := ⟨RX12, "byteAt", "(I)I"⟩
abbrev cX12_draw : ByteArray := prog_14_method_103_code
def yX12_draw : MethodName := ⟨RX12, "draw", "(I)I"⟩
abbrev cX12_tryTo : ByteArray := prog_14_method_104_code
def yX12_tryTo : MethodName := ⟨RX12, "tryTo", "(III)V"⟩
abbrev cX12_drawWeeks : ByteArray := prog_14_method_105_code
def yX12_drawWeeks : MethodName := ⟨RX12, "drawWeeks", "(II)I"⟩
abbrev cX12_drawn : ByteArray := prog_14_method_106_code
def yX12_drawn : MethodName := ⟨RX12, "drawn", "(II)I"⟩
abbrev cX12_layAside : ByteArray := prog_14_method_107_code
def yX12_layAside : MethodName := ⟨RX12, "layAside", "()V"⟩
abbrev cX12_takeBack : ByteArray := prog_14_method_108_code
def yX12_takeBack : MethodName := ⟨RX12, "takeBack", "()V"⟩
abbrev cX12_odds : ByteArray := prog_14_method_109_code
def yX12_odds : MethodName := ⟨RX12, "odds", "(III)I"⟩
abbrev cX12_readNamed : ByteArray := prog_14_method_110_code
def yX12_readNamed : MethodName := ⟨RX12, "readNamed", "(II)Z"⟩
abbrev cX12_keep : ByteArray := prog_14_method_111_code
def yX12_keep : MethodName := ⟨RX12, "keep", "(IZ)Z"⟩
abbrev cX12_readDoes : ByteArray := prog_14_method_112_code
def yX12_readDoes : MethodName := ⟨RX12, "readDoes", "(I)Z"⟩
abbrev cX12_readBookLine : ByteArray := prog_14_method_113_code
def yX12_readBookLine : MethodName := ⟨RX12, "readBookLine", "()Z"⟩
abbrev cX12_goBy : ByteArray := prog_14_method_114_code
def yX12_goBy : MethodName := ⟨RX12, "goBy", "(I)I"⟩
abbrev cX12_book : ByteArray := prog_14_method_115_code
def yX12_book : MethodName := ⟨RX12, "book", "(I)I"⟩
abbrev cX12_stay : ByteArray := prog_14_method_116_code
def yX12_stay : MethodName := ⟨RX12, "stay", "(Z)V"⟩
abbrev cX12_told : ByteArray := prog_14_method_117_code
def yX12_told : MethodName := ⟨RX12, "told", "(I)I"⟩
abbrev cX12_readWhich : ByteArray := prog_14_method_118_code
def yX12_readWhich : MethodName := ⟨RX12, "readWhich", "(I)Z"⟩
abbrev cX12_saysOne : ByteArray := prog_14_method_119_code
def yX12_saysOne : MethodName := ⟨RX12, "saysOne", "(IIII)I"⟩
abbrev cX12_readOr : ByteArray := prog_14_method_120_code
def yX12_readOr : MethodName := ⟨RX12, "readOr", "()Z"⟩
abbrev cX12_readAnd : ByteArray := prog_14_method_121_code
def yX12_readAnd : MethodName := ⟨RX12, "readAnd", "()Z"⟩
abbrev cX12_readSaid : ByteArray := prog_14_method_122_code
def yX12_readSaid : MethodName := ⟨RX12, "readSaid", "()Z"⟩
abbrev cX12_readNot : ByteArray := prog_14_method_123_code
def yX12_readNot : MethodName := ⟨RX12, "readNot", "()Z"⟩
abbrev cX12_readBracket : ByteArray := prog_14_method_124_code
def yX12_readBracket : MethodName := ⟨RX12, "readBracket", "()Z"⟩
abbrev cX12_readOf : ByteArray := prog_14_method_125_code
def yX12_readOf : MethodName := ⟨RX12, "readOf", "(I)Z"⟩
abbrev cX12_readCompare : ByteArray := prog_14_method_126_code
def yX12_readCompare : MethodName := ⟨RX12, "readCompare", "(I)Z"⟩
abbrev cX12_sentence : ByteArray := prog_14_method_127_code
def yX12_sentence : MethodName := ⟨RX12, "sentence", "()I"⟩
abbrev cX12_holds : ByteArray := prog_14_method_128_code
def yX12_holds : MethodName := ⟨RX12, "holds", "(II)Z"⟩
abbrev cX12_said : ByteArray := prog_14_method_129_code
def yX12_said : MethodName := ⟨RX12, "said", "(I)I"⟩
abbrev cX12_image : ByteArray := prog_14_method_130_code
def yX12_image : MethodName := ⟨RX12, "image", "(I)Z"⟩
abbrev cX12_restore : ByteArray := prog_14_method_131_code
def yX12_restore : MethodName := ⟨RX12, "restore", "(I)Z"⟩
abbrev cX12_count : ByteArray := prog_14_method_132_code
def yX12_count : MethodName := ⟨RX12, "count", "(I)I"⟩
def RJ7 : String := "java/util/Arrays"
abbrev cJ7_fill_53178 : ByteArray := prog_29_method_103_code
def yJ7_fill_53178 : MethodName := ⟨RJ7, "fill", "([II)V"⟩
def RL : String := "MerryDuchyLaw"
abbrev cL_man : ByteArray := method_3_code
def yL_man : MethodName := ⟨RL, "man", "(LMerryDuchy;II[J)I"⟩
abbrev cL_law : ByteArray := code
def yL_law : MethodName := ⟨RL, "law", "([I)Z"⟩
abbrev vwCl : List vw_C := [(RX0, TX0, 5), (RX1, TX1, 4), (RX2, TX2, 10), (RX3, TX3, 2), (RX4, TX4, 3), (RX5, TX5, 4), (RX6, TX6, 2), (RX7, TX7, 4), (RX8, TX8, 8), (RX9, TX9, 4), (RX10, TX10, 14), (RX11, TX11, 18), (RX12, TX12, 53)]
def gtbl : List Cond := lw_tbl.filter goodWord
theorem gm {w : Cond} (i : Nat) (h : lw_tbl[i]? = some w) (hg : goodWord w = true) : w ∈ gtbl := List.mem_filter.mpr ⟨List.mem_of_getElem? h, hg⟩
theorem gms {ws : List Cond} (ps : List Nat) (hp : ws = ps.filterMap (fun i => lw_tbl[i]?)) (h : ws.all goodWord = true) : ∀ w ∈ ws, w ∈ gtbl := by
  intro w hw
  have h1 := List.all_eq_true.mp h w hw
  rw [hp] at hw
  obtain ⟨i, -, hi⟩ := List.mem_filterMap.mp hw
  exact gm i hi h1
theorem gt1 {w : Cond} (i : Nat) (h : tables_1_1[i]? = some w) (hg : goodWord w = true) : w ∈ gtbl := List.mem_filter.mpr ⟨List.mem_append_right _ (List.mem_append_left _ (List.mem_of_getElem? h)), hg⟩
theorem gt2 {w : Cond} (i : Nat) (h : tables_1_2[i]? = some w) (hg : goodWord w = true) : w ∈ gtbl := List.mem_filter.mpr ⟨List.mem_append_right _ (List.mem_append_right _ (List.mem_append_left _ (List.mem_of_getElem? h))), hg⟩
theorem gt3 {w : Cond} (i : Nat) (h : tables_1_3[i]? = some w) (hg : goodWord w = true) : w ∈ gtbl := List.mem_filter.mpr ⟨List.mem_append_right _ (List.mem_append_right _ (List.mem_append_right _ (List.mem_append_left _ (List.mem_of_getElem? h)))), hg⟩
theorem gt4 {w : Cond} (i : Nat) (h : tables_1_4[i]? = some w) (hg : goodWord w = true) : w ∈ gtbl := List.mem_filter.mpr ⟨List.mem_append_right _ (List.mem_append_right _ (List.mem_append_right _ (List.mem_append_right _ (List.mem_append_left _ (List.mem_of_getElem? h))))), hg⟩
theorem gt5 {w : Cond} (i : Nat) (h : tables_1_5[i]? = some w) (hg : goodWord w = true) : w ∈ gtbl := List.mem_filter.mpr ⟨List.mem_append_right _ (List.mem_append_right _ (List.mem_append_right _ (List.mem_append_right _ (List.mem_append_right _ (List.mem_append_left _ (List.mem_of_getElem? h)))))), hg⟩
theorem gt6 {w : Cond} (i : Nat) (h : tables_1_6[i]? = some w) (hg : goodWord w = true) : w ∈ gtbl := List.mem_filter.mpr ⟨List.mem_append_right _ (List.mem_append_right _ (List.mem_append_right _ (List.mem_append_right _ (List.mem_append_right _ (List.mem_append_right _ (List.mem_append_left _ (List.mem_of_getElem? h))))))), hg⟩
theorem gt7 {w : Cond} (i : Nat) (h : tables_1_7[i]? = some w) (hg : goodWord w = true) : w ∈ gtbl := List.mem_filter.mpr ⟨List.mem_append_right _ (List.mem_append_right _ (List.mem_append_right _ (List.mem_append_right _ (List.mem_append_right _ (List.mem_append_right _ (List.mem_append_right _ (List.mem_append_left _ (List.mem_of_getElem? h)))))))), hg⟩
theorem gt8 {w : Cond} (i : Nat) (h : tables_1_8[i]? = some w) (hg : goodWord w = true) : w ∈ gtbl := List.mem_filter.mpr ⟨List.mem_append_right _ (List.mem_append_right _ (List.mem_append_right _ (List.mem_append_right _ (List.mem_append_right _ (List.mem_append_right _ (List.mem_append_right _ (List.mem_append_right _ (List.mem_of_getElem? h)))))))), hg⟩
theorem inC0 : ∀ w ∈ u_ws RX0 TX0 5, w ∈ gtbl := gms [450, 452, 454, 456, 458] (by decide +kernel) (by decide +kernel)
theorem inC1 : ∀ w ∈ u_ws RX1 TX1 4, w ∈ gtbl := gms [556, 558, 560, 562] (by decide +kernel) (by decide +kernel)
theorem inC2 : ∀ w ∈ u_ws RX2 TX2 10, w ∈ gtbl := gms [407, 409, 411, 413, 415, 417, 419, 421, 423, 425] (by decide +kernel) (by decide +kernel)
theorem inC3 : ∀ w ∈ u_ws RX3 TX3 2, w ∈ gtbl := gms [539, 541] (by decide +kernel) (by decide +kernel)
theorem inC4 : ∀ w ∈ u_ws RX4 TX4 3, w ∈ gtbl := gms [478, 480, 482] (by decide +kernel) (by decide +kernel)
theorem inC5 : ∀ w ∈ u_ws RX5 TX5 4, w ∈ gtbl := gms [500, 502, 504, 506] (by decide +kernel) (by decide +kernel)
theorem inC6 : ∀ w ∈ u_ws RX6 TX6 2, w ∈ gtbl := gms [438, 440] (by decide +kernel) (by decide +kernel)
theorem inC7 : ∀ w ∈ u_ws RX7 TX7 4, w ∈ gtbl := gms [372, 374, 376, 378] (by decide +kernel) (by decide +kernel)
theorem inC8 : ∀ w ∈ u_ws RX8 TX8 8, w ∈ gtbl := gms [342, 344, 346, 348, 350, 352, 354, 356] (by decide +kernel) (by decide +kernel)
theorem inC9 : ∀ w ∈ u_ws RX9 TX9 4, w ∈ gtbl := gms [521, 523, 525, 527] (by decide +kernel) (by decide +kernel)
theorem inC10 : ∀ w ∈ u_ws RX10 TX10 14, w ∈ gtbl := gms [254, 256, 258, 260, 262, 264, 266, 268, 270, 272, 274, 276, 278, 280] (by decide +kernel) (by decide +kernel)
theorem inC11 : ∀ w ∈ u_ws RX11 TX11 18, w ∈ gtbl := gms [583, 585, 587, 589, 591, 593, 595, 597, 599, 601, 603, 605, 607, 609, 611, 613, 615, 617] (by decide +kernel) (by decide +kernel)
theorem inC12 : ∀ w ∈ u_ws RX12 TX12 53, w ∈ gtbl := gms [1413, 1415, 1417, 1419, 1421, 1423, 1425, 1427, 1429, 1431, 1433, 1435, 1437, 1439, 1441, 1443, 1445, 1447, 1449, 1451, 1453, 1455, 1457, 1459, 1461, 1463, 1465, 1467, 1469, 1471, 1473, 1475, 1477, 1479, 1481, 1483, 1485, 1487, 1489, 1491, 1493, 1495, 1497, 1499, 1501, 1503, 1505, 1507, 1509, 1511, 1513, 1515, 1517] (by decide +kernel) (by decide +kernel)
def nestT : List (String × Nat × MethodName × String) := [("MerryDuchy", 25, ⟨"MerryDuchy$Acts", "<init>", "()V"⟩, "MerryDuchy"), ("MerryDuchy$Duchy", 33, ⟨"MerryDuchy$State", "<init>", "()V"⟩, "MerryDuchy"), ("MerryDuchy$Duchy", 40, ⟨"MerryDuchy$Sentence", "<init>", "()V"⟩, "MerryDuchy"), ("MerryDuchy$Acts", 20, ⟨"MerryDuchy$Ring", "<init>", "()V"⟩, "MerryDuchy"), ("MerryDuchy", 53, ⟨"MerryDuchy$State", "<init>", "()V"⟩, "MerryDuchy"), ("MerryDuchy$Past", 17, ⟨"MerryDuchy$State", "<init>", "()V"⟩, "MerryDuchy"), ("MerryDuchy", 67, ⟨"MerryDuchy$Ring", "<init>", "()V"⟩, "MerryDuchy"), ("MerryDuchy", 74, ⟨"MerryDuchy$Plan", "<init>", "()V"⟩, "MerryDuchy"), ("MerryDuchy", 81, ⟨"MerryDuchy$Tax", "<init>", "()V"⟩, "MerryDuchy"), ("MerryDuchy", 88, ⟨"MerryDuchy$Fits", "<init>", "()V"⟩, "MerryDuchy"), ("MerryDuchy", 95, ⟨"MerryDuchy$Book", "<init>", "()V"⟩, "MerryDuchy"), ("MerryDuchy$Duchy", 59, ⟨"MerryDuchy", "copyRow", "([I[I)V"⟩, "MerryDuchy"), ("MerryDuchy$State", 43, ⟨"MerryDuchy", "copyRow", "([I[I)V"⟩, "MerryDuchy"), ("MerryDuchy$Sentence", 25, ⟨"MerryDuchy", "copyRow", "([I[I)V"⟩, "MerryDuchy"), ("MerryDuchy$State", 47, ⟨"MerryDuchy", "sum", "([IIII)I"⟩, "MerryDuchy"), ("MerryDuchy$Ring", 15, ⟨"MerryDuchy", "copyRow", "([I[I)V"⟩, "MerryDuchy"), ("MerryDuchy$Acts", 139, ⟨"MerryDuchy", "sum", "([IIII)I"⟩, "MerryDuchy")]
end
section
theorem q_f_MerryDuchy_Acts_12 : Cond.fieldLink "MerryDuchy$Acts" 12 "MerryDuchy$Acts" "duchy" "LMerryDuchy$Duchy;" ∈ gtbl := gt2 71 (by decide +kernel) (by decide +kernel)
theorem q_m_MerryDuchy_Acts_53 : Cond.methodLink "MerryDuchy$Acts" 53 yX2_men ∈ gtbl := gt3 233 (by decide +kernel) (by decide +kernel)
theorem q_v_X2_men : Cond.instanceMethod yX2_men ∈ gtbl := gt3 234 (by decide +kernel) (by decide +kernel)
theorem q_e_X2_men : Cond.selects "MerryDuchy$Duchy" yX2_men yX2_men ∈ gtbl := gt3 235 (by decide +kernel) (by decide +kernel)
theorem q_f_MerryDuchy_Acts_25 : Cond.fieldLink "MerryDuchy$Acts" 25 "MerryDuchy$Acts" "groups" "[I" ∈ gtbl := gt2 75 (by decide +kernel) (by decide +kernel)
theorem q_f_MerryDuchy_Acts_29 : Cond.fieldLink "MerryDuchy$Acts" 29 "MerryDuchy$Acts" "balances" "[I" ∈ gtbl := gt2 76 (by decide +kernel) (by decide +kernel)
theorem q_m_MerryDuchy_Acts_3 : Cond.methodLink "MerryDuchy$Acts" 3 objectInit ∈ gtbl := gt1 158 (by decide +kernel) (by decide +kernel)
theorem q_c_MerryDuchy_Acts_9 : Cond.classLink "MerryDuchy$Acts" 9 "MerryDuchy$Duchy" ∈ gtbl := gt1 159 (by decide +kernel) (by decide +kernel)
theorem q_i_MerryDuchy_Duchy : Cond.instantiable "MerryDuchy$Duchy" 10 ∈ gtbl := gt1 160 (by decide +kernel) (by decide +kernel)
theorem q_n_MerryDuchy_Duchy : Cond.initialized "MerryDuchy$Duchy" ∈ gtbl := gt1 8 (by decide +kernel) (by decide +kernel)
theorem q_m_MerryDuchy_Acts_11 : Cond.methodLink "MerryDuchy$Acts" 11 yX2_init ∈ gtbl := gt1 161 (by decide +kernel) (by decide +kernel)
theorem q_v_X2_init : Cond.instanceMethod yX2_init ∈ gtbl := gt1 162 (by decide +kernel) (by decide +kernel)
theorem q_c_MerryDuchy_Acts_18 : Cond.classLink "MerryDuchy$Acts" 18 "MerryDuchy$Ring" ∈ gtbl := gt2 56 (by decide +kernel) (by decide +kernel)
theorem q_i_MerryDuchy_Ring : Cond.instantiable "MerryDuchy$Ring" 2 ∈ gtbl := gt2 57 (by decide +kernel) (by decide +kernel)
theorem q_n_MerryDuchy_Ring : Cond.initialized "MerryDuchy$Ring" ∈ gtbl := gt1 11 (by decide +kernel) (by decide +kernel)
theorem q_v_X6_init : Cond.instanceMethod yX6_init ∈ gtbl := gt2 59 (by decide +kernel) (by decide +kernel)
theorem q_f_MerryDuchy_Acts_21 : Cond.fieldLink "MerryDuchy$Acts" 21 "MerryDuchy$Acts" "ring" "LMerryDuchy$Ring;" ∈ gtbl := gt2 73 (by decide +kernel) (by decide +kernel)
theorem q_a_int : Cond.arrayClass .int ∈ gtbl := gt1 227 (by decide +kernel) (by decide +kernel)
theorem q_f_MerryDuchy_Acts_61 : Cond.fieldLink "MerryDuchy$Acts" 61 "MerryDuchy$State" "week" "I" ∈ gtbl := gt1 207 (by decide +kernel) (by decide +kernel)
theorem q_m_MerryDuchy_Acts_75 : Cond.methodLink "MerryDuchy$Acts" 75 yX0_passWeeks ∈ gtbl := gt4 32 (by decide +kernel) (by decide +kernel)
theorem q_v_X0_passWeeks : Cond.instanceMethod yX0_passWeeks ∈ gtbl := gt4 34 (by decide +kernel) (by decide +kernel)
theorem q_e_X0_passWeeks : Cond.selects "MerryDuchy$Acts" yX0_passWeeks yX0_passWeeks ∈ gtbl := gm 21 (by decide +kernel) (by decide +kernel)
theorem q_m_MerryDuchy_Acts_57 : Cond.methodLink "MerryDuchy$Acts" 57 yX6_find ∈ gtbl := gt3 237 (by decide +kernel) (by decide +kernel)
theorem q_v_X6_find : Cond.instanceMethod yX6_find ∈ gtbl := gt3 238 (by decide +kernel) (by decide +kernel)
theorem q_e_X6_find : Cond.selects "MerryDuchy$Ring" yX6_find yX6_find ∈ gtbl := gt3 239 (by decide +kernel) (by decide +kernel)
theorem q_f_MerryDuchy_Tokens_46 : Cond.fieldLink "MerryDuchy$Tokens" 46 "MerryDuchy$Tokens" "fault" "I" ∈ gtbl := gt1 117 (by decide +kernel) (by decide +kernel)
theorem q_f_MerryDuchy_Tokens_49 : Cond.fieldLink "MerryDuchy$Tokens" 49 "MerryDuchy$Tokens" "place" "I" ∈ gtbl := gt1 120 (by decide +kernel) (by decide +kernel)
theorem q_f_MerryDuchy_Tokens_61 : Cond.fieldLink "MerryDuchy$Tokens" 61 "MerryDuchy$Tokens" "kind" "I" ∈ gtbl := gt1 100 (by decide +kernel) (by decide +kernel)
theorem q_f_MerryDuchy_Tokens_43 : Cond.fieldLink "MerryDuchy$Tokens" 43 "MerryDuchy$Tokens" "at" "I" ∈ gtbl := gt1 94 (by decide +kernel) (by decide +kernel)
theorem q_f_MerryDuchy_Tokens_37 : Cond.fieldLink "MerryDuchy$Tokens" 37 "MerryDuchy$Tokens" "length" "I" ∈ gtbl := gt1 92 (by decide +kernel) (by decide +kernel)
theorem q_f_MerryDuchy_Tokens_55 : Cond.fieldLink "MerryDuchy$Tokens" 55 "MerryDuchy$Tokens" "key" "I" ∈ gtbl := gt1 104 (by decide +kernel) (by decide +kernel)
theorem q_f_MerryDuchy_Tokens_40 : Cond.fieldLink "MerryDuchy$Tokens" 40 "MerryDuchy$Tokens" "mostBytes" "I" ∈ gtbl := gt1 93 (by decide +kernel) (by decide +kernel)
theorem q_f_MerryDuchy_Tokens_58 : Cond.fieldLink "MerryDuchy$Tokens" 58 "MerryDuchy$Tokens" "start" "I" ∈ gtbl := gt1 96 (by decide +kernel) (by decide +kernel)
theorem q_m_MerryDuchy_Tokens_31 : Cond.methodLink "MerryDuchy$Tokens" 31 Lib.Math.min.name ∈ gtbl := gt3 32 (by decide +kernel) (by decide +kernel)
theorem q_m_MerryDuchy_Tokens_52 : Cond.methodLink "MerryDuchy$Tokens" 52 yX10_next ∈ gtbl := gt3 35 (by decide +kernel) (by decide +kernel)
theorem q_v_X10_next : Cond.instanceMethod yX10_next ∈ gtbl := gt3 36 (by decide +kernel) (by decide +kernel)
theorem q_e_X10_next : Cond.selects "MerryDuchy$Tokens" yX10_next yX10_next ∈ gtbl := gt3 37 (by decide +kernel) (by decide +kernel)
theorem q_m_MerryDuchy_111 : Cond.methodLink "MerryDuchy" 111 yX11_startTokens ∈ gtbl := gt3 24 (by decide +kernel) (by decide +kernel)
theorem q_v_X11_startTokens : Cond.instanceMethod yX11_startTokens ∈ gtbl := gt3 26 (by decide +kernel) (by decide +kernel)
theorem q_e_X11_startTokens : Cond.selects "MerryDuchy" yX11_startTokens yX11_startTokens ∈ gtbl := gm 1 (by decide +kernel) (by decide +kernel)
theorem q_f_MerryDuchy_96 : Cond.fieldLink "MerryDuchy" 96 "MerryDuchy" "latestBook" "LMerryDuchy$Book;" ∈ gtbl := gt2 208 (by decide +kernel) (by decide +kernel)
theorem q_f_MerryDuchy_12 : Cond.fieldLink "MerryDuchy" 12 "MerryDuchy" "tokens" "LMerryDuchy$Tokens;" ∈ gtbl := gt2 193 (by decide +kernel) (by decide +kernel)
theorem q_f_MerryDuchy_34 : Cond.fieldLink "MerryDuchy" 34 "MerryDuchy" "here" "LMerryDuchy$Duchy;" ∈ gtbl := gt2 198 (by decide +kernel) (by decide +kernel)
theorem q_m_MerryDuchy_332 : Cond.methodLink "MerryDuchy" 332 yX1_readLines ∈ gtbl := gt5 68 (by decide +kernel) (by decide +kernel)
theorem q_v_X1_readLines : Cond.instanceMethod yX1_readLines ∈ gtbl := gt5 69 (by decide +kernel) (by decide +kernel)
theorem q_e_X1_readLines : Cond.selects "MerryDuchy$Book" yX1_readLines yX1_readLines ∈ gtbl := gt5 70 (by decide +kernel) (by decide +kernel)
theorem q_f_MerryDuchy_118 : Cond.fieldLink "MerryDuchy" 118 "MerryDuchy$Tokens" "fault" "I" ∈ gtbl := gt1 118 (by decide +kernel) (by decide +kernel)
theorem q_f_MerryDuchy_121 : Cond.fieldLink "MerryDuchy" 121 "MerryDuchy" "latestFault" "I" ∈ gtbl := gt2 196 (by decide +kernel) (by decide +kernel)
theorem q_f_MerryDuchy_61 : Cond.fieldLink "MerryDuchy" 61 "MerryDuchy" "past" "LMerryDuchy$Past;" ∈ gtbl := gt2 203 (by decide +kernel) (by decide +kernel)
theorem q_f_MerryDuchy_145 : Cond.fieldLink "MerryDuchy" 145 "MerryDuchy$Duchy" "state" "LMerryDuchy$State;" ∈ gtbl := gt2 30 (by decide +kernel) (by decide +kernel)
theorem q_m_MerryDuchy_215 : Cond.methodLink "MerryDuchy" 215 yX4_keep ∈ gtbl := gt4 9 (by decide +kernel) (by decide +kernel)
theorem q_v_X4_keep : Cond.instanceMethod yX4_keep ∈ gtbl := gt4 10 (by decide +kernel) (by decide +kernel)
theorem q_e_X4_keep : Cond.selects "MerryDuchy$Past" yX4_keep yX4_keep ∈ gtbl := gt4 11 (by decide +kernel) (by decide +kernel)
theorem q_f_MerryDuchy_26 : Cond.fieldLink "MerryDuchy" 26 "MerryDuchy" "acts" "LMerryDuchy$Acts;" ∈ gtbl := gt2 197 (by decide +kernel) (by decide +kernel)
theorem q_m_MerryDuchy_335 : Cond.methodLink "MerryDuchy" 335 yX1_live ∈ gtbl := gt5 89 (by decide +kernel) (by decide +kernel)
theorem q_v_X1_live : Cond.instanceMethod yX1_live ∈ gtbl := gt5 90 (by decide +kernel) (by decide +kernel)
theorem q_e_X1_live : Cond.selects "MerryDuchy$Book" yX1_live yX1_live ∈ gtbl := gt5 91 (by decide +kernel) (by decide +kernel)
theorem q_f_MerryDuchy_54 : Cond.fieldLink "MerryDuchy" 54 "MerryDuchy" "trial" "LMerryDuchy$State;" ∈ gtbl := gt2 202 (by decide +kernel) (by decide +kernel)
theorem q_m_MerryDuchy_330 : Cond.methodLink "MerryDuchy" 330 yX8_takeAll ∈ gtbl := gt5 63 (by decide +kernel) (by decide +kernel)
theorem q_v_X8_takeAll : Cond.instanceMethod yX8_takeAll ∈ gtbl := gt3 163 (by decide +kernel) (by decide +kernel)
theorem q_e_X8_takeAll : Cond.selects "MerryDuchy$State" yX8_takeAll yX8_takeAll ∈ gtbl := gt3 164 (by decide +kernel) (by decide +kernel)
theorem q_m_MerryDuchy_138 : Cond.methodLink "MerryDuchy" 138 yX2_has ∈ gtbl := gt3 184 (by decide +kernel) (by decide +kernel)
theorem q_v_X2_has : Cond.instanceMethod yX2_has ∈ gtbl := gt3 185 (by decide +kernel) (by decide +kernel)
theorem q_e_X2_has : Cond.selects "MerryDuchy$Duchy" yX2_has yX2_has ∈ gtbl := gt3 186 (by decide +kernel) (by decide +kernel)
theorem q_f_MerryDuchy_288 : Cond.fieldLink "MerryDuchy" 288 "MerryDuchy" "listLength" "I" ∈ gtbl := gt2 210 (by decide +kernel) (by decide +kernel)
theorem q_m_MerryDuchy_226 : Cond.methodLink "MerryDuchy" 226 Lib.Math.min.name ∈ gtbl := gt3 157 (by decide +kernel) (by decide +kernel)
theorem q_m_MerryDuchy_377 : Cond.methodLink "MerryDuchy" 377 arraycopyName ∈ gtbl := gt3 158 (by decide +kernel) (by decide +kernel)
theorem q_m_MerryDuchy_239 : Cond.methodLink "MerryDuchy" 239 yX2_men ∈ gtbl := gt4 80 (by decide +kernel) (by decide +kernel)
theorem q_m_MerryDuchy_369 : Cond.methodLink "MerryDuchy" 369 yX2_forfeits ∈ gtbl := gt5 170 (by decide +kernel) (by decide +kernel)
theorem q_v_X2_forfeits : Cond.instanceMethod yX2_forfeits ∈ gtbl := gt3 147 (by decide +kernel) (by decide +kernel)
theorem q_e_X2_forfeits : Cond.selects "MerryDuchy$Duchy" yX2_forfeits yX2_forfeits ∈ gtbl := gt3 148 (by decide +kernel) (by decide +kernel)
theorem q_m_MerryDuchy_178 : Cond.methodLink "MerryDuchy" 178 yX2_goods ∈ gtbl := gt5 171 (by decide +kernel) (by decide +kernel)
theorem q_v_X2_goods : Cond.instanceMethod yX2_goods ∈ gtbl := gt5 56 (by decide +kernel) (by decide +kernel)
theorem q_e_X2_goods : Cond.selects "MerryDuchy$Duchy" yX2_goods yX2_goods ∈ gtbl := gt5 57 (by decide +kernel) (by decide +kernel)
theorem q_f_MerryDuchy_371 : Cond.fieldLink "MerryDuchy" 371 "MerryDuchy$Duchy" "wears" "I" ∈ gtbl := gt2 22 (by decide +kernel) (by decide +kernel)
theorem q_f_MerryDuchy_374 : Cond.fieldLink "MerryDuchy" 374 "MerryDuchy$Duchy" "mends" "I" ∈ gtbl := gt2 25 (by decide +kernel) (by decide +kernel)
theorem q_f_MerryDuchy_103 : Cond.fieldLink "MerryDuchy" 103 "MerryDuchy" "tapeLength" "I" ∈ gtbl := gt2 195 (by decide +kernel) (by decide +kernel)
theorem q_m_MerryDuchy_219 : Cond.methodLink "MerryDuchy" 219 yX0_perform ∈ gtbl := gt4 15 (by decide +kernel) (by decide +kernel)
theorem q_v_X0_perform : Cond.instanceMethod yX0_perform ∈ gtbl := gt4 16 (by decide +kernel) (by decide +kernel)
theorem q_e_X0_perform : Cond.selects "MerryDuchy$Acts" yX0_perform yX0_perform ∈ gtbl := gt4 17 (by decide +kernel) (by decide +kernel)
theorem q_f_MerryDuchy_40 : Cond.fieldLink "MerryDuchy" 40 "MerryDuchy" "draft" "LMerryDuchy$Duchy;" ∈ gtbl := gt2 199 (by decide +kernel) (by decide +kernel)
theorem q_m_MerryDuchy_114 : Cond.methodLink "MerryDuchy" 114 yX2_readLines ∈ gtbl := gt3 51 (by decide +kernel) (by decide +kernel)
theorem q_v_X2_readLines : Cond.instanceMethod yX2_readLines ∈ gtbl := gt3 52 (by decide +kernel) (by decide +kernel)
theorem q_e_X2_readLines : Cond.selects "MerryDuchy$Duchy" yX2_readLines yX2_readLines ∈ gtbl := gt3 53 (by decide +kernel) (by decide +kernel)
theorem q_m_MerryDuchy_127 : Cond.methodLink "MerryDuchy" 127 yX2_takeAll ∈ gtbl := gt3 150 (by decide +kernel) (by decide +kernel)
theorem q_v_X2_takeAll : Cond.instanceMethod yX2_takeAll ∈ gtbl := gt3 151 (by decide +kernel) (by decide +kernel)
theorem q_e_X2_takeAll : Cond.selects "MerryDuchy$Duchy" yX2_takeAll yX2_takeAll ∈ gtbl := gt3 152 (by decide +kernel) (by decide +kernel)
theorem q_m_MerryDuchy_131 : Cond.methodLink "MerryDuchy" 131 yX4_forget ∈ gtbl := gt3 172 (by decide +kernel) (by decide +kernel)
theorem q_v_X4_forget : Cond.instanceMethod yX4_forget ∈ gtbl := gt3 173 (by decide +kernel) (by decide +kernel)
theorem q_e_X4_forget : Cond.selects "MerryDuchy$Past" yX4_forget yX4_forget ∈ gtbl := gt3 174 (by decide +kernel) (by decide +kernel)
theorem q_m_MerryDuchy_268 : Cond.methodLink "MerryDuchy" 268 yX0_fewestPayments ∈ gtbl := gt4 136 (by decide +kernel) (by decide +kernel)
theorem q_v_X0_fewestPayments : Cond.instanceMethod yX0_fewestPayments ∈ gtbl := gt4 137 (by decide +kernel) (by decide +kernel)
theorem q_e_X0_fewestPayments : Cond.selects "MerryDuchy$Acts" yX0_fewestPayments yX0_fewestPayments ∈ gtbl := gt4 138 (by decide +kernel) (by decide +kernel)
theorem q_m_MerryDuchy_107 : Cond.methodLink "MerryDuchy" 107 yX11_feedNumber ∈ gtbl := gt3 12 (by decide +kernel) (by decide +kernel)
theorem q_v_X11_feedNumber : Cond.instanceMethod yX11_feedNumber ∈ gtbl := gt3 14 (by decide +kernel) (by decide +kernel)
theorem q_e_X11_feedNumber : Cond.selects "MerryDuchy" yX11_feedNumber yX11_feedNumber ∈ gtbl := gm 0 (by decide +kernel) (by decide +kernel)
theorem q_f_MerryDuchy_20 : Cond.fieldLink "MerryDuchy" 20 "MerryDuchy" "tape" "[B" ∈ gtbl := gt2 194 (by decide +kernel) (by decide +kernel)
theorem q_f_MerryDuchy_89 : Cond.fieldLink "MerryDuchy" 89 "MerryDuchy" "latestFits" "LMerryDuchy$Fits;" ∈ gtbl := gt2 207 (by decide +kernel) (by decide +kernel)
theorem q_m_MerryDuchy_271 : Cond.methodLink "MerryDuchy" 271 yX3_find ∈ gtbl := gt4 156 (by decide +kernel) (by decide +kernel)
theorem q_v_X3_find : Cond.instanceMethod yX3_find ∈ gtbl := gt4 157 (by decide +kernel) (by decide +kernel)
theorem q_e_X3_find : Cond.selects "MerryDuchy$Fits" yX3_find yX3_find ∈ gtbl := gt4 158 (by decide +kernel) (by decide +kernel)
theorem q_f_MerryDuchy_43 : Cond.fieldLink "MerryDuchy" 43 "MerryDuchy" "images" "[LMerryDuchy$Duchy;" ∈ gtbl := gt2 200 (by decide +kernel) (by decide +kernel)
theorem q_f_MerryDuchy_47 : Cond.fieldLink "MerryDuchy" 47 "MerryDuchy" "imaged" "[Z" ∈ gtbl := gt2 201 (by decide +kernel) (by decide +kernel)
theorem q_m_MerryDuchy_3 : Cond.methodLink "MerryDuchy" 3 objectInit ∈ gtbl := gt1 31 (by decide +kernel) (by decide +kernel)
theorem q_c_MerryDuchy_9 : Cond.classLink "MerryDuchy" 9 "MerryDuchy$Tokens" ∈ gtbl := gt1 34 (by decide +kernel) (by decide +kernel)
theorem q_i_MerryDuchy_Tokens : Cond.instantiable "MerryDuchy$Tokens" 14 ∈ gtbl := gt1 35 (by decide +kernel) (by decide +kernel)
theorem q_n_MerryDuchy_Tokens : Cond.initialized "MerryDuchy$Tokens" ∈ gtbl := gt1 2 (by decide +kernel) (by decide +kernel)
theorem q_m_MerryDuchy_11 : Cond.methodLink "MerryDuchy" 11 yX10_init ∈ gtbl := gt1 36 (by decide +kernel) (by decide +kernel)
theorem q_v_X10_init : Cond.instanceMethod yX10_init ∈ gtbl := gt1 37 (by decide +kernel) (by decide +kernel)
theorem q_f_MerryDuchy_16 : Cond.fieldLink "MerryDuchy" 16 "MerryDuchy$Tokens" "bytes" "[B" ∈ gtbl := gt1 90 (by decide +kernel) (by decide +kernel)
theorem q_c_MerryDuchy_23 : Cond.classLink "MerryDuchy" 23 "MerryDuchy$Acts" ∈ gtbl := gt1 153 (by decide +kernel) (by decide +kernel)
theorem q_i_MerryDuchy_Acts : Cond.instantiable "MerryDuchy$Acts" 5 ∈ gtbl := gt1 154 (by decide +kernel) (by decide +kernel)
theorem q_n_MerryDuchy_Acts : Cond.initialized "MerryDuchy$Acts" ∈ gtbl := gt1 7 (by decide +kernel) (by decide +kernel)
theorem q_v_X0_init : Cond.instanceMethod yX0_init ∈ gtbl := gt1 156 (by decide +kernel) (by decide +kernel)
theorem q_f_MerryDuchy_30 : Cond.fieldLink "MerryDuchy" 30 "MerryDuchy$Acts" "duchy" "LMerryDuchy$Duchy;" ∈ gtbl := gt2 72 (by decide +kernel) (by decide +kernel)
theorem q_c_MerryDuchy_37 : Cond.classLink "MerryDuchy" 37 "MerryDuchy$Duchy" ∈ gtbl := gt2 89 (by decide +kernel) (by decide +kernel)
theorem q_m_MerryDuchy_39 : Cond.methodLink "MerryDuchy" 39 yX2_init ∈ gtbl := gt2 90 (by decide +kernel) (by decide +kernel)
theorem q_a_boolean : Cond.arrayClass .boolean ∈ gtbl := gt2 113 (by decide +kernel) (by decide +kernel)
theorem q_c_MerryDuchy_51 : Cond.classLink "MerryDuchy" 51 "MerryDuchy$State" ∈ gtbl := gt2 92 (by decide +kernel) (by decide +kernel)
theorem q_i_MerryDuchy_State : Cond.instantiable "MerryDuchy$State" 8 ∈ gtbl := gt1 166 (by decide +kernel) (by decide +kernel)
theorem q_n_MerryDuchy_State : Cond.initialized "MerryDuchy$State" ∈ gtbl := gt1 9 (by decide +kernel) (by decide +kernel)
theorem q_v_X8_init : Cond.instanceMethod yX8_init ∈ gtbl := gt1 168 (by decide +kernel) (by decide +kernel)
theorem q_c_MerryDuchy_58 : Cond.classLink "MerryDuchy" 58 "MerryDuchy$Past" ∈ gtbl := gt2 94 (by decide +kernel) (by decide +kernel)
theorem q_i_MerryDuchy_Past : Cond.instantiable "MerryDuchy$Past" 3 ∈ gtbl := gt2 95 (by decide +kernel) (by decide +kernel)
theorem q_n_MerryDuchy_Past : Cond.initialized "MerryDuchy$Past" ∈ gtbl := gt1 12 (by decide +kernel) (by decide +kernel)
theorem q_m_MerryDuchy_60 : Cond.methodLink "MerryDuchy" 60 yX4_init ∈ gtbl := gt2 96 (by decide +kernel) (by decide +kernel)
theorem q_v_X4_init : Cond.instanceMethod yX4_init ∈ gtbl := gt2 97 (by decide +kernel) (by decide +kernel)
theorem q_c_MerryDuchy_65 : Cond.classLink "MerryDuchy" 65 "MerryDuchy$Ring" ∈ gtbl := gt2 114 (by decide +kernel) (by decide +kernel)
theorem q_f_MerryDuchy_68 : Cond.fieldLink "MerryDuchy" 68 "MerryDuchy" "latestRing" "LMerryDuchy$Ring;" ∈ gtbl := gt2 204 (by decide +kernel) (by decide +kernel)
theorem q_c_MerryDuchy_72 : Cond.classLink "MerryDuchy" 72 "MerryDuchy$Plan" ∈ gtbl := gt2 116 (by decide +kernel) (by decide +kernel)
theorem q_i_MerryDuchy_Plan : Cond.instantiable "MerryDuchy$Plan" 4 ∈ gtbl := gt2 117 (by decide +kernel) (by decide +kernel)
theorem q_n_MerryDuchy_Plan : Cond.initialized "MerryDuchy$Plan" ∈ gtbl := gt1 13 (by decide +kernel) (by decide +kernel)
theorem q_v_X5_init : Cond.instanceMethod yX5_init ∈ gtbl := gt2 119 (by decide +kernel) (by decide +kernel)
theorem q_f_MerryDuchy_75 : Cond.fieldLink "MerryDuchy" 75 "MerryDuchy" "latestPlan" "LMerryDuchy$Plan;" ∈ gtbl := gt2 205 (by decide +kernel) (by decide +kernel)
theorem q_c_MerryDuchy_79 : Cond.classLink "MerryDuchy" 79 "MerryDuchy$Tax" ∈ gtbl := gt2 137 (by decide +kernel) (by decide +kernel)
theorem q_i_MerryDuchy_Tax : Cond.instantiable "MerryDuchy$Tax" 4 ∈ gtbl := gt2 138 (by decide +kernel) (by decide +kernel)
theorem q_n_MerryDuchy_Tax : Cond.initialized "MerryDuchy$Tax" ∈ gtbl := gt1 14 (by decide +kernel) (by decide +kernel)
theorem q_v_X9_init : Cond.instanceMethod yX9_init ∈ gtbl := gt2 140 (by decide +kernel) (by decide +kernel)
theorem q_f_MerryDuchy_82 : Cond.fieldLink "MerryDuchy" 82 "MerryDuchy" "latestTax" "LMerryDuchy$Tax;" ∈ gtbl := gt2 206 (by decide +kernel) (by decide +kernel)
theorem q_c_MerryDuchy_86 : Cond.classLink "MerryDuchy" 86 "MerryDuchy$Fits" ∈ gtbl := gt2 158 (by decide +kernel) (by decide +kernel)
theorem q_i_MerryDuchy_Fits : Cond.instantiable "MerryDuchy$Fits" 2 ∈ gtbl := gt2 159 (by decide +kernel) (by decide +kernel)
theorem q_n_MerryDuchy_Fits : Cond.initialized "MerryDuchy$Fits" ∈ gtbl := gt1 15 (by decide +kernel) (by decide +kernel)
theorem q_v_X3_init : Cond.instanceMethod yX3_init ∈ gtbl := gt2 161 (by decide +kernel) (by decide +kernel)
theorem q_c_MerryDuchy_93 : Cond.classLink "MerryDuchy" 93 "MerryDuchy$Book" ∈ gtbl := gt2 172 (by decide +kernel) (by decide +kernel)
theorem q_i_MerryDuchy_Book : Cond.instantiable "MerryDuchy$Book" 4 ∈ gtbl := gt2 173 (by decide +kernel) (by decide +kernel)
theorem q_n_MerryDuchy_Book : Cond.initialized "MerryDuchy$Book" ∈ gtbl := gt1 16 (by decide +kernel) (by decide +kernel)
theorem q_v_X1_init : Cond.instanceMethod yX1_init ∈ gtbl := gt2 175 (by decide +kernel) (by decide +kernel)
theorem q_a_byte : Cond.arrayClass .byte ∈ gtbl := gt1 151 (by decide +kernel) (by decide +kernel)
theorem q_f_MerryDuchy_100 : Cond.fieldLink "MerryDuchy" 100 "MerryDuchy" "latestList" "[B" ∈ gtbl := gt2 209 (by decide +kernel) (by decide +kernel)
theorem q_m_MerryDuchy_212 : Cond.methodLink "MerryDuchy" 212 yX11_triedBetween ∈ gtbl := gt4 49 (by decide +kernel) (by decide +kernel)
theorem q_v_X11_triedBetween : Cond.instanceMethod yX11_triedBetween ∈ gtbl := gt4 51 (by decide +kernel) (by decide +kernel)
theorem q_e_X11_triedBetween : Cond.selects "MerryDuchy" yX11_triedBetween yX11_triedBetween ∈ gtbl := gm 23 (by decide +kernel) (by decide +kernel)
theorem q_f_MerryDuchy_195 : Cond.fieldLink "MerryDuchy" 195 "MerryDuchy$State" "week" "I" ∈ gtbl := gt1 209 (by decide +kernel) (by decide +kernel)
theorem q_f_MerryDuchy_148 : Cond.fieldLink "MerryDuchy" 148 "MerryDuchy$State" "pride" "[I" ∈ gtbl := gt1 175 (by decide +kernel) (by decide +kernel)
theorem q_m_MerryDuchy_165 : Cond.methodLink "MerryDuchy" 165 yX11_sum ∈ gtbl := gt3 216 (by decide +kernel) (by decide +kernel)
theorem q_s_X11_sum : Cond.static yX11_sum ∈ gtbl := gt3 217 (by decide +kernel) (by decide +kernel)
theorem q_m_MerryDuchy_198 : Cond.methodLink "MerryDuchy" 198 yX8_allCredit ∈ gtbl := gt3 219 (by decide +kernel) (by decide +kernel)
theorem q_v_X8_allCredit : Cond.instanceMethod yX8_allCredit ∈ gtbl := gt3 220 (by decide +kernel) (by decide +kernel)
theorem q_e_X8_allCredit : Cond.selects "MerryDuchy$State" yX8_allCredit yX8_allCredit ∈ gtbl := gt3 221 (by decide +kernel) (by decide +kernel)
theorem q_f_MerryDuchy_162 : Cond.fieldLink "MerryDuchy" 162 "MerryDuchy$State" "debts" "[I" ∈ gtbl := gt1 192 (by decide +kernel) (by decide +kernel)
theorem q_f_MerryDuchy_172 : Cond.fieldLink "MerryDuchy" 172 "MerryDuchy$State" "times" "[I" ∈ gtbl := gt1 200 (by decide +kernel) (by decide +kernel)
theorem q_f_MerryDuchy_182 : Cond.fieldLink "MerryDuchy" 182 "MerryDuchy$State" "bought" "[I" ∈ gtbl := gt1 204 (by decide +kernel) (by decide +kernel)
theorem q_f_MerryDuchy_257 : Cond.fieldLink "MerryDuchy" 257 "MerryDuchy$Plan" "forfeits" "I" ∈ gtbl := gt2 127 (by decide +kernel) (by decide +kernel)
theorem q_f_MerryDuchy_236 : Cond.fieldLink "MerryDuchy" 236 "MerryDuchy$Acts" "ring" "LMerryDuchy$Ring;" ∈ gtbl := gt2 74 (by decide +kernel) (by decide +kernel)
theorem q_m_MerryDuchy_242 : Cond.methodLink "MerryDuchy" 242 yX6_find ∈ gtbl := gt4 81 (by decide +kernel) (by decide +kernel)
theorem q_f_MerryDuchy_249 : Cond.fieldLink "MerryDuchy" 249 "MerryDuchy$Ring" "size" "I" ∈ gtbl := gt2 65 (by decide +kernel) (by decide +kernel)
theorem q_f_MerryDuchy_343 : Cond.fieldLink "MerryDuchy" 343 "MerryDuchy$Duchy" "sentence" "LMerryDuchy$Sentence;" ∈ gtbl := gt2 34 (by decide +kernel) (by decide +kernel)
theorem q_f_MerryDuchy_358 : Cond.fieldLink "MerryDuchy" 358 "MerryDuchy$Sentence" "length" "I" ∈ gtbl := gt1 237 (by decide +kernel) (by decide +kernel)
theorem q_m_MerryDuchy_347 : Cond.methodLink "MerryDuchy" 347 yX7_readWhole ∈ gtbl := gt5 104 (by decide +kernel) (by decide +kernel)
theorem q_v_X7_readWhole : Cond.instanceMethod yX7_readWhole ∈ gtbl := gt5 105 (by decide +kernel) (by decide +kernel)
theorem q_e_X7_readWhole : Cond.selects "MerryDuchy$Sentence" yX7_readWhole yX7_readWhole ∈ gtbl := gt5 106 (by decide +kernel) (by decide +kernel)
theorem q_f_MerryDuchy_124 : Cond.fieldLink "MerryDuchy" 124 "MerryDuchy$Tokens" "place" "I" ∈ gtbl := gt1 121 (by decide +kernel) (by decide +kernel)
theorem q_m_MerryDuchy_134 : Cond.methodLink "MerryDuchy" 134 yX10_start ∈ gtbl := gt3 28 (by decide +kernel) (by decide +kernel)
theorem q_v_X10_start : Cond.instanceMethod yX10_start ∈ gtbl := gt3 29 (by decide +kernel) (by decide +kernel)
theorem q_e_X10_start : Cond.selects "MerryDuchy$Tokens" yX10_start yX10_start ∈ gtbl := gt3 30 (by decide +kernel) (by decide +kernel)
theorem q_m_MerryDuchy_201 : Cond.methodLink "MerryDuchy" 201 yX0_whyNot ∈ gtbl := gt3 228 (by decide +kernel) (by decide +kernel)
theorem q_v_X0_whyNot : Cond.instanceMethod yX0_whyNot ∈ gtbl := gt3 229 (by decide +kernel) (by decide +kernel)
theorem q_e_X0_whyNot : Cond.selects "MerryDuchy$Acts" yX0_whyNot yX0_whyNot ∈ gtbl := gt3 230 (by decide +kernel) (by decide +kernel)
theorem q_m_MerryDuchy_280 : Cond.methodLink "MerryDuchy" 280 yX9_find ∈ gtbl := gt4 198 (by decide +kernel) (by decide +kernel)
theorem q_v_X9_find : Cond.instanceMethod yX9_find ∈ gtbl := gt4 199 (by decide +kernel) (by decide +kernel)
theorem q_e_X9_find : Cond.selects "MerryDuchy$Tax" yX9_find yX9_find ∈ gtbl := gt4 200 (by decide +kernel) (by decide +kernel)
theorem q_f_MerryDuchy_283 : Cond.fieldLink "MerryDuchy" 283 "MerryDuchy$Tax" "men" "I" ∈ gtbl := gt2 148 (by decide +kernel) (by decide +kernel)
theorem q_f_MerryDuchy_274 : Cond.fieldLink "MerryDuchy" 274 "MerryDuchy$Fits" "telling" "I" ∈ gtbl := gt2 166 (by decide +kernel) (by decide +kernel)
theorem q_f_MerryDuchy_339 : Cond.fieldLink "MerryDuchy" 339 "MerryDuchy$Book" "toldRows" "I" ∈ gtbl := gt2 183 (by decide +kernel) (by decide +kernel)
theorem q_m_MerryDuchy_232 : Cond.methodLink "MerryDuchy" 232 yX4_giveBack ∈ gtbl := gt4 72 (by decide +kernel) (by decide +kernel)
theorem q_v_X4_giveBack : Cond.instanceMethod yX4_giveBack ∈ gtbl := gt4 73 (by decide +kernel) (by decide +kernel)
theorem q_e_X4_giveBack : Cond.selects "MerryDuchy$Past" yX4_giveBack yX4_giveBack ∈ gtbl := gt4 74 (by decide +kernel) (by decide +kernel)
theorem q_m_MerryDuchy_222 : Cond.methodLink "MerryDuchy" 222 yX11_weeksToGo ∈ gtbl := gt4 65 (by decide +kernel) (by decide +kernel)
theorem q_s_X11_weeksToGo : Cond.static yX11_weeksToGo ∈ gtbl := gt4 66 (by decide +kernel) (by decide +kernel)
theorem q_m_MerryDuchy_205 : Cond.methodLink "MerryDuchy" 205 yX11_done ∈ gtbl := gt4 5 (by decide +kernel) (by decide +kernel)
theorem q_v_X11_done : Cond.instanceMethod yX11_done ∈ gtbl := gt4 7 (by decide +kernel) (by decide +kernel)
theorem q_e_X11_done : Cond.selects "MerryDuchy" yX11_done yX11_done ∈ gtbl := gm 18 (by decide +kernel) (by decide +kernel)
theorem q_f_MerryDuchyModel_30 : Cond.fieldLink "MerryDuchyModel" 30 "MerryDuchyModel" "kind" "I" ∈ gtbl := gt6 35 (by decide +kernel) (by decide +kernel)
theorem q_f_MerryDuchyModel_66 : Cond.fieldLink "MerryDuchyModel" 66 "MerryDuchyModel" "fault" "I" ∈ gtbl := gt6 38 (by decide +kernel) (by decide +kernel)
theorem q_f_MerryDuchyModel_24 : Cond.fieldLink "MerryDuchyModel" 24 "MerryDuchyModel" "from" "I" ∈ gtbl := gt6 34 (by decide +kernel) (by decide +kernel)
theorem q_f_MerryDuchyModel_69 : Cond.fieldLink "MerryDuchyModel" 69 "MerryDuchyModel" "place" "I" ∈ gtbl := gt6 39 (by decide +kernel) (by decide +kernel)
theorem q_f_MerryDuchyModel_1 : Cond.fieldLink "MerryDuchyModel" 1 "MerryDuchyModel" "thrown" "I" ∈ gtbl := gt6 28 (by decide +kernel) (by decide +kernel)
theorem q_m_MerryDuchyModel_89 : Cond.methodLink "MerryDuchyModel" 89 yX12_take ∈ gtbl := gt6 196 (by decide +kernel) (by decide +kernel)
theorem q_v_X12_take : Cond.instanceMethod yX12_take ∈ gtbl := gt6 198 (by decide +kernel) (by decide +kernel)
theorem q_e_X12_take : Cond.selects "MerryDuchyModel" yX12_take yX12_take ∈ gtbl := gm 57 (by decide +kernel) (by decide +kernel)
theorem q_f_MerryDuchyModel_18 : Cond.fieldLink "MerryDuchyModel" 18 "MerryDuchyModel" "size" "I" ∈ gtbl := gt6 31 (by decide +kernel) (by decide +kernel)
theorem q_f_MerryDuchyModel_27 : Cond.fieldLink "MerryDuchyModel" 27 "MerryDuchyModel" "limit" "I" ∈ gtbl := gt6 32 (by decide +kernel) (by decide +kernel)
theorem q_f_MerryDuchyModel_21 : Cond.fieldLink "MerryDuchyModel" 21 "MerryDuchyModel" "to" "I" ∈ gtbl := gt6 33 (by decide +kernel) (by decide +kernel)
theorem q_m_MerryDuchyModel_82 : Cond.methodLink "MerryDuchyModel" 82 yX12_go ∈ gtbl := gt6 200 (by decide +kernel) (by decide +kernel)
theorem q_v_X12_go : Cond.instanceMethod yX12_go ∈ gtbl := gt6 202 (by decide +kernel) (by decide +kernel)
theorem q_e_X12_go : Cond.selects "MerryDuchyModel" yX12_go yX12_go ∈ gtbl := gm 58 (by decide +kernel) (by decide +kernel)
theorem q_m_MerryDuchyModel_75 : Cond.methodLink "MerryDuchyModel" 75 yX12_isIn ∈ gtbl := gt7 17 (by decide +kernel) (by decide +kernel)
theorem q_s_X12_isIn : Cond.static yX12_isIn ∈ gtbl := gt7 18 (by decide +kernel) (by decide +kernel)
theorem q_m_MerryDuchyModel_222 : Cond.methodLink "MerryDuchyModel" 222 yX12_begin ∈ gtbl := gt6 192 (by decide +kernel) (by decide +kernel)
theorem q_v_X12_begin : Cond.instanceMethod yX12_begin ∈ gtbl := gt6 194 (by decide +kernel) (by decide +kernel)
theorem q_e_X12_begin : Cond.selects "MerryDuchyModel" yX12_begin yX12_begin ∈ gtbl := gm 56 (by decide +kernel) (by decide +kernel)
theorem q_f_MerryDuchyModel_392 : Cond.fieldLink "MerryDuchyModel" 392 "MerryDuchyModel" "lineMany" "I" ∈ gtbl := gt6 74 (by decide +kernel) (by decide +kernel)
theorem q_m_MerryDuchyModel_380 : Cond.methodLink "MerryDuchyModel" 380 yX12_layAside ∈ gtbl := gt8 100 (by decide +kernel) (by decide +kernel)
theorem q_v_X12_layAside : Cond.instanceMethod yX12_layAside ∈ gtbl := gt8 102 (by decide +kernel) (by decide +kernel)
theorem q_e_X12_layAside : Cond.selects "MerryDuchyModel" yX12_layAside yX12_layAside ∈ gtbl := gm 114 (by decide +kernel) (by decide +kernel)
theorem q_f_MerryDuchyModel_166 : Cond.fieldLink "MerryDuchyModel" 166 "MerryDuchyModel" "written" "[I" ∈ gtbl := gt6 73 (by decide +kernel) (by decide +kernel)
theorem q_f_MerryDuchyModel_98 : Cond.fieldLink "MerryDuchyModel" 98 "MerryDuchyModel" "now" "[I" ∈ gtbl := gt6 42 (by decide +kernel) (by decide +kernel)
theorem q_m_MerryDuchyModel_266 : Cond.methodLink "MerryDuchyModel" 266 yX12_sumOf ∈ gtbl := gt7 88 (by decide +kernel) (by decide +kernel)
theorem q_v_X12_sumOf : Cond.instanceMethod yX12_sumOf ∈ gtbl := gt7 90 (by decide +kernel) (by decide +kernel)
theorem q_e_X12_sumOf : Cond.selects "MerryDuchyModel" yX12_sumOf yX12_sumOf ∈ gtbl := gm 83 (by decide +kernel) (by decide +kernel)
theorem q_f_MerryDuchyModel_404 : Cond.fieldLink "MerryDuchyModel" 404 "MerryDuchyModel" "hasWritten" "Z" ∈ gtbl := gt6 75 (by decide +kernel) (by decide +kernel)
theorem q_m_MerryDuchyModel_407 : Cond.methodLink "MerryDuchyModel" 407 yX12_stay ∈ gtbl := gt8 132 (by decide +kernel) (by decide +kernel)
theorem q_v_X12_stay : Cond.instanceMethod yX12_stay ∈ gtbl := gt8 134 (by decide +kernel) (by decide +kernel)
theorem q_e_X12_stay : Cond.selects "MerryDuchyModel" yX12_stay yX12_stay ∈ gtbl := gm 121 (by decide +kernel) (by decide +kernel)
theorem q_m_MerryDuchyModel_251 : Cond.methodLink "MerryDuchyModel" 251 yX12_isMan ∈ gtbl := gt7 64 (by decide +kernel) (by decide +kernel)
theorem q_v_X12_isMan : Cond.instanceMethod yX12_isMan ∈ gtbl := gt7 66 (by decide +kernel) (by decide +kernel)
theorem q_e_X12_isMan : Cond.selects "MerryDuchyModel" yX12_isMan yX12_isMan ∈ gtbl := gm 77 (by decide +kernel) (by decide +kernel)
theorem q_f_MerryDuchyModel_351 : Cond.fieldLink "MerryDuchyModel" 351 "MerryDuchyModel" "texts" "I" ∈ gtbl := gt6 70 (by decide +kernel) (by decide +kernel)
theorem q_f_MerryDuchyModel_7 : Cond.fieldLink "MerryDuchyModel" 7 "MerryDuchyModel" "tape" "[I" ∈ gtbl := gt6 29 (by decide +kernel) (by decide +kernel)
theorem q_f_MerryDuchyModel_11 : Cond.fieldLink "MerryDuchyModel" 11 "MerryDuchyModel" "taped" "I" ∈ gtbl := gt6 30 (by decide +kernel) (by decide +kernel)
theorem q_f_MerryDuchyModel_101 : Cond.fieldLink "MerryDuchyModel" 101 "MerryDuchyModel" "read" "[I" ∈ gtbl := gt6 43 (by decide +kernel) (by decide +kernel)
theorem q_f_MerryDuchyModel_215 : Cond.fieldLink "MerryDuchyModel" 215 "MerryDuchyModel" "hasWears" "Z" ∈ gtbl := gt6 52 (by decide +kernel) (by decide +kernel)
theorem q_f_MerryDuchyModel_219 : Cond.fieldLink "MerryDuchyModel" 219 "MerryDuchyModel" "hasMends" "Z" ∈ gtbl := gt6 53 (by decide +kernel) (by decide +kernel)
theorem q_f_MerryDuchyModel_113 : Cond.fieldLink "MerryDuchyModel" 113 "MerryDuchyModel" "name" "[J" ∈ gtbl := gt6 47 (by decide +kernel) (by decide +kernel)
theorem q_f_MerryDuchyModel_117 : Cond.fieldLink "MerryDuchyModel" 117 "MerryDuchyModel" "readName" "[J" ∈ gtbl := gt6 48 (by decide +kernel) (by decide +kernel)
theorem q_m_MerryDuchyModel_231 : Cond.methodLink "MerryDuchyModel" 231 yX12_startSo ∈ gtbl := gt7 52 (by decide +kernel) (by decide +kernel)
theorem q_v_X12_startSo : Cond.instanceMethod yX12_startSo ∈ gtbl := gt7 54 (by decide +kernel) (by decide +kernel)
theorem q_e_X12_startSo : Cond.selects "MerryDuchyModel" yX12_startSo yX12_startSo ∈ gtbl := gm 76 (by decide +kernel) (by decide +kernel)
theorem q_f_MerryDuchyModel_234 : Cond.fieldLink "MerryDuchyModel" 234 "MerryDuchyModel" "snapMany" "I" ∈ gtbl := gt6 51 (by decide +kernel) (by decide +kernel)
theorem q_f_MerryDuchyModel_139 : Cond.fieldLink "MerryDuchyModel" 139 "MerryDuchyModel" "groups" "[I" ∈ gtbl := gt6 61 (by decide +kernel) (by decide +kernel)
theorem q_m_MerryDuchyModel_14 : Cond.methodLink "MerryDuchyModel" 14 yX12_come ∈ gtbl := gt6 14 (by decide +kernel) (by decide +kernel)
theorem q_v_X12_come : Cond.instanceMethod yX12_come ∈ gtbl := gt6 16 (by decide +kernel) (by decide +kernel)
theorem q_e_X12_come : Cond.selects "MerryDuchyModel" yX12_come yX12_come ∈ gtbl := gm 55 (by decide +kernel) (by decide +kernel)
theorem q_m_MerryDuchyModel_275 : Cond.methodLink "MerryDuchyModel" 275 yX12_isGood ∈ gtbl := gt7 123 (by decide +kernel) (by decide +kernel)
theorem q_v_X12_isGood : Cond.instanceMethod yX12_isGood ∈ gtbl := gt7 125 (by decide +kernel) (by decide +kernel)
theorem q_e_X12_isGood : Cond.selects "MerryDuchyModel" yX12_isGood yX12_isGood ∈ gtbl := gm 88 (by decide +kernel) (by decide +kernel)
theorem q_f_MerryDuchyModel_104 : Cond.fieldLink "MerryDuchyModel" 104 "MerryDuchyModel" "kept" "[I" ∈ gtbl := gt6 44 (by decide +kernel) (by decide +kernel)
theorem q_f_MerryDuchyModel_120 : Cond.fieldLink "MerryDuchyModel" 120 "MerryDuchyModel" "keptName" "[J" ∈ gtbl := gt6 49 (by decide +kernel) (by decide +kernel)
theorem q_f_MerryDuchyModel_123 : Cond.fieldLink "MerryDuchyModel" 123 "MerryDuchyModel" "isKept" "[Z" ∈ gtbl := gt6 50 (by decide +kernel) (by decide +kernel)
theorem q_m_MerryDuchyModel_93 : Cond.methodLink "MerryDuchyModel" 93 objectInit ∈ gtbl := gt6 27 (by decide +kernel) (by decide +kernel)
theorem q_f_MerryDuchyModel_107 : Cond.fieldLink "MerryDuchyModel" 107 "MerryDuchyModel" "snaps" "[I" ∈ gtbl := gt6 45 (by decide +kernel) (by decide +kernel)
theorem q_f_MerryDuchyModel_110 : Cond.fieldLink "MerryDuchyModel" 110 "MerryDuchyModel" "aside" "[I" ∈ gtbl := gt6 46 (by decide +kernel) (by decide +kernel)
theorem q_a_long : Cond.arrayClass .long ∈ gtbl := gt1 152 (by decide +kernel) (by decide +kernel)
theorem q_f_MerryDuchyModel_127 : Cond.fieldLink "MerryDuchyModel" 127 "MerryDuchyModel" "going" "[I" ∈ gtbl := gt6 54 (by decide +kernel) (by decide +kernel)
theorem q_f_MerryDuchyModel_130 : Cond.fieldLink "MerryDuchyModel" 130 "MerryDuchyModel" "ring" "[I" ∈ gtbl := gt6 55 (by decide +kernel) (by decide +kernel)
theorem q_f_MerryDuchyModel_133 : Cond.fieldLink "MerryDuchyModel" 133 "MerryDuchyModel" "often" "[I" ∈ gtbl := gt6 57 (by decide +kernel) (by decide +kernel)
theorem q_f_MerryDuchyModel_136 : Cond.fieldLink "MerryDuchyModel" 136 "MerryDuchyModel" "planned" "[I" ∈ gtbl := gt6 58 (by decide +kernel) (by decide +kernel)
theorem q_f_MerryDuchyModel_142 : Cond.fieldLink "MerryDuchyModel" 142 "MerryDuchyModel" "apart" "[I" ∈ gtbl := gt6 62 (by decide +kernel) (by decide +kernel)
theorem q_f_MerryDuchyModel_145 : Cond.fieldLink "MerryDuchyModel" 145 "MerryDuchyModel" "telling" "I" ∈ gtbl := gt6 63 (by decide +kernel) (by decide +kernel)
theorem q_f_MerryDuchyModel_148 : Cond.fieldLink "MerryDuchyModel" 148 "MerryDuchyModel" "doneBy" "[I" ∈ gtbl := gt6 64 (by decide +kernel) (by decide +kernel)
theorem q_f_MerryDuchyModel_151 : Cond.fieldLink "MerryDuchyModel" 151 "MerryDuchyModel" "costs" "[I" ∈ gtbl := gt6 65 (by decide +kernel) (by decide +kernel)
theorem q_f_MerryDuchyModel_154 : Cond.fieldLink "MerryDuchyModel" 154 "MerryDuchyModel" "reach" "[Z" ∈ gtbl := gt6 66 (by decide +kernel) (by decide +kernel)
theorem q_f_MerryDuchyModel_157 : Cond.fieldLink "MerryDuchyModel" 157 "MerryDuchyModel" "taxed" "[I" ∈ gtbl := gt6 67 (by decide +kernel) (by decide +kernel)
theorem q_f_MerryDuchyModel_160 : Cond.fieldLink "MerryDuchyModel" 160 "MerryDuchyModel" "text" "[I" ∈ gtbl := gt6 69 (by decide +kernel) (by decide +kernel)
theorem q_f_MerryDuchyModel_163 : Cond.fieldLink "MerryDuchyModel" 163 "MerryDuchyModel" "line" "[I" ∈ gtbl := gt6 72 (by decide +kernel) (by decide +kernel)
theorem q_f_MerryDuchyModel_169 : Cond.fieldLink "MerryDuchyModel" 169 "MerryDuchyModel" "node" "[I" ∈ gtbl := gt6 76 (by decide +kernel) (by decide +kernel)
theorem q_m_MerryDuchyModel_237 : Cond.methodLink "MerryDuchyModel" 237 yX12_least ∈ gtbl := gt7 112 (by decide +kernel) (by decide +kernel)
theorem q_s_X12_least : Cond.static yX12_least ∈ gtbl := gt7 113 (by decide +kernel) (by decide +kernel)
theorem q_m_MerryDuchyModel_311 : Cond.methodLink "MerryDuchyModel" 311 yX12_oneWeek ∈ gtbl := gt7 215 (by decide +kernel) (by decide +kernel)
theorem q_v_X12_oneWeek : Cond.instanceMethod yX12_oneWeek ∈ gtbl := gt7 217 (by decide +kernel) (by decide +kernel)
theorem q_e_X12_oneWeek : Cond.selects "MerryDuchyModel" yX12_oneWeek yX12_oneWeek ∈ gtbl := gm 99 (by decide +kernel) (by decide +kernel)
theorem q_f_MerryDuchyModel_330 : Cond.fieldLink "MerryDuchyModel" 330 "MerryDuchyModel" "hasPlan" "Z" ∈ gtbl := gt6 60 (by decide +kernel) (by decide +kernel)
theorem q_m_MerryDuchyModel_423 : Cond.methodLink "MerryDuchyModel" 423 yX12_readSaid ∈ gtbl := gt8 152 (by decide +kernel) (by decide +kernel)
theorem q_v_X12_readSaid : Cond.instanceMethod yX12_readSaid ∈ gtbl := gt8 154 (by decide +kernel) (by decide +kernel)
theorem q_e_X12_readSaid : Cond.selects "MerryDuchyModel" yX12_readSaid yX12_readSaid ∈ gtbl := gm 124 (by decide +kernel) (by decide +kernel)
theorem q_m_MerryDuchyModel_414 : Cond.methodLink "MerryDuchyModel" 414 yX12_readAnd ∈ gtbl := gt8 148 (by decide +kernel) (by decide +kernel)
theorem q_v_X12_readAnd : Cond.instanceMethod yX12_readAnd ∈ gtbl := gt8 150 (by decide +kernel) (by decide +kernel)
theorem q_e_X12_readAnd : Cond.selects "MerryDuchyModel" yX12_readAnd yX12_readAnd ∈ gtbl := gm 123 (by decide +kernel) (by decide +kernel)
theorem q_m_MerryDuchyModel_86 : Cond.methodLink "MerryDuchyModel" 86 yX12_isSign ∈ gtbl := gt7 48 (by decide +kernel) (by decide +kernel)
theorem q_v_X12_isSign : Cond.instanceMethod yX12_isSign ∈ gtbl := gt7 50 (by decide +kernel) (by decide +kernel)
theorem q_e_X12_isSign : Cond.selects "MerryDuchyModel" yX12_isSign yX12_isSign ∈ gtbl := gm 75 (by decide +kernel) (by decide +kernel)
theorem q_m_MerryDuchyModel_197 : Cond.methodLink "MerryDuchyModel" 197 yX12_isWord ∈ gtbl := gt6 220 (by decide +kernel) (by decide +kernel)
theorem q_v_X12_isWord : Cond.instanceMethod yX12_isWord ∈ gtbl := gt6 222 (by decide +kernel) (by decide +kernel)
theorem q_e_X12_isWord : Cond.selects "MerryDuchyModel" yX12_isWord yX12_isWord ∈ gtbl := gm 61 (by decide +kernel) (by decide +kernel)
theorem q_m_MerryDuchyModel_72 : Cond.methodLink "MerryDuchyModel" 72 yX12_bad ∈ gtbl := gt6 238 (by decide +kernel) (by decide +kernel)
theorem q_v_X12_bad : Cond.instanceMethod yX12_bad ∈ gtbl := gt7 0 (by decide +kernel) (by decide +kernel)
theorem q_e_X12_bad : Cond.selects "MerryDuchyModel" yX12_bad yX12_bad ∈ gtbl := gm 64 (by decide +kernel) (by decide +kernel)
theorem q_m_MerryDuchyModel_281 : Cond.methodLink "MerryDuchyModel" 281 yX12_layRing ∈ gtbl := gt7 143 (by decide +kernel) (by decide +kernel)
theorem q_v_X12_layRing : Cond.instanceMethod yX12_layRing ∈ gtbl := gt7 145 (by decide +kernel) (by decide +kernel)
theorem q_e_X12_layRing : Cond.selects "MerryDuchyModel" yX12_layRing yX12_layRing ∈ gtbl := gm 89 (by decide +kernel) (by decide +kernel)
theorem q_f_MerryDuchyModel_284 : Cond.fieldLink "MerryDuchyModel" 284 "MerryDuchyModel" "ringMany" "I" ∈ gtbl := gt6 56 (by decide +kernel) (by decide +kernel)
theorem q_f_MerryDuchyModel_411 : Cond.fieldLink "MerryDuchyModel" 411 "MerryDuchyModel" "nodes" "I" ∈ gtbl := gt6 77 (by decide +kernel) (by decide +kernel)
theorem q_f_MerryDuchyModel_426 : Cond.fieldLink "MerryDuchyModel" 426 "MerryDuchyModel" "onesMany" "I" ∈ gtbl := gt6 78 (by decide +kernel) (by decide +kernel)
theorem q_f_MerryDuchyModel_429 : Cond.fieldLink "MerryDuchyModel" 429 "MerryDuchyModel" "within" "I" ∈ gtbl := gt6 79 (by decide +kernel) (by decide +kernel)
theorem q_m_MerryDuchyModel_444 : Cond.methodLink "MerryDuchyModel" 444 yX12_readOr ∈ gtbl := gt8 144 (by decide +kernel) (by decide +kernel)
theorem q_v_X12_readOr : Cond.instanceMethod yX12_readOr ∈ gtbl := gt8 146 (by decide +kernel) (by decide +kernel)
theorem q_e_X12_readOr : Cond.selects "MerryDuchyModel" yX12_readOr yX12_readOr ∈ gtbl := gm 122 (by decide +kernel) (by decide +kernel)
theorem q_m_MerryDuchyModel_345 : Cond.methodLink "MerryDuchyModel" 345 yX12_layReach ∈ gtbl := gt8 39 (by decide +kernel) (by decide +kernel)
theorem q_v_X12_layReach : Cond.instanceMethod yX12_layReach ∈ gtbl := gt8 41 (by decide +kernel) (by decide +kernel)
theorem q_e_X12_layReach : Cond.selects "MerryDuchyModel" yX12_layReach yX12_layReach ∈ gtbl := gm 105 (by decide +kernel) (by decide +kernel)
theorem q_f_MerryDuchyModel_348 : Cond.fieldLink "MerryDuchyModel" 348 "MerryDuchyModel" "hasTax" "Z" ∈ gtbl := gt6 68 (by decide +kernel) (by decide +kernel)
theorem q_m_MerryDuchyModel_301 : Cond.methodLink "MerryDuchyModel" 301 yX12_snap ∈ gtbl := gt7 163 (by decide +kernel) (by decide +kernel)
theorem q_v_X12_snap : Cond.instanceMethod yX12_snap ∈ gtbl := gt7 165 (by decide +kernel) (by decide +kernel)
theorem q_e_X12_snap : Cond.selects "MerryDuchyModel" yX12_snap yX12_snap ∈ gtbl := gm 92 (by decide +kernel) (by decide +kernel)
theorem q_m_MerryDuchyModel_314 : Cond.methodLink "MerryDuchyModel" 314 yX12_passWeeks ∈ gtbl := gt7 211 (by decide +kernel) (by decide +kernel)
theorem q_v_X12_passWeeks : Cond.instanceMethod yX12_passWeeks ∈ gtbl := gt7 213 (by decide +kernel) (by decide +kernel)
theorem q_e_X12_passWeeks : Cond.selects "MerryDuchyModel" yX12_passWeeks yX12_passWeeks ∈ gtbl := gm 98 (by decide +kernel) (by decide +kernel)
theorem q_m_MerryDuchy_Book_3 : Cond.methodLink "MerryDuchy$Book" 3 objectInit ∈ gtbl := gt2 177 (by decide +kernel) (by decide +kernel)
theorem q_f_MerryDuchy_Book_11 : Cond.fieldLink "MerryDuchy$Book" 11 "MerryDuchy$Book" "rows" "[I" ∈ gtbl := gt2 178 (by decide +kernel) (by decide +kernel)
theorem q_f_MerryDuchy_Book_15 : Cond.fieldLink "MerryDuchy$Book" 15 "MerryDuchy$Book" "told" "[I" ∈ gtbl := gt2 180 (by decide +kernel) (by decide +kernel)
theorem q_f_MerryDuchy_Book_18 : Cond.fieldLink "MerryDuchy$Book" 18 "MerryDuchy$Book" "lines" "I" ∈ gtbl := gt2 179 (by decide +kernel) (by decide +kernel)
theorem q_f_MerryDuchy_Book_80 : Cond.fieldLink "MerryDuchy$Book" 80 "MerryDuchy$State" "week" "I" ∈ gtbl := gt1 208 (by decide +kernel) (by decide +kernel)
theorem q_m_MerryDuchy_Book_85 : Cond.methodLink "MerryDuchy$Book" 85 yX8_allCredit ∈ gtbl := gt5 95 (by decide +kernel) (by decide +kernel)
theorem q_f_MerryDuchy_Book_89 : Cond.fieldLink "MerryDuchy$Book" 89 "MerryDuchy$Book" "toldRows" "I" ∈ gtbl := gt2 182 (by decide +kernel) (by decide +kernel)
theorem q_f_MerryDuchy_Book_22 : Cond.fieldLink "MerryDuchy$Book" 22 "MerryDuchy$Tokens" "fault" "I" ∈ gtbl := gt1 116 (by decide +kernel) (by decide +kernel)
theorem q_f_MerryDuchy_Book_27 : Cond.fieldLink "MerryDuchy$Book" 27 "MerryDuchy$Tokens" "kind" "I" ∈ gtbl := gt1 99 (by decide +kernel) (by decide +kernel)
theorem q_f_MerryDuchy_Duchy_11 : Cond.fieldLink "MerryDuchy$Duchy" 11 "MerryDuchy$Duchy" "counts" "[I" ∈ gtbl := gt2 9 (by decide +kernel) (by decide +kernel)
theorem q_m_MerryDuchy_Duchy_98 : Cond.methodLink "MerryDuchy$Duchy" 98 yJ7_fill_53178 ∈ gtbl := gt3 59 (by decide +kernel) (by decide +kernel)
theorem q_s_J7_fill_53178 : Cond.static yJ7_fill_53178 ∈ gtbl := gt3 60 (by decide +kernel) (by decide +kernel)
theorem q_f_MerryDuchy_Duchy_25 : Cond.fieldLink "MerryDuchy$Duchy" 25 "MerryDuchy$Duchy" "minds" "[I" ∈ gtbl := gt2 17 (by decide +kernel) (by decide +kernel)
theorem q_f_MerryDuchy_Duchy_45 : Cond.fieldLink "MerryDuchy$Duchy" 45 "MerryDuchy$Duchy" "wears" "I" ∈ gtbl := gt2 21 (by decide +kernel) (by decide +kernel)
theorem q_f_MerryDuchy_Duchy_49 : Cond.fieldLink "MerryDuchy$Duchy" 49 "MerryDuchy$Duchy" "mends" "I" ∈ gtbl := gt2 23 (by decide +kernel) (by decide +kernel)
theorem q_f_MerryDuchy_Duchy_34 : Cond.fieldLink "MerryDuchy$Duchy" 34 "MerryDuchy$Duchy" "state" "LMerryDuchy$State;" ∈ gtbl := gt2 26 (by decide +kernel) (by decide +kernel)
theorem q_m_MerryDuchy_Duchy_104 : Cond.methodLink "MerryDuchy$Duchy" 104 yX8_clear ∈ gtbl := gt3 62 (by decide +kernel) (by decide +kernel)
theorem q_v_X8_clear : Cond.instanceMethod yX8_clear ∈ gtbl := gt3 63 (by decide +kernel) (by decide +kernel)
theorem q_e_X8_clear : Cond.selects "MerryDuchy$State" yX8_clear yX8_clear ∈ gtbl := gt3 64 (by decide +kernel) (by decide +kernel)
theorem q_f_MerryDuchy_Duchy_41 : Cond.fieldLink "MerryDuchy$Duchy" 41 "MerryDuchy$Duchy" "sentence" "LMerryDuchy$Sentence;" ∈ gtbl := gt2 33 (by decide +kernel) (by decide +kernel)
theorem q_m_MerryDuchy_Duchy_105 : Cond.methodLink "MerryDuchy$Duchy" 105 yX7_clear ∈ gtbl := gt3 67 (by decide +kernel) (by decide +kernel)
theorem q_v_X7_clear : Cond.instanceMethod yX7_clear ∈ gtbl := gt3 68 (by decide +kernel) (by decide +kernel)
theorem q_e_X7_clear : Cond.selects "MerryDuchy$Sentence" yX7_clear yX7_clear ∈ gtbl := gt3 69 (by decide +kernel) (by decide +kernel)
theorem q_m_MerryDuchy_Duchy_106 : Cond.methodLink "MerryDuchy$Duchy" 106 yX2_forfeits ∈ gtbl := gt3 146 (by decide +kernel) (by decide +kernel)
theorem q_m_MerryDuchy_Duchy_3 : Cond.methodLink "MerryDuchy$Duchy" 3 objectInit ∈ gtbl := gt1 164 (by decide +kernel) (by decide +kernel)
theorem q_f_MerryDuchy_Duchy_15 : Cond.fieldLink "MerryDuchy$Duchy" 15 "MerryDuchy$Duchy" "names" "[J" ∈ gtbl := gt2 10 (by decide +kernel) (by decide +kernel)
theorem q_f_MerryDuchy_Duchy_19 : Cond.fieldLink "MerryDuchy$Duchy" 19 "MerryDuchy$Duchy" "told" "[I" ∈ gtbl := gt2 12 (by decide +kernel) (by decide +kernel)
theorem q_f_MerryDuchy_Duchy_22 : Cond.fieldLink "MerryDuchy$Duchy" 22 "MerryDuchy$Duchy" "bites" "[I" ∈ gtbl := gt2 16 (by decide +kernel) (by decide +kernel)
theorem q_f_MerryDuchy_Duchy_28 : Cond.fieldLink "MerryDuchy$Duchy" 28 "MerryDuchy$Duchy" "worths" "[I" ∈ gtbl := gt2 18 (by decide +kernel) (by decide +kernel)
theorem q_c_MerryDuchy_Duchy_31 : Cond.classLink "MerryDuchy$Duchy" 31 "MerryDuchy$State" ∈ gtbl := gt1 165 (by decide +kernel) (by decide +kernel)
theorem q_c_MerryDuchy_Duchy_38 : Cond.classLink "MerryDuchy$Duchy" 38 "MerryDuchy$Sentence" ∈ gtbl := gt1 228 (by decide +kernel) (by decide +kernel)
theorem q_i_MerryDuchy_Sentence : Cond.instantiable "MerryDuchy$Sentence" 4 ∈ gtbl := gt1 229 (by decide +kernel) (by decide +kernel)
theorem q_n_MerryDuchy_Sentence : Cond.initialized "MerryDuchy$Sentence" ∈ gtbl := gt1 10 (by decide +kernel) (by decide +kernel)
theorem q_v_X7_init : Cond.instanceMethod yX7_init ∈ gtbl := gt1 231 (by decide +kernel) (by decide +kernel)
theorem q_m_MerryDuchy_Duchy_76 : Cond.methodLink "MerryDuchy$Duchy" 76 yX2_clear ∈ gtbl := gt3 55 (by decide +kernel) (by decide +kernel)
theorem q_v_X2_clear : Cond.instanceMethod yX2_clear ∈ gtbl := gt3 57 (by decide +kernel) (by decide +kernel)
theorem q_e_X2_clear : Cond.selects "MerryDuchy$Duchy" yX2_clear yX2_clear ∈ gtbl := gm 5 (by decide +kernel) (by decide +kernel)
theorem q_f_MerryDuchy_Duchy_79 : Cond.fieldLink "MerryDuchy$Duchy" 79 "MerryDuchy$Tokens" "fault" "I" ∈ gtbl := gt1 119 (by decide +kernel) (by decide +kernel)
theorem q_f_MerryDuchy_Duchy_84 : Cond.fieldLink "MerryDuchy$Duchy" 84 "MerryDuchy$Tokens" "kind" "I" ∈ gtbl := gt1 102 (by decide +kernel) (by decide +kernel)
theorem q_m_MerryDuchy_Duchy_95 : Cond.methodLink "MerryDuchy$Duchy" 95 yX2_fillWhatWasNotTold ∈ gtbl := gt3 142 (by decide +kernel) (by decide +kernel)
theorem q_v_X2_fillWhatWasNotTold : Cond.instanceMethod yX2_fillWhatWasNotTold ∈ gtbl := gt3 144 (by decide +kernel) (by decide +kernel)
theorem q_e_X2_fillWhatWasNotTold : Cond.selects "MerryDuchy$Duchy" yX2_fillWhatWasNotTold yX2_fillWhatWasNotTold ∈ gtbl := gm 16 (by decide +kernel) (by decide +kernel)
theorem q_s_X11_copyRow : Cond.static yX11_copyRow ∈ gtbl := gt3 155 (by decide +kernel) (by decide +kernel)
theorem q_m_MerryDuchy_Duchy_63 : Cond.methodLink "MerryDuchy$Duchy" 63 arraycopyName ∈ gtbl := gt3 161 (by decide +kernel) (by decide +kernel)
theorem q_m_MerryDuchy_Duchy_69 : Cond.methodLink "MerryDuchy$Duchy" 69 yX8_takeAll ∈ gtbl := gt3 162 (by decide +kernel) (by decide +kernel)
theorem q_m_MerryDuchy_Duchy_73 : Cond.methodLink "MerryDuchy$Duchy" 73 yX7_takeAll ∈ gtbl := gt3 167 (by decide +kernel) (by decide +kernel)
theorem q_v_X7_takeAll : Cond.instanceMethod yX7_takeAll ∈ gtbl := gt3 168 (by decide +kernel) (by decide +kernel)
theorem q_e_X7_takeAll : Cond.selects "MerryDuchy$Sentence" yX7_takeAll yX7_takeAll ∈ gtbl := gt3 169 (by decide +kernel) (by decide +kernel)
theorem q_m_MerryDuchy_Fits_3 : Cond.methodLink "MerryDuchy$Fits" 3 objectInit ∈ gtbl := gt2 163 (by decide +kernel) (by decide +kernel)
theorem q_f_MerryDuchy_Fits_9 : Cond.fieldLink "MerryDuchy$Fits" 9 "MerryDuchy$Fits" "done" "[I" ∈ gtbl := gt2 164 (by decide +kernel) (by decide +kernel)
theorem q_f_MerryDuchy_Fits_15 : Cond.fieldLink "MerryDuchy$Fits" 15 "MerryDuchy$Fits" "telling" "I" ∈ gtbl := gt2 165 (by decide +kernel) (by decide +kernel)
theorem q_f_MerryDuchy_Past_26 : Cond.fieldLink "MerryDuchy$Past" 26 "MerryDuchy$Past" "size" "I" ∈ gtbl := gt2 105 (by decide +kernel) (by decide +kernel)
theorem q_m_MerryDuchy_Past_3 : Cond.methodLink "MerryDuchy$Past" 3 objectInit ∈ gtbl := gt2 99 (by decide +kernel) (by decide +kernel)
theorem q_c_MerryDuchy_Past_11 : Cond.classLink "MerryDuchy$Past" 11 "MerryDuchy$State" ∈ gtbl := gt2 100 (by decide +kernel) (by decide +kernel)
theorem q_f_MerryDuchy_Past_13 : Cond.fieldLink "MerryDuchy$Past" 13 "MerryDuchy$Past" "states" "[LMerryDuchy$State;" ∈ gtbl := gt2 103 (by decide +kernel) (by decide +kernel)
theorem q_f_MerryDuchy_Past_18 : Cond.fieldLink "MerryDuchy$Past" 18 "MerryDuchy$Past" "next" "I" ∈ gtbl := gt2 104 (by decide +kernel) (by decide +kernel)
theorem q_m_MerryDuchy_Past_22 : Cond.methodLink "MerryDuchy$Past" 22 yX8_takeAll ∈ gtbl := gt4 13 (by decide +kernel) (by decide +kernel)
theorem q_m_MerryDuchy_Past_29 : Cond.methodLink "MerryDuchy$Past" 29 Lib.Math.min.name ∈ gtbl := gt4 14 (by decide +kernel) (by decide +kernel)
theorem q_m_MerryDuchy_Plan_5 : Cond.methodLink "MerryDuchy$Plan" 5 objectInit ∈ gtbl := gt2 121 (by decide +kernel) (by decide +kernel)
theorem q_f_MerryDuchy_Plan_11 : Cond.fieldLink "MerryDuchy$Plan" 11 "MerryDuchy$Plan" "fewest" "[I" ∈ gtbl := gt2 122 (by decide +kernel) (by decide +kernel)
theorem q_f_MerryDuchy_Plan_15 : Cond.fieldLink "MerryDuchy$Plan" 15 "MerryDuchy$Plan" "pays" "[I" ∈ gtbl := gt2 123 (by decide +kernel) (by decide +kernel)
theorem q_f_MerryDuchy_Plan_18 : Cond.fieldLink "MerryDuchy$Plan" 18 "MerryDuchy$Plan" "times" "[I" ∈ gtbl := gt2 124 (by decide +kernel) (by decide +kernel)
theorem q_f_MerryDuchy_Ring_19 : Cond.fieldLink "MerryDuchy$Ring" 19 "MerryDuchy$Ring" "size" "I" ∈ gtbl := gt2 64 (by decide +kernel) (by decide +kernel)
theorem q_m_MerryDuchy_Ring_3 : Cond.methodLink "MerryDuchy$Ring" 3 objectInit ∈ gtbl := gt2 61 (by decide +kernel) (by decide +kernel)
theorem q_f_MerryDuchy_Ring_9 : Cond.fieldLink "MerryDuchy$Ring" 9 "MerryDuchy$Ring" "men" "[I" ∈ gtbl := gt2 62 (by decide +kernel) (by decide +kernel)
theorem q_f_MerryDuchy_Sentence_18 : Cond.fieldLink "MerryDuchy$Sentence" 18 "MerryDuchy$Sentence" "length" "I" ∈ gtbl := gt1 236 (by decide +kernel) (by decide +kernel)
theorem q_f_MerryDuchy_Sentence_22 : Cond.fieldLink "MerryDuchy$Sentence" 22 "MerryDuchy$Sentence" "ones" "I" ∈ gtbl := gt1 238 (by decide +kernel) (by decide +kernel)
theorem q_m_MerryDuchy_Sentence_5 : Cond.methodLink "MerryDuchy$Sentence" 5 objectInit ∈ gtbl := gt1 233 (by decide +kernel) (by decide +kernel)
theorem q_f_MerryDuchy_Sentence_11 : Cond.fieldLink "MerryDuchy$Sentence" 11 "MerryDuchy$Sentence" "code" "[I" ∈ gtbl := gt1 234 (by decide +kernel) (by decide +kernel)
theorem q_f_MerryDuchy_Sentence_15 : Cond.fieldLink "MerryDuchy$Sentence" 15 "MerryDuchy$Sentence" "stack" "[I" ∈ gtbl := gt1 235 (by decide +kernel) (by decide +kernel)
theorem q_m_MerryDuchy_Sentence_48 : Cond.methodLink "MerryDuchy$Sentence" 48 yX7_readOne ∈ gtbl := gt5 113 (by decide +kernel) (by decide +kernel)
theorem q_v_X7_readOne : Cond.instanceMethod yX7_readOne ∈ gtbl := gt5 115 (by decide +kernel) (by decide +kernel)
theorem q_e_X7_readOne : Cond.selects "MerryDuchy$Sentence" yX7_readOne yX7_readOne ∈ gtbl := gm 50 (by decide +kernel) (by decide +kernel)
theorem q_m_MerryDuchy_Sentence_61 : Cond.methodLink "MerryDuchy$Sentence" 61 yX10_isSign ∈ gtbl := gt5 117 (by decide +kernel) (by decide +kernel)
theorem q_v_X10_isSign : Cond.instanceMethod yX10_isSign ∈ gtbl := gt3 139 (by decide +kernel) (by decide +kernel)
theorem q_e_X10_isSign : Cond.selects "MerryDuchy$Tokens" yX10_isSign yX10_isSign ∈ gtbl := gt3 140 (by decide +kernel) (by decide +kernel)
theorem q_f_MerryDuchy_Sentence_51 : Cond.fieldLink "MerryDuchy$Sentence" 51 "MerryDuchy$Tokens" "key" "I" ∈ gtbl := gt1 105 (by decide +kernel) (by decide +kernel)
theorem q_f_MerryDuchy_Sentence_41 : Cond.fieldLink "MerryDuchy$Sentence" 41 "MerryDuchy$Tokens" "start" "I" ∈ gtbl := gt1 97 (by decide +kernel) (by decide +kernel)
theorem q_m_MerryDuchy_Sentence_44 : Cond.methodLink "MerryDuchy$Sentence" 44 yX10_fails ∈ gtbl := gt5 118 (by decide +kernel) (by decide +kernel)
theorem q_v_X10_fails : Cond.instanceMethod yX10_fails ∈ gtbl := gt3 84 (by decide +kernel) (by decide +kernel)
theorem q_e_X10_fails : Cond.selects "MerryDuchy$Tokens" yX10_fails yX10_fails ∈ gtbl := gt3 85 (by decide +kernel) (by decide +kernel)
theorem q_m_MerryDuchy_Sentence_29 : Cond.methodLink "MerryDuchy$Sentence" 29 yX7_clear ∈ gtbl := gt5 108 (by decide +kernel) (by decide +kernel)
theorem q_m_MerryDuchy_Sentence_32 : Cond.methodLink "MerryDuchy$Sentence" 32 yX7_readCond ∈ gtbl := gt5 109 (by decide +kernel) (by decide +kernel)
theorem q_v_X7_readCond : Cond.instanceMethod yX7_readCond ∈ gtbl := gt5 111 (by decide +kernel) (by decide +kernel)
theorem q_e_X7_readCond : Cond.selects "MerryDuchy$Sentence" yX7_readCond yX7_readCond ∈ gtbl := gm 49 (by decide +kernel) (by decide +kernel)
theorem q_f_MerryDuchy_State_15 : Cond.fieldLink "MerryDuchy$State" 15 "MerryDuchy$State" "credit" "[I" ∈ gtbl := gt1 178 (by decide +kernel) (by decide +kernel)
theorem q_f_MerryDuchy_State_9 : Cond.fieldLink "MerryDuchy$State" 9 "MerryDuchy$State" "pride" "[I" ∈ gtbl := gt1 171 (by decide +kernel) (by decide +kernel)
theorem q_m_MerryDuchy_State_33 : Cond.methodLink "MerryDuchy$State" 33 yJ7_fill_53178 ∈ gtbl := gt3 66 (by decide +kernel) (by decide +kernel)
theorem q_f_MerryDuchy_State_18 : Cond.fieldLink "MerryDuchy$State" 18 "MerryDuchy$State" "paid" "[I" ∈ gtbl := gt1 182 (by decide +kernel) (by decide +kernel)
theorem q_f_MerryDuchy_State_21 : Cond.fieldLink "MerryDuchy$State" 21 "MerryDuchy$State" "stock" "[I" ∈ gtbl := gt1 185 (by decide +kernel) (by decide +kernel)
theorem q_f_MerryDuchy_State_24 : Cond.fieldLink "MerryDuchy$State" 24 "MerryDuchy$State" "debts" "[I" ∈ gtbl := gt1 189 (by decide +kernel) (by decide +kernel)
theorem q_f_MerryDuchy_State_27 : Cond.fieldLink "MerryDuchy$State" 27 "MerryDuchy$State" "times" "[I" ∈ gtbl := gt1 195 (by decide +kernel) (by decide +kernel)
theorem q_f_MerryDuchy_State_30 : Cond.fieldLink "MerryDuchy$State" 30 "MerryDuchy$State" "bought" "[I" ∈ gtbl := gt1 202 (by decide +kernel) (by decide +kernel)
theorem q_f_MerryDuchy_State_39 : Cond.fieldLink "MerryDuchy$State" 39 "MerryDuchy$State" "week" "I" ∈ gtbl := gt1 206 (by decide +kernel) (by decide +kernel)
theorem q_m_MerryDuchy_State_3 : Cond.methodLink "MerryDuchy$State" 3 objectInit ∈ gtbl := gt1 170 (by decide +kernel) (by decide +kernel)
theorem q_f_MerryDuchy_Tax_74 : Cond.fieldLink "MerryDuchy$Tax" 74 "MerryDuchy$Tax" "men" "I" ∈ gtbl := gt2 147 (by decide +kernel) (by decide +kernel)
theorem q_f_MerryDuchy_Tax_9 : Cond.fieldLink "MerryDuchy$Tax" 9 "MerryDuchy$Tax" "costs" "[I" ∈ gtbl := gt2 143 (by decide +kernel) (by decide +kernel)
theorem q_f_MerryDuchy_Tax_15 : Cond.fieldLink "MerryDuchy$Tax" 15 "MerryDuchy$Tax" "can" "[Z" ∈ gtbl := gt2 144 (by decide +kernel) (by decide +kernel)
theorem q_m_MerryDuchy_Tax_44 : Cond.methodLink "MerryDuchy$Tax" 44 yJ7_fill_53178 ∈ gtbl := gt4 206 (by decide +kernel) (by decide +kernel)
theorem q_m_MerryDuchy_Tax_30 : Cond.methodLink "MerryDuchy$Tax" 30 yX2_men ∈ gtbl := gt4 207 (by decide +kernel) (by decide +kernel)
theorem q_m_MerryDuchy_Tax_22 : Cond.methodLink "MerryDuchy$Tax" 22 yX9_fillCosts ∈ gtbl := gt4 202 (by decide +kernel) (by decide +kernel)
theorem q_v_X9_fillCosts : Cond.instanceMethod yX9_fillCosts ∈ gtbl := gt4 204 (by decide +kernel) (by decide +kernel)
theorem q_e_X9_fillCosts : Cond.selects "MerryDuchy$Tax" yX9_fillCosts yX9_fillCosts ∈ gtbl := gm 33 (by decide +kernel) (by decide +kernel)
theorem q_m_MerryDuchy_Tax_26 : Cond.methodLink "MerryDuchy$Tax" 26 yX9_leastGreatest ∈ gtbl := gt4 210 (by decide +kernel) (by decide +kernel)
theorem q_v_X9_leastGreatest : Cond.instanceMethod yX9_leastGreatest ∈ gtbl := gt4 212 (by decide +kernel) (by decide +kernel)
theorem q_e_X9_leastGreatest : Cond.selects "MerryDuchy$Tax" yX9_leastGreatest yX9_leastGreatest ∈ gtbl := gm 34 (by decide +kernel) (by decide +kernel)
theorem q_m_MerryDuchy_Tax_36 : Cond.methodLink "MerryDuchy$Tax" 36 yX9_fillCan ∈ gtbl := gt4 218 (by decide +kernel) (by decide +kernel)
theorem q_v_X9_fillCan : Cond.instanceMethod yX9_fillCan ∈ gtbl := gt4 220 (by decide +kernel) (by decide +kernel)
theorem q_e_X9_fillCan : Cond.selects "MerryDuchy$Tax" yX9_fillCan yX9_fillCan ∈ gtbl := gm 36 (by decide +kernel) (by decide +kernel)
theorem q_m_MerryDuchy_Tax_40 : Cond.methodLink "MerryDuchy$Tax" 40 yX9_choose ∈ gtbl := gt4 226 (by decide +kernel) (by decide +kernel)
theorem q_v_X9_choose : Cond.instanceMethod yX9_choose ∈ gtbl := gt4 228 (by decide +kernel) (by decide +kernel)
theorem q_e_X9_choose : Cond.selects "MerryDuchy$Tax" yX9_choose yX9_choose ∈ gtbl := gm 38 (by decide +kernel) (by decide +kernel)
theorem q_m_MerryDuchy_Tax_3 : Cond.methodLink "MerryDuchy$Tax" 3 objectInit ∈ gtbl := gt2 142 (by decide +kernel) (by decide +kernel)
theorem q_f_MerryDuchy_Tax_19 : Cond.fieldLink "MerryDuchy$Tax" 19 "MerryDuchy$Tax" "chosen" "[I" ∈ gtbl := gt2 145 (by decide +kernel) (by decide +kernel)
theorem q_m_MerryDuchy_Tax_66 : Cond.methodLink "MerryDuchy$Tax" 66 yX9_dearest ∈ gtbl := gt4 214 (by decide +kernel) (by decide +kernel)
theorem q_v_X9_dearest : Cond.instanceMethod yX9_dearest ∈ gtbl := gt4 216 (by decide +kernel) (by decide +kernel)
theorem q_e_X9_dearest : Cond.selects "MerryDuchy$Tax" yX9_dearest yX9_dearest ∈ gtbl := gm 35 (by decide +kernel) (by decide +kernel)
theorem q_m_MerryDuchyLaw_19 : Cond.methodLink "MerryDuchyLaw" 19 yX11_feed ∈ gtbl := gt3 8 (by decide +kernel) (by decide +kernel)
theorem q_v_X11_feed : Cond.instanceMethod yX11_feed ∈ gtbl := gt3 9 (by decide +kernel) (by decide +kernel)
theorem q_e_X11_feed : Cond.selects "MerryDuchy" yX11_feed yX11_feed ∈ gtbl := gt3 10 (by decide +kernel) (by decide +kernel)
theorem q_m_MerryDuchyLaw_23 : Cond.methodLink "MerryDuchyLaw" 23 yX12_feed ∈ gtbl := gt6 10 (by decide +kernel) (by decide +kernel)
theorem q_v_X12_feed : Cond.instanceMethod yX12_feed ∈ gtbl := gt6 11 (by decide +kernel) (by decide +kernel)
theorem q_e_X12_feed : Cond.selects "MerryDuchyModel" yX12_feed yX12_feed ∈ gtbl := gt6 12 (by decide +kernel) (by decide +kernel)
theorem q_m_MerryDuchyLaw_24 : Cond.methodLink "MerryDuchyLaw" 24 yX11_end ∈ gtbl := gt3 16 (by decide +kernel) (by decide +kernel)
theorem q_v_X11_end : Cond.instanceMethod yX11_end ∈ gtbl := gt3 17 (by decide +kernel) (by decide +kernel)
theorem q_e_X11_end : Cond.selects "MerryDuchy" yX11_end yX11_end ∈ gtbl := gt3 18 (by decide +kernel) (by decide +kernel)
theorem q_m_MerryDuchyLaw_28 : Cond.methodLink "MerryDuchyLaw" 28 yX12_end ∈ gtbl := gt6 19 (by decide +kernel) (by decide +kernel)
theorem q_v_X12_end : Cond.instanceMethod yX12_end ∈ gtbl := gt6 20 (by decide +kernel) (by decide +kernel)
theorem q_e_X12_end : Cond.selects "MerryDuchyModel" yX12_end yX12_end ∈ gtbl := gt6 21 (by decide +kernel) (by decide +kernel)
theorem q_m_MerryDuchyLaw_29 : Cond.methodLink "MerryDuchyLaw" 29 yX11_duchy ∈ gtbl := gt3 20 (by decide +kernel) (by decide +kernel)
theorem q_v_X11_duchy : Cond.instanceMethod yX11_duchy ∈ gtbl := gt3 21 (by decide +kernel) (by decide +kernel)
theorem q_e_X11_duchy : Cond.selects "MerryDuchy" yX11_duchy yX11_duchy ∈ gtbl := gt3 22 (by decide +kernel) (by decide +kernel)
theorem q_m_MerryDuchyLaw_33 : Cond.methodLink "MerryDuchyLaw" 33 yX12_duchy ∈ gtbl := gt6 188 (by decide +kernel) (by decide +kernel)
theorem q_v_X12_duchy : Cond.instanceMethod yX12_duchy ∈ gtbl := gt6 189 (by decide +kernel) (by decide +kernel)
theorem q_e_X12_duchy : Cond.selects "MerryDuchyModel" yX12_duchy yX12_duchy ∈ gtbl := gt6 190 (by decide +kernel) (by decide +kernel)
theorem q_m_MerryDuchyLaw_34 : Cond.methodLink "MerryDuchyLaw" 34 yX11_fault ∈ gtbl := gt3 176 (by decide +kernel) (by decide +kernel)
theorem q_v_X11_fault : Cond.instanceMethod yX11_fault ∈ gtbl := gt3 177 (by decide +kernel) (by decide +kernel)
theorem q_e_X11_fault : Cond.selects "MerryDuchy" yX11_fault yX11_fault ∈ gtbl := gt3 178 (by decide +kernel) (by decide +kernel)
theorem q_m_MerryDuchyLaw_37 : Cond.methodLink "MerryDuchyLaw" 37 yX12_fault ∈ gtbl := gt7 56 (by decide +kernel) (by decide +kernel)
theorem q_v_X12_fault : Cond.instanceMethod yX12_fault ∈ gtbl := gt7 57 (by decide +kernel) (by decide +kernel)
theorem q_e_X12_fault : Cond.selects "MerryDuchyModel" yX12_fault yX12_fault ∈ gtbl := gt7 58 (by decide +kernel) (by decide +kernel)
theorem q_m_MerryDuchyLaw_47 : Cond.methodLink "MerryDuchyLaw" 47 yX11_cost ∈ gtbl := gt3 180 (by decide +kernel) (by decide +kernel)
theorem q_v_X11_cost : Cond.instanceMethod yX11_cost ∈ gtbl := gt3 181 (by decide +kernel) (by decide +kernel)
theorem q_e_X11_cost : Cond.selects "MerryDuchy" yX11_cost yX11_cost ∈ gtbl := gt3 182 (by decide +kernel) (by decide +kernel)
theorem q_m_MerryDuchyLaw_50 : Cond.methodLink "MerryDuchyLaw" 50 yX12_cost ∈ gtbl := gt7 92 (by decide +kernel) (by decide +kernel)
theorem q_v_X12_cost : Cond.instanceMethod yX12_cost ∈ gtbl := gt7 93 (by decide +kernel) (by decide +kernel)
theorem q_e_X12_cost : Cond.selects "MerryDuchyModel" yX12_cost yX12_cost ∈ gtbl := gt7 94 (by decide +kernel) (by decide +kernel)
theorem q_m_MerryDuchyLaw_51 : Cond.methodLink "MerryDuchyLaw" 51 yX11_times ∈ gtbl := gt3 196 (by decide +kernel) (by decide +kernel)
theorem q_v_X11_times : Cond.instanceMethod yX11_times ∈ gtbl := gt3 197 (by decide +kernel) (by decide +kernel)
theorem q_e_X11_times : Cond.selects "MerryDuchy" yX11_times yX11_times ∈ gtbl := gt3 198 (by decide +kernel) (by decide +kernel)
theorem q_m_MerryDuchyLaw_54 : Cond.methodLink "MerryDuchyLaw" 54 yX12_times ∈ gtbl := gt7 115 (by decide +kernel) (by decide +kernel)
theorem q_v_X12_times : Cond.instanceMethod yX12_times ∈ gtbl := gt7 116 (by decide +kernel) (by decide +kernel)
theorem q_e_X12_times : Cond.selects "MerryDuchyModel" yX12_times yX12_times ∈ gtbl := gt7 117 (by decide +kernel) (by decide +kernel)
theorem q_m_MerryDuchyLaw_55 : Cond.methodLink "MerryDuchyLaw" 55 yX11_bought ∈ gtbl := gt3 200 (by decide +kernel) (by decide +kernel)
theorem q_v_X11_bought : Cond.instanceMethod yX11_bought ∈ gtbl := gt3 201 (by decide +kernel) (by decide +kernel)
theorem q_e_X11_bought : Cond.selects "MerryDuchy" yX11_bought yX11_bought ∈ gtbl := gt3 202 (by decide +kernel) (by decide +kernel)
theorem q_m_MerryDuchyLaw_58 : Cond.methodLink "MerryDuchyLaw" 58 yX12_bought ∈ gtbl := gt7 119 (by decide +kernel) (by decide +kernel)
theorem q_v_X12_bought : Cond.instanceMethod yX12_bought ∈ gtbl := gt7 120 (by decide +kernel) (by decide +kernel)
theorem q_e_X12_bought : Cond.selects "MerryDuchyModel" yX12_bought yX12_bought ∈ gtbl := gt7 121 (by decide +kernel) (by decide +kernel)
theorem q_m_MerryDuchyLaw_59 : Cond.methodLink "MerryDuchyLaw" 59 yX11_good ∈ gtbl := gt3 204 (by decide +kernel) (by decide +kernel)
theorem q_v_X11_good : Cond.instanceMethod yX11_good ∈ gtbl := gt3 205 (by decide +kernel) (by decide +kernel)
theorem q_e_X11_good : Cond.selects "MerryDuchy" yX11_good yX11_good ∈ gtbl := gt3 206 (by decide +kernel) (by decide +kernel)
theorem q_m_MerryDuchyLaw_62 : Cond.methodLink "MerryDuchyLaw" 62 yX12_good ∈ gtbl := gt7 127 (by decide +kernel) (by decide +kernel)
theorem q_v_X12_good : Cond.instanceMethod yX12_good ∈ gtbl := gt7 128 (by decide +kernel) (by decide +kernel)
theorem q_e_X12_good : Cond.selects "MerryDuchyModel" yX12_good yX12_good ∈ gtbl := gt7 129 (by decide +kernel) (by decide +kernel)
theorem q_m_MerryDuchyLaw_63 : Cond.methodLink "MerryDuchyLaw" 63 yX11_owes ∈ gtbl := gt3 208 (by decide +kernel) (by decide +kernel)
theorem q_v_X11_owes : Cond.instanceMethod yX11_owes ∈ gtbl := gt3 209 (by decide +kernel) (by decide +kernel)
theorem q_e_X11_owes : Cond.selects "MerryDuchy" yX11_owes yX11_owes ∈ gtbl := gt3 210 (by decide +kernel) (by decide +kernel)
theorem q_m_MerryDuchyLaw_66 : Cond.methodLink "MerryDuchyLaw" 66 yX12_owes ∈ gtbl := gt7 131 (by decide +kernel) (by decide +kernel)
theorem q_v_X12_owes : Cond.instanceMethod yX12_owes ∈ gtbl := gt7 132 (by decide +kernel) (by decide +kernel)
theorem q_e_X12_owes : Cond.selects "MerryDuchyModel" yX12_owes yX12_owes ∈ gtbl := gt7 133 (by decide +kernel) (by decide +kernel)
theorem q_m_MerryDuchyLaw_67 : Cond.methodLink "MerryDuchyLaw" 67 yX11_now ∈ gtbl := gt3 212 (by decide +kernel) (by decide +kernel)
theorem q_v_X11_now : Cond.instanceMethod yX11_now ∈ gtbl := gt3 213 (by decide +kernel) (by decide +kernel)
theorem q_e_X11_now : Cond.selects "MerryDuchy" yX11_now yX11_now ∈ gtbl := gt3 214 (by decide +kernel) (by decide +kernel)
theorem q_m_MerryDuchyLaw_71 : Cond.methodLink "MerryDuchyLaw" 71 yX12_now ∈ gtbl := gt7 135 (by decide +kernel) (by decide +kernel)
theorem q_v_X12_now : Cond.instanceMethod yX12_now ∈ gtbl := gt7 136 (by decide +kernel) (by decide +kernel)
theorem q_e_X12_now : Cond.selects "MerryDuchyModel" yX12_now yX12_now ∈ gtbl := gt7 137 (by decide +kernel) (by decide +kernel)
theorem q_m_MerryDuchyLaw_72 : Cond.methodLink "MerryDuchyLaw" 72 yX11_forfeit ∈ gtbl := gt3 224 (by decide +kernel) (by decide +kernel)
theorem q_v_X11_forfeit : Cond.instanceMethod yX11_forfeit ∈ gtbl := gt3 225 (by decide +kernel) (by decide +kernel)
theorem q_e_X11_forfeit : Cond.selects "MerryDuchy" yX11_forfeit yX11_forfeit ∈ gtbl := gt3 226 (by decide +kernel) (by decide +kernel)
theorem q_m_MerryDuchyLaw_75 : Cond.methodLink "MerryDuchyLaw" 75 yX12_forfeit ∈ gtbl := gt7 155 (by decide +kernel) (by decide +kernel)
theorem q_v_X12_forfeit : Cond.instanceMethod yX12_forfeit ∈ gtbl := gt7 156 (by decide +kernel) (by decide +kernel)
theorem q_e_X12_forfeit : Cond.selects "MerryDuchyModel" yX12_forfeit yX12_forfeit ∈ gtbl := gt7 157 (by decide +kernel) (by decide +kernel)
theorem q_m_MerryDuchyLaw_76 : Cond.methodLink "MerryDuchyLaw" 76 yX11_buy ∈ gtbl := gt4 37 (by decide +kernel) (by decide +kernel)
theorem q_v_X11_buy : Cond.instanceMethod yX11_buy ∈ gtbl := gt4 38 (by decide +kernel) (by decide +kernel)
theorem q_e_X11_buy : Cond.selects "MerryDuchy" yX11_buy yX11_buy ∈ gtbl := gt4 39 (by decide +kernel) (by decide +kernel)
theorem q_m_MerryDuchyLaw_79 : Cond.methodLink "MerryDuchyLaw" 79 yX12_buy ∈ gtbl := gt7 171 (by decide +kernel) (by decide +kernel)
theorem q_v_X12_buy : Cond.instanceMethod yX12_buy ∈ gtbl := gt7 172 (by decide +kernel) (by decide +kernel)
theorem q_e_X12_buy : Cond.selects "MerryDuchyModel" yX12_buy yX12_buy ∈ gtbl := gt7 173 (by decide +kernel) (by decide +kernel)
theorem q_m_MerryDuchyLaw_80 : Cond.methodLink "MerryDuchyLaw" 80 yX11_lend ∈ gtbl := gt4 45 (by decide +kernel) (by decide +kernel)
theorem q_v_X11_lend : Cond.instanceMethod yX11_lend ∈ gtbl := gt4 46 (by decide +kernel) (by decide +kernel)
theorem q_e_X11_lend : Cond.selects "MerryDuchy" yX11_lend yX11_lend ∈ gtbl := gt4 47 (by decide +kernel) (by decide +kernel)
theorem q_m_MerryDuchyLaw_84 : Cond.methodLink "MerryDuchyLaw" 84 yX12_lend ∈ gtbl := gt7 191 (by decide +kernel) (by decide +kernel)
theorem q_v_X12_lend : Cond.instanceMethod yX12_lend ∈ gtbl := gt7 192 (by decide +kernel) (by decide +kernel)
theorem q_e_X12_lend : Cond.selects "MerryDuchyModel" yX12_lend yX12_lend ∈ gtbl := gt7 193 (by decide +kernel) (by decide +kernel)
theorem q_m_MerryDuchyLaw_85 : Cond.methodLink "MerryDuchyLaw" 85 yX11_repay ∈ gtbl := gt4 53 (by decide +kernel) (by decide +kernel)
theorem q_v_X11_repay : Cond.instanceMethod yX11_repay ∈ gtbl := gt4 54 (by decide +kernel) (by decide +kernel)
theorem q_e_X11_repay : Cond.selects "MerryDuchy" yX11_repay yX11_repay ∈ gtbl := gt4 55 (by decide +kernel) (by decide +kernel)
theorem q_m_MerryDuchyLaw_88 : Cond.methodLink "MerryDuchyLaw" 88 yX12_repay ∈ gtbl := gt7 195 (by decide +kernel) (by decide +kernel)
theorem q_v_X12_repay : Cond.instanceMethod yX12_repay ∈ gtbl := gt7 196 (by decide +kernel) (by decide +kernel)
theorem q_e_X12_repay : Cond.selects "MerryDuchyModel" yX12_repay yX12_repay ∈ gtbl := gt7 197 (by decide +kernel) (by decide +kernel)
theorem q_m_MerryDuchyLaw_89 : Cond.methodLink "MerryDuchyLaw" 89 yX11_strike ∈ gtbl := gt4 57 (by decide +kernel) (by decide +kernel)
theorem q_v_X11_strike : Cond.instanceMethod yX11_strike ∈ gtbl := gt4 58 (by decide +kernel) (by decide +kernel)
theorem q_e_X11_strike : Cond.selects "MerryDuchy" yX11_strike yX11_strike ∈ gtbl := gt4 59 (by decide +kernel) (by decide +kernel)
theorem q_m_MerryDuchyLaw_92 : Cond.methodLink "MerryDuchyLaw" 92 yX12_strike ∈ gtbl := gt7 199 (by decide +kernel) (by decide +kernel)
theorem q_v_X12_strike : Cond.instanceMethod yX12_strike ∈ gtbl := gt7 200 (by decide +kernel) (by decide +kernel)
theorem q_e_X12_strike : Cond.selects "MerryDuchyModel" yX12_strike yX12_strike ∈ gtbl := gt7 201 (by decide +kernel) (by decide +kernel)
theorem q_m_MerryDuchyLaw_93 : Cond.methodLink "MerryDuchyLaw" 93 yX11_weeks ∈ gtbl := gt4 61 (by decide +kernel) (by decide +kernel)
theorem q_v_X11_weeks : Cond.instanceMethod yX11_weeks ∈ gtbl := gt4 62 (by decide +kernel) (by decide +kernel)
theorem q_e_X11_weeks : Cond.selects "MerryDuchy" yX11_weeks yX11_weeks ∈ gtbl := gt4 63 (by decide +kernel) (by decide +kernel)
theorem q_m_MerryDuchyLaw_96 : Cond.methodLink "MerryDuchyLaw" 96 yX12_weeks ∈ gtbl := gt7 207 (by decide +kernel) (by decide +kernel)
theorem q_v_X12_weeks : Cond.instanceMethod yX12_weeks ∈ gtbl := gt7 208 (by decide +kernel) (by decide +kernel)
theorem q_e_X12_weeks : Cond.selects "MerryDuchyModel" yX12_weeks yX12_weeks ∈ gtbl := gt7 209 (by decide +kernel) (by decide +kernel)
theorem q_m_MerryDuchyLaw_97 : Cond.methodLink "MerryDuchyLaw" 97 yX11_undo ∈ gtbl := gt4 68 (by decide +kernel) (by decide +kernel)
theorem q_v_X11_undo : Cond.instanceMethod yX11_undo ∈ gtbl := gt4 69 (by decide +kernel) (by decide +kernel)
theorem q_e_X11_undo : Cond.selects "MerryDuchy" yX11_undo yX11_undo ∈ gtbl := gt4 70 (by decide +kernel) (by decide +kernel)
theorem q_m_MerryDuchyLaw_100 : Cond.methodLink "MerryDuchyLaw" 100 yX12_undo ∈ gtbl := gt7 203 (by decide +kernel) (by decide +kernel)
theorem q_v_X12_undo : Cond.instanceMethod yX12_undo ∈ gtbl := gt7 204 (by decide +kernel) (by decide +kernel)
theorem q_e_X12_undo : Cond.selects "MerryDuchyModel" yX12_undo yX12_undo ∈ gtbl := gt7 205 (by decide +kernel) (by decide +kernel)
theorem q_m_MerryDuchyLaw_101 : Cond.methodLink "MerryDuchyLaw" 101 yX11_ring ∈ gtbl := gt4 76 (by decide +kernel) (by decide +kernel)
theorem q_v_X11_ring : Cond.instanceMethod yX11_ring ∈ gtbl := gt4 77 (by decide +kernel) (by decide +kernel)
theorem q_e_X11_ring : Cond.selects "MerryDuchy" yX11_ring yX11_ring ∈ gtbl := gt4 78 (by decide +kernel) (by decide +kernel)
theorem q_m_MerryDuchyLaw_104 : Cond.methodLink "MerryDuchyLaw" 104 yX12_ring ∈ gtbl := gt7 139 (by decide +kernel) (by decide +kernel)
theorem q_v_X12_ring : Cond.instanceMethod yX12_ring ∈ gtbl := gt7 140 (by decide +kernel) (by decide +kernel)
theorem q_e_X12_ring : Cond.selects "MerryDuchyModel" yX12_ring yX12_ring ∈ gtbl := gt7 141 (by decide +kernel) (by decide +kernel)
theorem q_m_MerryDuchyLaw_105 : Cond.methodLink "MerryDuchyLaw" 105 yX11_ringAt ∈ gtbl := gt4 87 (by decide +kernel) (by decide +kernel)
theorem q_v_X11_ringAt : Cond.instanceMethod yX11_ringAt ∈ gtbl := gt4 88 (by decide +kernel) (by decide +kernel)
theorem q_e_X11_ringAt : Cond.selects "MerryDuchy" yX11_ringAt yX11_ringAt ∈ gtbl := gt4 89 (by decide +kernel) (by decide +kernel)
theorem q_m_MerryDuchyLaw_108 : Cond.methodLink "MerryDuchyLaw" 108 yX12_ringAt ∈ gtbl := gt7 151 (by decide +kernel) (by decide +kernel)
theorem q_v_X12_ringAt : Cond.instanceMethod yX12_ringAt ∈ gtbl := gt7 152 (by decide +kernel) (by decide +kernel)
theorem q_e_X12_ringAt : Cond.selects "MerryDuchyModel" yX12_ringAt yX12_ringAt ∈ gtbl := gt7 153 (by decide +kernel) (by decide +kernel)
theorem q_m_MerryDuchyLaw_109 : Cond.methodLink "MerryDuchyLaw" 109 yX11_plan ∈ gtbl := gt4 91 (by decide +kernel) (by decide +kernel)
theorem q_v_X11_plan : Cond.instanceMethod yX11_plan ∈ gtbl := gt4 92 (by decide +kernel) (by decide +kernel)
theorem q_e_X11_plan : Cond.selects "MerryDuchy" yX11_plan yX11_plan ∈ gtbl := gt4 93 (by decide +kernel) (by decide +kernel)
theorem q_m_MerryDuchyLaw_112 : Cond.methodLink "MerryDuchyLaw" 112 yX12_plan ∈ gtbl := gt7 219 (by decide +kernel) (by decide +kernel)
theorem q_v_X12_plan : Cond.instanceMethod yX12_plan ∈ gtbl := gt7 220 (by decide +kernel) (by decide +kernel)
theorem q_e_X12_plan : Cond.selects "MerryDuchyModel" yX12_plan yX12_plan ∈ gtbl := gt7 221 (by decide +kernel) (by decide +kernel)
theorem q_m_MerryDuchyLaw_113 : Cond.methodLink "MerryDuchyLaw" 113 yX11_planned ∈ gtbl := gt4 114 (by decide +kernel) (by decide +kernel)
theorem q_v_X11_planned : Cond.instanceMethod yX11_planned ∈ gtbl := gt4 115 (by decide +kernel) (by decide +kernel)
theorem q_e_X11_planned : Cond.selects "MerryDuchy" yX11_planned yX11_planned ∈ gtbl := gt4 116 (by decide +kernel) (by decide +kernel)
theorem q_m_MerryDuchyLaw_116 : Cond.methodLink "MerryDuchyLaw" 116 yX12_planned ∈ gtbl := gt7 236 (by decide +kernel) (by decide +kernel)
theorem q_v_X12_planned : Cond.instanceMethod yX12_planned ∈ gtbl := gt7 237 (by decide +kernel) (by decide +kernel)
theorem q_e_X12_planned : Cond.selects "MerryDuchyModel" yX12_planned yX12_planned ∈ gtbl := gt7 238 (by decide +kernel) (by decide +kernel)
theorem q_m_MerryDuchyLaw_117 : Cond.methodLink "MerryDuchyLaw" 117 yX11_lasts ∈ gtbl := gt4 118 (by decide +kernel) (by decide +kernel)
theorem q_v_X11_lasts : Cond.instanceMethod yX11_lasts ∈ gtbl := gt4 119 (by decide +kernel) (by decide +kernel)
theorem q_e_X11_lasts : Cond.selects "MerryDuchy" yX11_lasts yX11_lasts ∈ gtbl := gt4 120 (by decide +kernel) (by decide +kernel)
theorem q_m_MerryDuchyLaw_120 : Cond.methodLink "MerryDuchyLaw" 120 yX12_lasts ∈ gtbl := gt8 0 (by decide +kernel) (by decide +kernel)
theorem q_v_X12_lasts : Cond.instanceMethod yX12_lasts ∈ gtbl := gt8 1 (by decide +kernel) (by decide +kernel)
theorem q_e_X12_lasts : Cond.selects "MerryDuchyModel" yX12_lasts yX12_lasts ∈ gtbl := gt8 2 (by decide +kernel) (by decide +kernel)
theorem q_m_MerryDuchyLaw_121 : Cond.methodLink "MerryDuchyLaw" 121 yX11_worth ∈ gtbl := gt4 127 (by decide +kernel) (by decide +kernel)
theorem q_v_X11_worth : Cond.instanceMethod yX11_worth ∈ gtbl := gt4 128 (by decide +kernel) (by decide +kernel)
theorem q_e_X11_worth : Cond.selects "MerryDuchy" yX11_worth yX11_worth ∈ gtbl := gt4 129 (by decide +kernel) (by decide +kernel)
theorem q_m_MerryDuchyLaw_124 : Cond.methodLink "MerryDuchyLaw" 124 yX12_worth ∈ gtbl := gt8 8 (by decide +kernel) (by decide +kernel)
theorem q_v_X12_worth : Cond.instanceMethod yX12_worth ∈ gtbl := gt8 9 (by decide +kernel) (by decide +kernel)
theorem q_e_X12_worth : Cond.selects "MerryDuchyModel" yX12_worth yX12_worth ∈ gtbl := gt8 10 (by decide +kernel) (by decide +kernel)
theorem q_m_MerryDuchyLaw_125 : Cond.methodLink "MerryDuchyLaw" 125 yX11_even ∈ gtbl := gt4 132 (by decide +kernel) (by decide +kernel)
theorem q_v_X11_even : Cond.instanceMethod yX11_even ∈ gtbl := gt4 133 (by decide +kernel) (by decide +kernel)
theorem q_e_X11_even : Cond.selects "MerryDuchy" yX11_even yX11_even ∈ gtbl := gt4 134 (by decide +kernel) (by decide +kernel)
theorem q_m_MerryDuchyLaw_128 : Cond.methodLink "MerryDuchyLaw" 128 yX12_even ∈ gtbl := gt8 12 (by decide +kernel) (by decide +kernel)
theorem q_v_X12_even : Cond.instanceMethod yX12_even ∈ gtbl := gt8 13 (by decide +kernel) (by decide +kernel)
theorem q_e_X12_even : Cond.selects "MerryDuchyModel" yX12_even yX12_even ∈ gtbl := gt8 14 (by decide +kernel) (by decide +kernel)
theorem q_m_MerryDuchyLaw_129 : Cond.methodLink "MerryDuchyLaw" 129 yX11_fits ∈ gtbl := gt4 152 (by decide +kernel) (by decide +kernel)
theorem q_v_X11_fits : Cond.instanceMethod yX11_fits ∈ gtbl := gt4 153 (by decide +kernel) (by decide +kernel)
theorem q_e_X11_fits : Cond.selects "MerryDuchy" yX11_fits yX11_fits ∈ gtbl := gt4 154 (by decide +kernel) (by decide +kernel)
theorem q_m_MerryDuchyLaw_132 : Cond.methodLink "MerryDuchyLaw" 132 yX12_fits ∈ gtbl := gt8 19 (by decide +kernel) (by decide +kernel)
theorem q_v_X12_fits : Cond.instanceMethod yX12_fits ∈ gtbl := gt8 20 (by decide +kernel) (by decide +kernel)
theorem q_e_X12_fits : Cond.selects "MerryDuchyModel" yX12_fits yX12_fits ∈ gtbl := gt8 21 (by decide +kernel) (by decide +kernel)
theorem q_m_MerryDuchyLaw_133 : Cond.methodLink "MerryDuchyLaw" 133 yX11_tells ∈ gtbl := gt4 182 (by decide +kernel) (by decide +kernel)
theorem q_v_X11_tells : Cond.instanceMethod yX11_tells ∈ gtbl := gt4 183 (by decide +kernel) (by decide +kernel)
theorem q_e_X11_tells : Cond.selects "MerryDuchy" yX11_tells yX11_tells ∈ gtbl := gt4 184 (by decide +kernel) (by decide +kernel)
theorem q_m_MerryDuchyLaw_136 : Cond.methodLink "MerryDuchyLaw" 136 yX12_tells ∈ gtbl := gt8 27 (by decide +kernel) (by decide +kernel)
theorem q_v_X12_tells : Cond.instanceMethod yX12_tells ∈ gtbl := gt8 28 (by decide +kernel) (by decide +kernel)
theorem q_e_X12_tells : Cond.selects "MerryDuchyModel" yX12_tells yX12_tells ∈ gtbl := gt8 29 (by decide +kernel) (by decide +kernel)
theorem q_m_MerryDuchyLaw_137 : Cond.methodLink "MerryDuchyLaw" 137 yX11_share ∈ gtbl := gt4 186 (by decide +kernel) (by decide +kernel)
theorem q_v_X11_share : Cond.instanceMethod yX11_share ∈ gtbl := gt4 187 (by decide +kernel) (by decide +kernel)
theorem q_e_X11_share : Cond.selects "MerryDuchy" yX11_share yX11_share ∈ gtbl := gt4 188 (by decide +kernel) (by decide +kernel)
theorem q_m_MerryDuchyLaw_140 : Cond.methodLink "MerryDuchyLaw" 140 yX12_share ∈ gtbl := gt8 31 (by decide +kernel) (by decide +kernel)
theorem q_v_X12_share : Cond.instanceMethod yX12_share ∈ gtbl := gt8 32 (by decide +kernel) (by decide +kernel)
theorem q_e_X12_share : Cond.selects "MerryDuchyModel" yX12_share yX12_share ∈ gtbl := gt8 33 (by decide +kernel) (by decide +kernel)
theorem q_m_MerryDuchyLaw_141 : Cond.methodLink "MerryDuchyLaw" 141 yX11_tax ∈ gtbl := gt4 194 (by decide +kernel) (by decide +kernel)
theorem q_v_X11_tax : Cond.instanceMethod yX11_tax ∈ gtbl := gt4 195 (by decide +kernel) (by decide +kernel)
theorem q_e_X11_tax : Cond.selects "MerryDuchy" yX11_tax yX11_tax ∈ gtbl := gt4 196 (by decide +kernel) (by decide +kernel)
theorem q_m_MerryDuchyLaw_144 : Cond.methodLink "MerryDuchyLaw" 144 yX12_tax ∈ gtbl := gt8 35 (by decide +kernel) (by decide +kernel)
theorem q_v_X12_tax : Cond.instanceMethod yX12_tax ∈ gtbl := gt8 36 (by decide +kernel) (by decide +kernel)
theorem q_e_X12_tax : Cond.selects "MerryDuchyModel" yX12_tax yX12_tax ∈ gtbl := gt8 37 (by decide +kernel) (by decide +kernel)
theorem q_m_MerryDuchyLaw_145 : Cond.methodLink "MerryDuchyLaw" 145 yX11_taxOf ∈ gtbl := gt4 230 (by decide +kernel) (by decide +kernel)
theorem q_v_X11_taxOf : Cond.instanceMethod yX11_taxOf ∈ gtbl := gt4 231 (by decide +kernel) (by decide +kernel)
theorem q_e_X11_taxOf : Cond.selects "MerryDuchy" yX11_taxOf yX11_taxOf ∈ gtbl := gt4 232 (by decide +kernel) (by decide +kernel)
theorem q_m_MerryDuchyLaw_148 : Cond.methodLink "MerryDuchyLaw" 148 yX12_taxOf ∈ gtbl := gt8 47 (by decide +kernel) (by decide +kernel)
theorem q_v_X12_taxOf : Cond.instanceMethod yX12_taxOf ∈ gtbl := gt8 48 (by decide +kernel) (by decide +kernel)
theorem q_e_X12_taxOf : Cond.selects "MerryDuchyModel" yX12_taxOf yX12_taxOf ∈ gtbl := gt8 49 (by decide +kernel) (by decide +kernel)
theorem q_m_MerryDuchyLaw_149 : Cond.methodLink "MerryDuchyLaw" 149 yX11_proudest ∈ gtbl := gt4 234 (by decide +kernel) (by decide +kernel)
theorem q_v_X11_proudest : Cond.instanceMethod yX11_proudest ∈ gtbl := gt4 235 (by decide +kernel) (by decide +kernel)
theorem q_e_X11_proudest : Cond.selects "MerryDuchy" yX11_proudest yX11_proudest ∈ gtbl := gt4 236 (by decide +kernel) (by decide +kernel)
theorem q_m_MerryDuchyLaw_152 : Cond.methodLink "MerryDuchyLaw" 152 yX12_proudest ∈ gtbl := gt8 51 (by decide +kernel) (by decide +kernel)
theorem q_v_X12_proudest : Cond.instanceMethod yX12_proudest ∈ gtbl := gt8 52 (by decide +kernel) (by decide +kernel)
theorem q_e_X12_proudest : Cond.selects "MerryDuchyModel" yX12_proudest yX12_proudest ∈ gtbl := gt8 53 (by decide +kernel) (by decide +kernel)
theorem q_m_MerryDuchyLaw_153 : Cond.methodLink "MerryDuchyLaw" 153 yX11_list ∈ gtbl := gt4 238 (by decide +kernel) (by decide +kernel)
theorem q_v_X11_list : Cond.instanceMethod yX11_list ∈ gtbl := gt4 239 (by decide +kernel) (by decide +kernel)
theorem q_e_X11_list : Cond.selects "MerryDuchy" yX11_list yX11_list ∈ gtbl := gt5 0 (by decide +kernel) (by decide +kernel)
theorem q_m_MerryDuchyLaw_156 : Cond.methodLink "MerryDuchyLaw" 156 yX12_list ∈ gtbl := gt8 55 (by decide +kernel) (by decide +kernel)
theorem q_v_X12_list : Cond.instanceMethod yX12_list ∈ gtbl := gt8 56 (by decide +kernel) (by decide +kernel)
theorem q_e_X12_list : Cond.selects "MerryDuchyModel" yX12_list yX12_list ∈ gtbl := gt8 57 (by decide +kernel) (by decide +kernel)
theorem q_m_MerryDuchyLaw_157 : Cond.methodLink "MerryDuchyLaw" 157 yX11_byteAt ∈ gtbl := gt5 28 (by decide +kernel) (by decide +kernel)
theorem q_v_X11_byteAt : Cond.instanceMethod yX11_byteAt ∈ gtbl := gt5 29 (by decide +kernel) (by decide +kernel)
theorem q_e_X11_byteAt : Cond.selects "MerryDuchy" yX11_byteAt yX11_byteAt ∈ gtbl := gt5 30 (by decide +kernel) (by decide +kernel)
theorem q_m_MerryDuchyLaw_160 : Cond.methodLink "MerryDuchyLaw" 160 yX12_byteAt ∈ gtbl := gt8 75 (by decide +kernel) (by decide +kernel)
theorem q_v_X12_byteAt : Cond.instanceMethod yX12_byteAt ∈ gtbl := gt8 76 (by decide +kernel) (by decide +kernel)
theorem q_e_X12_byteAt : Cond.selects "MerryDuchyModel" yX12_byteAt yX12_byteAt ∈ gtbl := gt8 77 (by decide +kernel) (by decide +kernel)
theorem q_m_MerryDuchyLaw_161 : Cond.methodLink "MerryDuchyLaw" 161 yX11_drawn ∈ gtbl := gt5 32 (by decide +kernel) (by decide +kernel)
theorem q_v_X11_drawn : Cond.instanceMethod yX11_drawn ∈ gtbl := gt5 33 (by decide +kernel) (by decide +kernel)
theorem q_e_X11_drawn : Cond.selects "MerryDuchy" yX11_drawn yX11_drawn ∈ gtbl := gt5 34 (by decide +kernel) (by decide +kernel)
theorem q_m_MerryDuchyLaw_164 : Cond.methodLink "MerryDuchyLaw" 164 yX12_drawn ∈ gtbl := gt8 79 (by decide +kernel) (by decide +kernel)
theorem q_v_X12_drawn : Cond.instanceMethod yX12_drawn ∈ gtbl := gt8 80 (by decide +kernel) (by decide +kernel)
theorem q_e_X12_drawn : Cond.selects "MerryDuchyModel" yX12_drawn yX12_drawn ∈ gtbl := gt8 81 (by decide +kernel) (by decide +kernel)
theorem q_m_MerryDuchyLaw_165 : Cond.methodLink "MerryDuchyLaw" 165 yX11_odds ∈ gtbl := gt5 59 (by decide +kernel) (by decide +kernel)
theorem q_v_X11_odds : Cond.instanceMethod yX11_odds ∈ gtbl := gt5 60 (by decide +kernel) (by decide +kernel)
theorem q_e_X11_odds : Cond.selects "MerryDuchy" yX11_odds yX11_odds ∈ gtbl := gt5 61 (by decide +kernel) (by decide +kernel)
theorem q_m_MerryDuchyLaw_168 : Cond.methodLink "MerryDuchyLaw" 168 yX12_odds ∈ gtbl := gt8 96 (by decide +kernel) (by decide +kernel)
theorem q_v_X12_odds : Cond.instanceMethod yX12_odds ∈ gtbl := gt8 97 (by decide +kernel) (by decide +kernel)
theorem q_e_X12_odds : Cond.selects "MerryDuchyModel" yX12_odds yX12_odds ∈ gtbl := gt8 98 (by decide +kernel) (by decide +kernel)
theorem q_m_MerryDuchyLaw_169 : Cond.methodLink "MerryDuchyLaw" 169 yX11_book ∈ gtbl := gt5 64 (by decide +kernel) (by decide +kernel)
theorem q_v_X11_book : Cond.instanceMethod yX11_book ∈ gtbl := gt5 65 (by decide +kernel) (by decide +kernel)
theorem q_e_X11_book : Cond.selects "MerryDuchy" yX11_book yX11_book ∈ gtbl := gt5 66 (by decide +kernel) (by decide +kernel)
theorem q_m_MerryDuchyLaw_172 : Cond.methodLink "MerryDuchyLaw" 172 yX12_book ∈ gtbl := gt8 108 (by decide +kernel) (by decide +kernel)
theorem q_v_X12_book : Cond.instanceMethod yX12_book ∈ gtbl := gt8 109 (by decide +kernel) (by decide +kernel)
theorem q_e_X12_book : Cond.selects "MerryDuchyModel" yX12_book yX12_book ∈ gtbl := gt8 110 (by decide +kernel) (by decide +kernel)
theorem q_m_MerryDuchyLaw_173 : Cond.methodLink "MerryDuchyLaw" 173 yX11_told ∈ gtbl := gt5 96 (by decide +kernel) (by decide +kernel)
theorem q_v_X11_told : Cond.instanceMethod yX11_told ∈ gtbl := gt5 97 (by decide +kernel) (by decide +kernel)
theorem q_e_X11_told : Cond.selects "MerryDuchy" yX11_told yX11_told ∈ gtbl := gt5 98 (by decide +kernel) (by decide +kernel)
theorem q_m_MerryDuchyLaw_176 : Cond.methodLink "MerryDuchyLaw" 176 yX12_told ∈ gtbl := gt8 136 (by decide +kernel) (by decide +kernel)
theorem q_v_X12_told : Cond.instanceMethod yX12_told ∈ gtbl := gt8 137 (by decide +kernel) (by decide +kernel)
theorem q_e_X12_told : Cond.selects "MerryDuchyModel" yX12_told yX12_told ∈ gtbl := gt8 138 (by decide +kernel) (by decide +kernel)
theorem q_m_MerryDuchyLaw_177 : Cond.methodLink "MerryDuchyLaw" 177 yX11_sentence ∈ gtbl := gt5 100 (by decide +kernel) (by decide +kernel)
theorem q_v_X11_sentence : Cond.instanceMethod yX11_sentence ∈ gtbl := gt5 101 (by decide +kernel) (by decide +kernel)
theorem q_e_X11_sentence : Cond.selects "MerryDuchy" yX11_sentence yX11_sentence ∈ gtbl := gt5 102 (by decide +kernel) (by decide +kernel)
theorem q_m_MerryDuchyLaw_180 : Cond.methodLink "MerryDuchyLaw" 180 yX12_sentence ∈ gtbl := gt8 140 (by decide +kernel) (by decide +kernel)
theorem q_v_X12_sentence : Cond.instanceMethod yX12_sentence ∈ gtbl := gt8 141 (by decide +kernel) (by decide +kernel)
theorem q_e_X12_sentence : Cond.selects "MerryDuchyModel" yX12_sentence yX12_sentence ∈ gtbl := gt8 142 (by decide +kernel) (by decide +kernel)
theorem q_m_MerryDuchyLaw_181 : Cond.methodLink "MerryDuchyLaw" 181 yX11_said ∈ gtbl := gt5 132 (by decide +kernel) (by decide +kernel)
theorem q_v_X11_said : Cond.instanceMethod yX11_said ∈ gtbl := gt5 133 (by decide +kernel) (by decide +kernel)
theorem q_e_X11_said : Cond.selects "MerryDuchy" yX11_said yX11_said ∈ gtbl := gt5 134 (by decide +kernel) (by decide +kernel)
theorem q_m_MerryDuchyLaw_184 : Cond.methodLink "MerryDuchyLaw" 184 yX12_said ∈ gtbl := gt8 180 (by decide +kernel) (by decide +kernel)
theorem q_v_X12_said : Cond.instanceMethod yX12_said ∈ gtbl := gt8 181 (by decide +kernel) (by decide +kernel)
theorem q_e_X12_said : Cond.selects "MerryDuchyModel" yX12_said yX12_said ∈ gtbl := gt8 182 (by decide +kernel) (by decide +kernel)
theorem q_m_MerryDuchyLaw_185 : Cond.methodLink "MerryDuchyLaw" 185 yX11_image ∈ gtbl := gt5 158 (by decide +kernel) (by decide +kernel)
theorem q_v_X11_image : Cond.instanceMethod yX11_image ∈ gtbl := gt5 159 (by decide +kernel) (by decide +kernel)
theorem q_e_X11_image : Cond.selects "MerryDuchy" yX11_image yX11_image ∈ gtbl := gt5 160 (by decide +kernel) (by decide +kernel)
theorem q_m_MerryDuchyLaw_188 : Cond.methodLink "MerryDuchyLaw" 188 yX12_image ∈ gtbl := gt8 188 (by decide +kernel) (by decide +kernel)
theorem q_v_X12_image : Cond.instanceMethod yX12_image ∈ gtbl := gt8 189 (by decide +kernel) (by decide +kernel)
theorem q_e_X12_image : Cond.selects "MerryDuchyModel" yX12_image yX12_image ∈ gtbl := gt8 190 (by decide +kernel) (by decide +kernel)
theorem q_m_MerryDuchyLaw_189 : Cond.methodLink "MerryDuchyLaw" 189 yX11_restore ∈ gtbl := gt5 162 (by decide +kernel) (by decide +kernel)
theorem q_v_X11_restore : Cond.instanceMethod yX11_restore ∈ gtbl := gt5 163 (by decide +kernel) (by decide +kernel)
theorem q_e_X11_restore : Cond.selects "MerryDuchy" yX11_restore yX11_restore ∈ gtbl := gt5 164 (by decide +kernel) (by decide +kernel)
theorem q_m_MerryDuchyLaw_192 : Cond.methodLink "MerryDuchyLaw" 192 yX12_restore ∈ gtbl := gt8 192 (by decide +kernel) (by decide +kernel)
theorem q_v_X12_restore : Cond.instanceMethod yX12_restore ∈ gtbl := gt8 193 (by decide +kernel) (by decide +kernel)
theorem q_e_X12_restore : Cond.selects "MerryDuchyModel" yX12_restore yX12_restore ∈ gtbl := gt8 194 (by decide +kernel) (by decide +kernel)
theorem q_m_MerryDuchyLaw_193 : Cond.methodLink "MerryDuchyLaw" 193 yX11_count ∈ gtbl := gt5 166 (by decide +kernel) (by decide +kernel)
theorem q_v_X11_count : Cond.instanceMethod yX11_count ∈ gtbl := gt5 167 (by decide +kernel) (by decide +kernel)
theorem q_e_X11_count : Cond.selects "MerryDuchy" yX11_count yX11_count ∈ gtbl := gt5 168 (by decide +kernel) (by decide +kernel)
theorem q_m_MerryDuchyLaw_196 : Cond.methodLink "MerryDuchyLaw" 196 yX12_count ∈ gtbl := gt8 196 (by decide +kernel) (by decide +kernel)
theorem q_v_X12_count : Cond.instanceMethod yX12_count ∈ gtbl := gt8 197 (by decide +kernel) (by decide +kernel)
theorem q_e_X12_count : Cond.selects "MerryDuchyModel" yX12_count yX12_count ∈ gtbl := gt8 198 (by decide +kernel) (by decide +kernel)
theorem q_n_java_util_Arrays : Cond.initialized "java/util/Arrays" ∈ gtbl := gt1 19 (by decide +kernel) (by decide +kernel)
theorem q_k_J7_fill_53178 : Cond.code yJ7_fill_53178 cJ7_fill_53178 4 none ∈ gtbl := gt3 61 (by decide +kernel) (by decide +kernel)
theorem q_k_X0_fewestPayments : Cond.code yX0_fewestPayments cX0_fewestPayments 7 (some .int) ∈ gtbl := gt4 139 (by decide +kernel) (by decide +kernel)
theorem q_k_X0_init : Cond.code yX0_init cX0_init 1 none ∈ gtbl := gt1 157 (by decide +kernel) (by decide +kernel)
theorem q_k_X0_passWeeks : Cond.code yX0_passWeeks cX0_passWeeks 4 none ∈ gtbl := gt4 35 (by decide +kernel) (by decide +kernel)
theorem q_k_X0_perform : Cond.code yX0_perform cX0_perform 6 (some .int) ∈ gtbl := gt4 18 (by decide +kernel) (by decide +kernel)
theorem q_k_X0_whyNot : Cond.code yX0_whyNot cX0_whyNot 7 (some .int) ∈ gtbl := gt3 231 (by decide +kernel) (by decide +kernel)
theorem q_k_X10_fails : Cond.code yX10_fails cX10_fails 3 (some .boolean) ∈ gtbl := gt3 86 (by decide +kernel) (by decide +kernel)
theorem q_k_X10_init : Cond.code yX10_init cX10_init 6 none ∈ gtbl := gt1 38 (by decide +kernel) (by decide +kernel)
theorem q_k_X10_isSign : Cond.code yX10_isSign cX10_isSign 2 (some .boolean) ∈ gtbl := gt3 141 (by decide +kernel) (by decide +kernel)
theorem q_k_X10_next : Cond.code yX10_next cX10_next 1 none ∈ gtbl := gt3 38 (by decide +kernel) (by decide +kernel)
theorem q_k_X10_start : Cond.code yX10_start cX10_start 3 none ∈ gtbl := gt3 31 (by decide +kernel) (by decide +kernel)
theorem q_n_MerryDuchy : Cond.initialized "MerryDuchy" ∈ gtbl := gt1 1 (by decide +kernel) (by decide +kernel)
theorem q_k_X11_book : Cond.code yX11_book cX11_book 3 (some .int) ∈ gtbl := gt5 67 (by decide +kernel) (by decide +kernel)
theorem q_k_X11_bought : Cond.code yX11_bought cX11_bought 3 (some .int) ∈ gtbl := gt3 203 (by decide +kernel) (by decide +kernel)
theorem q_k_X11_buy : Cond.code yX11_buy cX11_buy 3 (some .int) ∈ gtbl := gt4 40 (by decide +kernel) (by decide +kernel)
theorem q_k_X11_byteAt : Cond.code yX11_byteAt cX11_byteAt 2 (some .int) ∈ gtbl := gt5 31 (by decide +kernel) (by decide +kernel)
theorem q_k_X11_copyRow : Cond.code yX11_copyRow cX11_copyRow 2 none ∈ gtbl := gt3 156 (by decide +kernel) (by decide +kernel)
theorem q_k_X11_cost : Cond.code yX11_cost cX11_cost 3 (some .int) ∈ gtbl := gt3 183 (by decide +kernel) (by decide +kernel)
theorem q_k_X11_count : Cond.code yX11_count cX11_count 2 (some .int) ∈ gtbl := gt5 169 (by decide +kernel) (by decide +kernel)
theorem q_k_X11_done : Cond.code yX11_done cX11_done 5 (some .int) ∈ gtbl := gt4 8 (by decide +kernel) (by decide +kernel)
theorem q_k_X11_drawn : Cond.code yX11_drawn cX11_drawn 4 (some .int) ∈ gtbl := gt5 35 (by decide +kernel) (by decide +kernel)
theorem q_k_X11_duchy : Cond.code yX11_duchy cX11_duchy 2 (some .int) ∈ gtbl := gt3 23 (by decide +kernel) (by decide +kernel)
theorem q_k_X11_end : Cond.code yX11_end cX11_end 2 (some .boolean) ∈ gtbl := gt3 19 (by decide +kernel) (by decide +kernel)
theorem q_k_X11_even : Cond.code yX11_even cX11_even 1 (some .int) ∈ gtbl := gt4 135 (by decide +kernel) (by decide +kernel)
theorem q_k_X11_fault : Cond.code yX11_fault cX11_fault 1 (some .int) ∈ gtbl := gt3 179 (by decide +kernel) (by decide +kernel)
theorem q_k_X11_feed : Cond.code yX11_feed cX11_feed 6 (some .int) ∈ gtbl := gt3 11 (by decide +kernel) (by decide +kernel)
theorem q_k_X11_feedNumber : Cond.code yX11_feedNumber cX11_feedNumber 3 none ∈ gtbl := gt3 15 (by decide +kernel) (by decide +kernel)
theorem q_k_X11_fits : Cond.code yX11_fits cX11_fits 2 (some .int) ∈ gtbl := gt4 155 (by decide +kernel) (by decide +kernel)
theorem q_k_X11_forfeit : Cond.code yX11_forfeit cX11_forfeit 4 (some .int) ∈ gtbl := gt3 227 (by decide +kernel) (by decide +kernel)
theorem q_k_X11_good : Cond.code yX11_good cX11_good 3 (some .int) ∈ gtbl := gt3 207 (by decide +kernel) (by decide +kernel)
theorem q_k_X11_image : Cond.code yX11_image cX11_image 2 (some .boolean) ∈ gtbl := gt5 161 (by decide +kernel) (by decide +kernel)
theorem q_k_X11_init : Cond.code yX11_init cX11_init 2 none ∈ gtbl := gt1 30 (by decide +kernel) (by decide +kernel)
theorem q_k_X11_lasts : Cond.code yX11_lasts cX11_lasts 3 (some .int) ∈ gtbl := gt4 121 (by decide +kernel) (by decide +kernel)
theorem q_k_X11_lend : Cond.code yX11_lend cX11_lend 4 (some .int) ∈ gtbl := gt4 48 (by decide +kernel) (by decide +kernel)
theorem q_k_X11_list : Cond.code yX11_list cX11_list 3 (some .int) ∈ gtbl := gt5 1 (by decide +kernel) (by decide +kernel)
theorem q_k_X11_now : Cond.code yX11_now cX11_now 3 (some .int) ∈ gtbl := gt3 215 (by decide +kernel) (by decide +kernel)
theorem q_k_X11_odds : Cond.code yX11_odds cX11_odds 7 (some .int) ∈ gtbl := gt5 62 (by decide +kernel) (by decide +kernel)
theorem q_k_X11_owes : Cond.code yX11_owes cX11_owes 3 (some .int) ∈ gtbl := gt3 211 (by decide +kernel) (by decide +kernel)
theorem q_k_X11_plan : Cond.code yX11_plan cX11_plan 3 (some .int) ∈ gtbl := gt4 94 (by decide +kernel) (by decide +kernel)
theorem q_k_X11_planned : Cond.code yX11_planned cX11_planned 2 (some .int) ∈ gtbl := gt4 117 (by decide +kernel) (by decide +kernel)
theorem q_k_X11_proudest : Cond.code yX11_proudest cX11_proudest 3 (some .int) ∈ gtbl := gt4 237 (by decide +kernel) (by decide +kernel)
theorem q_k_X11_repay : Cond.code yX11_repay cX11_repay 4 (some .int) ∈ gtbl := gt4 56 (by decide +kernel) (by decide +kernel)
theorem q_k_X11_restore : Cond.code yX11_restore cX11_restore 2 (some .boolean) ∈ gtbl := gt5 165 (by decide +kernel) (by decide +kernel)
theorem q_k_X11_ring : Cond.code yX11_ring cX11_ring 1 (some .int) ∈ gtbl := gt4 79 (by decide +kernel) (by decide +kernel)
theorem q_k_X11_ringAt : Cond.code yX11_ringAt cX11_ringAt 2 (some .int) ∈ gtbl := gt4 90 (by decide +kernel) (by decide +kernel)
theorem q_k_X11_said : Cond.code yX11_said cX11_said 5 (some .int) ∈ gtbl := gt5 135 (by decide +kernel) (by decide +kernel)
theorem q_k_X11_sentence : Cond.code yX11_sentence cX11_sentence 2 (some .int) ∈ gtbl := gt5 103 (by decide +kernel) (by decide +kernel)
theorem q_k_X11_share : Cond.code yX11_share cX11_share 10 (some .int) ∈ gtbl := gt4 189 (by decide +kernel) (by decide +kernel)
theorem q_k_X11_startTokens : Cond.code yX11_startTokens cX11_startTokens 3 none ∈ gtbl := gt3 27 (by decide +kernel) (by decide +kernel)
theorem q_k_X11_strike : Cond.code yX11_strike cX11_strike 1 (some .int) ∈ gtbl := gt4 60 (by decide +kernel) (by decide +kernel)
theorem q_k_X11_sum : Cond.code yX11_sum cX11_sum 7 (some .int) ∈ gtbl := gt3 218 (by decide +kernel) (by decide +kernel)
theorem q_k_X11_tax : Cond.code yX11_tax cX11_tax 2 (some .int) ∈ gtbl := gt4 197 (by decide +kernel) (by decide +kernel)
theorem q_k_X11_taxOf : Cond.code yX11_taxOf cX11_taxOf 2 (some .int) ∈ gtbl := gt4 233 (by decide +kernel) (by decide +kernel)
theorem q_k_X11_tells : Cond.code yX11_tells cX11_tells 1 (some .int) ∈ gtbl := gt4 185 (by decide +kernel) (by decide +kernel)
theorem q_k_X11_times : Cond.code yX11_times cX11_times 3 (some .int) ∈ gtbl := gt3 199 (by decide +kernel) (by decide +kernel)
theorem q_k_X11_told : Cond.code yX11_told cX11_told 2 (some .int) ∈ gtbl := gt5 99 (by decide +kernel) (by decide +kernel)
theorem q_k_X11_triedBetween : Cond.code yX11_triedBetween cX11_triedBetween 5 (some .int) ∈ gtbl := gt4 52 (by decide +kernel) (by decide +kernel)
theorem q_k_X11_undo : Cond.code yX11_undo cX11_undo 1 (some .int) ∈ gtbl := gt4 71 (by decide +kernel) (by decide +kernel)
theorem q_k_X11_weeks : Cond.code yX11_weeks cX11_weeks 3 (some .int) ∈ gtbl := gt4 64 (by decide +kernel) (by decide +kernel)
theorem q_k_X11_weeksToGo : Cond.code yX11_weeksToGo cX11_weeksToGo 2 (some .int) ∈ gtbl := gt4 67 (by decide +kernel) (by decide +kernel)
theorem q_k_X11_worth : Cond.code yX11_worth cX11_worth 7 (some .int) ∈ gtbl := gt4 130 (by decide +kernel) (by decide +kernel)
theorem q_n_MerryDuchyModel : Cond.initialized "MerryDuchyModel" ∈ gtbl := gt1 17 (by decide +kernel) (by decide +kernel)
theorem q_k_X12_bad : Cond.code yX12_bad cX12_bad 2 (some .boolean) ∈ gtbl := gt7 1 (by decide +kernel) (by decide +kernel)
theorem q_k_X12_begin : Cond.code yX12_begin cX12_begin 2 none ∈ gtbl := gt6 195 (by decide +kernel) (by decide +kernel)
theorem q_k_X12_book : Cond.code yX12_book cX12_book 4 (some .int) ∈ gtbl := gt8 111 (by decide +kernel) (by decide +kernel)
theorem q_k_X12_bought : Cond.code yX12_bought cX12_bought 3 (some .int) ∈ gtbl := gt7 122 (by decide +kernel) (by decide +kernel)
theorem q_k_X12_buy : Cond.code yX12_buy cX12_buy 3 (some .int) ∈ gtbl := gt7 174 (by decide +kernel) (by decide +kernel)
theorem q_k_X12_byteAt : Cond.code yX12_byteAt cX12_byteAt 2 (some .int) ∈ gtbl := gt8 78 (by decide +kernel) (by decide +kernel)
theorem q_k_X12_come : Cond.code yX12_come cX12_come 3 none ∈ gtbl := gt6 18 (by decide +kernel) (by decide +kernel)
theorem q_k_X12_cost : Cond.code yX12_cost cX12_cost 3 (some .int) ∈ gtbl := gt7 95 (by decide +kernel) (by decide +kernel)
theorem q_k_X12_count : Cond.code yX12_count cX12_count 2 (some .int) ∈ gtbl := gt8 199 (by decide +kernel) (by decide +kernel)
theorem q_k_X12_drawn : Cond.code yX12_drawn cX12_drawn 3 (some .int) ∈ gtbl := gt8 82 (by decide +kernel) (by decide +kernel)
theorem q_k_X12_duchy : Cond.code yX12_duchy cX12_duchy 3 (some .int) ∈ gtbl := gt6 191 (by decide +kernel) (by decide +kernel)
theorem q_k_X12_end : Cond.code yX12_end cX12_end 2 (some .boolean) ∈ gtbl := gt6 22 (by decide +kernel) (by decide +kernel)
theorem q_k_X12_even : Cond.code yX12_even cX12_even 6 (some .int) ∈ gtbl := gt8 15 (by decide +kernel) (by decide +kernel)
theorem q_k_X12_fault : Cond.code yX12_fault cX12_fault 1 (some .int) ∈ gtbl := gt7 59 (by decide +kernel) (by decide +kernel)
theorem q_k_X12_feed : Cond.code yX12_feed cX12_feed 6 (some .int) ∈ gtbl := gt6 13 (by decide +kernel) (by decide +kernel)
theorem q_k_X12_fits : Cond.code yX12_fits cX12_fits 7 (some .int) ∈ gtbl := gt8 22 (by decide +kernel) (by decide +kernel)
theorem q_k_X12_forfeit : Cond.code yX12_forfeit cX12_forfeit 4 (some .int) ∈ gtbl := gt7 158 (by decide +kernel) (by decide +kernel)
theorem q_k_X12_go : Cond.code yX12_go cX12_go 5 none ∈ gtbl := gt6 203 (by decide +kernel) (by decide +kernel)
theorem q_k_X12_good : Cond.code yX12_good cX12_good 3 (some .int) ∈ gtbl := gt7 130 (by decide +kernel) (by decide +kernel)
theorem q_k_X12_image : Cond.code yX12_image cX12_image 3 (some .boolean) ∈ gtbl := gt8 191 (by decide +kernel) (by decide +kernel)
theorem q_k_X12_init : Cond.code yX12_init cX12_init 1 none ∈ gtbl := gt6 26 (by decide +kernel) (by decide +kernel)
theorem q_k_X12_isGood : Cond.code yX12_isGood cX12_isGood 2 (some .boolean) ∈ gtbl := gt7 126 (by decide +kernel) (by decide +kernel)
theorem q_k_X12_isIn : Cond.code yX12_isIn cX12_isIn 3 (some .boolean) ∈ gtbl := gt7 19 (by decide +kernel) (by decide +kernel)
theorem q_k_X12_isMan : Cond.code yX12_isMan cX12_isMan 2 (some .boolean) ∈ gtbl := gt7 67 (by decide +kernel) (by decide +kernel)
theorem q_k_X12_isSign : Cond.code yX12_isSign cX12_isSign 2 (some .boolean) ∈ gtbl := gt7 51 (by decide +kernel) (by decide +kernel)
theorem q_k_X12_isWord : Cond.code yX12_isWord cX12_isWord 2 (some .boolean) ∈ gtbl := gt6 223 (by decide +kernel) (by decide +kernel)
theorem q_k_X12_lasts : Cond.code yX12_lasts cX12_lasts 3 (some .int) ∈ gtbl := gt8 3 (by decide +kernel) (by decide +kernel)
theorem q_k_X12_layAside : Cond.code yX12_layAside cX12_layAside 2 none ∈ gtbl := gt8 103 (by decide +kernel) (by decide +kernel)
theorem q_k_X12_layReach : Cond.code yX12_layReach cX12_layReach 7 none ∈ gtbl := gt8 42 (by decide +kernel) (by decide +kernel)
theorem q_k_X12_layRing : Cond.code yX12_layRing cX12_layRing 3 (some .int) ∈ gtbl := gt7 146 (by decide +kernel) (by decide +kernel)
theorem q_k_X12_least : Cond.code yX12_least cX12_least 2 (some .int) ∈ gtbl := gt7 114 (by decide +kernel) (by decide +kernel)
theorem q_k_X12_lend : Cond.code yX12_lend cX12_lend 4 (some .int) ∈ gtbl := gt7 194 (by decide +kernel) (by decide +kernel)
theorem q_k_X12_list : Cond.code yX12_list cX12_list 4 (some .int) ∈ gtbl := gt8 58 (by decide +kernel) (by decide +kernel)
theorem q_k_X12_now : Cond.code yX12_now cX12_now 2 (some .int) ∈ gtbl := gt7 138 (by decide +kernel) (by decide +kernel)
theorem q_k_X12_odds : Cond.code yX12_odds cX12_odds 6 (some .int) ∈ gtbl := gt8 99 (by decide +kernel) (by decide +kernel)
theorem q_k_X12_oneWeek : Cond.code yX12_oneWeek cX12_oneWeek 2 none ∈ gtbl := gt7 218 (by decide +kernel) (by decide +kernel)
theorem q_k_X12_owes : Cond.code yX12_owes cX12_owes 3 (some .int) ∈ gtbl := gt7 134 (by decide +kernel) (by decide +kernel)
theorem q_k_X12_passWeeks : Cond.code yX12_passWeeks cX12_passWeeks 4 (some .int) ∈ gtbl := gt7 214 (by decide +kernel) (by decide +kernel)
theorem q_k_X12_plan : Cond.code yX12_plan cX12_plan 8 (some .int) ∈ gtbl := gt7 222 (by decide +kernel) (by decide +kernel)
theorem q_k_X12_planned : Cond.code yX12_planned cX12_planned 2 (some .int) ∈ gtbl := gt7 239 (by decide +kernel) (by decide +kernel)
theorem q_k_X12_proudest : Cond.code yX12_proudest cX12_proudest 3 (some .int) ∈ gtbl := gt8 54 (by decide +kernel) (by decide +kernel)
theorem q_k_X12_readAnd : Cond.code yX12_readAnd cX12_readAnd 2 (some .boolean) ∈ gtbl := gt8 151 (by decide +kernel) (by decide +kernel)
theorem q_k_X12_readOr : Cond.code yX12_readOr cX12_readOr 2 (some .boolean) ∈ gtbl := gt8 147 (by decide +kernel) (by decide +kernel)
theorem q_k_X12_readSaid : Cond.code yX12_readSaid cX12_readSaid 4 (some .boolean) ∈ gtbl := gt8 155 (by decide +kernel) (by decide +kernel)
theorem q_k_X12_repay : Cond.code yX12_repay cX12_repay 4 (some .int) ∈ gtbl := gt7 198 (by decide +kernel) (by decide +kernel)
theorem q_k_X12_restore : Cond.code yX12_restore cX12_restore 3 (some .boolean) ∈ gtbl := gt8 195 (by decide +kernel) (by decide +kernel)
theorem q_k_X12_ring : Cond.code yX12_ring cX12_ring 3 (some .int) ∈ gtbl := gt7 142 (by decide +kernel) (by decide +kernel)
theorem q_k_X12_ringAt : Cond.code yX12_ringAt cX12_ringAt 2 (some .int) ∈ gtbl := gt7 154 (by decide +kernel) (by decide +kernel)
theorem q_k_X12_said : Cond.code yX12_said cX12_said 4 (some .int) ∈ gtbl := gt8 183 (by decide +kernel) (by decide +kernel)
theorem q_k_X12_sentence : Cond.code yX12_sentence cX12_sentence 2 (some .int) ∈ gtbl := gt8 143 (by decide +kernel) (by decide +kernel)
theorem q_k_X12_share : Cond.code yX12_share cX12_share 10 (some .int) ∈ gtbl := gt8 34 (by decide +kernel) (by decide +kernel)
theorem q_k_X12_snap : Cond.code yX12_snap cX12_snap 2 none ∈ gtbl := gt7 166 (by decide +kernel) (by decide +kernel)
theorem q_k_X12_startSo : Cond.code yX12_startSo cX12_startSo 2 none ∈ gtbl := gt7 55 (by decide +kernel) (by decide +kernel)
theorem q_k_X12_stay : Cond.code yX12_stay cX12_stay 4 none ∈ gtbl := gt8 135 (by decide +kernel) (by decide +kernel)
theorem q_k_X12_strike : Cond.code yX12_strike cX12_strike 1 (some .int) ∈ gtbl := gt7 202 (by decide +kernel) (by decide +kernel)
theorem q_k_X12_sumOf : Cond.code yX12_sumOf cX12_sumOf 5 (some .int) ∈ gtbl := gt7 91 (by decide +kernel) (by decide +kernel)
theorem q_k_X12_take : Cond.code yX12_take cX12_take 2 (some .int) ∈ gtbl := gt6 199 (by decide +kernel) (by decide +kernel)
theorem q_k_X12_tax : Cond.code yX12_tax cX12_tax 7 (some .int) ∈ gtbl := gt8 38 (by decide +kernel) (by decide +kernel)
theorem q_k_X12_taxOf : Cond.code yX12_taxOf cX12_taxOf 2 (some .int) ∈ gtbl := gt8 50 (by decide +kernel) (by decide +kernel)
theorem q_k_X12_tells : Cond.code yX12_tells cX12_tells 1 (some .int) ∈ gtbl := gt8 30 (by decide +kernel) (by decide +kernel)
theorem q_k_X12_times : Cond.code yX12_times cX12_times 3 (some .int) ∈ gtbl := gt7 118 (by decide +kernel) (by decide +kernel)
theorem q_k_X12_told : Cond.code yX12_told cX12_told 2 (some .int) ∈ gtbl := gt8 139 (by decide +kernel) (by decide +kernel)
theorem q_k_X12_undo : Cond.code yX12_undo cX12_undo 2 (some .int) ∈ gtbl := gt7 206 (by decide +kernel) (by decide +kernel)
theorem q_k_X12_weeks : Cond.code yX12_weeks cX12_weeks 2 (some .int) ∈ gtbl := gt7 210 (by decide +kernel) (by decide +kernel)
theorem q_k_X12_worth : Cond.code yX12_worth cX12_worth 3 (some .int) ∈ gtbl := gt8 11 (by decide +kernel) (by decide +kernel)
theorem q_k_X1_init : Cond.code yX1_init cX1_init 1 none ∈ gtbl := gt2 176 (by decide +kernel) (by decide +kernel)
theorem q_k_X1_live : Cond.code yX1_live cX1_live 8 (some .int) ∈ gtbl := gt5 92 (by decide +kernel) (by decide +kernel)
theorem q_k_X1_readLines : Cond.code yX1_readLines cX1_readLines 4 (some .boolean) ∈ gtbl := gt5 71 (by decide +kernel) (by decide +kernel)
theorem q_k_X2_clear : Cond.code yX2_clear cX2_clear 1 none ∈ gtbl := gt3 58 (by decide +kernel) (by decide +kernel)
theorem q_k_X2_fillWhatWasNotTold : Cond.code yX2_fillWhatWasNotTold cX2_fillWhatWasNotTold 2 none ∈ gtbl := gt3 145 (by decide +kernel) (by decide +kernel)
theorem q_k_X2_forfeits : Cond.code yX2_forfeits cX2_forfeits 1 (some .int) ∈ gtbl := gt3 149 (by decide +kernel) (by decide +kernel)
theorem q_k_X2_goods : Cond.code yX2_goods cX2_goods 1 (some .int) ∈ gtbl := gt5 58 (by decide +kernel) (by decide +kernel)
theorem q_k_X2_has : Cond.code yX2_has cX2_has 3 (some .boolean) ∈ gtbl := gt3 187 (by decide +kernel) (by decide +kernel)
theorem q_k_X2_init : Cond.code yX2_init cX2_init 1 none ∈ gtbl := gt1 163 (by decide +kernel) (by decide +kernel)
theorem q_k_X2_men : Cond.code yX2_men cX2_men 1 (some .int) ∈ gtbl := gt3 236 (by decide +kernel) (by decide +kernel)
theorem q_k_X2_readLines : Cond.code yX2_readLines cX2_readLines 4 (some .int) ∈ gtbl := gt3 54 (by decide +kernel) (by decide +kernel)
theorem q_k_X2_takeAll : Cond.code yX2_takeAll cX2_takeAll 2 none ∈ gtbl := gt3 153 (by decide +kernel) (by decide +kernel)
theorem q_k_X3_find : Cond.code yX3_find cX3_find 6 (some .int) ∈ gtbl := gt4 159 (by decide +kernel) (by decide +kernel)
theorem q_k_X3_init : Cond.code yX3_init cX3_init 1 none ∈ gtbl := gt2 162 (by decide +kernel) (by decide +kernel)
theorem q_k_X4_forget : Cond.code yX4_forget cX4_forget 1 none ∈ gtbl := gt3 175 (by decide +kernel) (by decide +kernel)
theorem q_k_X4_giveBack : Cond.code yX4_giveBack cX4_giveBack 2 (some .int) ∈ gtbl := gt4 75 (by decide +kernel) (by decide +kernel)
theorem q_k_X4_init : Cond.code yX4_init cX4_init 2 none ∈ gtbl := gt2 98 (by decide +kernel) (by decide +kernel)
theorem q_k_X4_keep : Cond.code yX4_keep cX4_keep 2 none ∈ gtbl := gt4 12 (by decide +kernel) (by decide +kernel)
theorem q_k_X5_init : Cond.code yX5_init cX5_init 1 none ∈ gtbl := gt2 120 (by decide +kernel) (by decide +kernel)
theorem q_k_X6_find : Cond.code yX6_find cX6_find 5 (some .boolean) ∈ gtbl := gt4 0 (by decide +kernel) (by decide +kernel)
theorem q_k_X6_init : Cond.code yX6_init cX6_init 1 none ∈ gtbl := gt2 60 (by decide +kernel) (by decide +kernel)
theorem q_k_X7_clear : Cond.code yX7_clear cX7_clear 1 none ∈ gtbl := gt3 70 (by decide +kernel) (by decide +kernel)
theorem q_k_X7_init : Cond.code yX7_init cX7_init 1 none ∈ gtbl := gt1 232 (by decide +kernel) (by decide +kernel)
theorem q_k_X7_readCond : Cond.code yX7_readCond cX7_readCond 7 (some .boolean) ∈ gtbl := gt5 112 (by decide +kernel) (by decide +kernel)
theorem q_k_X7_readOne : Cond.code yX7_readOne cX7_readOne 6 (some .boolean) ∈ gtbl := gt5 116 (by decide +kernel) (by decide +kernel)
theorem q_k_X7_readWhole : Cond.code yX7_readWhole cX7_readWhole 3 (some .boolean) ∈ gtbl := gt5 107 (by decide +kernel) (by decide +kernel)
theorem q_k_X7_takeAll : Cond.code yX7_takeAll cX7_takeAll 2 none ∈ gtbl := gt3 170 (by decide +kernel) (by decide +kernel)
theorem q_k_X8_allCredit : Cond.code yX8_allCredit cX8_allCredit 1 (some .int) ∈ gtbl := gt3 222 (by decide +kernel) (by decide +kernel)
theorem q_k_X8_clear : Cond.code yX8_clear cX8_clear 1 none ∈ gtbl := gt3 65 (by decide +kernel) (by decide +kernel)
theorem q_k_X8_init : Cond.code yX8_init cX8_init 1 none ∈ gtbl := gt1 169 (by decide +kernel) (by decide +kernel)
theorem q_k_X8_takeAll : Cond.code yX8_takeAll cX8_takeAll 2 none ∈ gtbl := gt3 165 (by decide +kernel) (by decide +kernel)
theorem q_k_X9_choose : Cond.code yX9_choose cX9_choose 8 none ∈ gtbl := gt4 229 (by decide +kernel) (by decide +kernel)
theorem q_k_X9_dearest : Cond.code yX9_dearest cX9_dearest 6 (some .int) ∈ gtbl := gt4 217 (by decide +kernel) (by decide +kernel)
theorem q_k_X9_fillCan : Cond.code yX9_fillCan cX9_fillCan 5 none ∈ gtbl := gt4 221 (by decide +kernel) (by decide +kernel)
theorem q_k_X9_fillCosts : Cond.code yX9_fillCosts cX9_fillCosts 5 none ∈ gtbl := gt4 205 (by decide +kernel) (by decide +kernel)
theorem q_k_X9_find : Cond.code yX9_find cX9_find 5 (some .int) ∈ gtbl := gt4 201 (by decide +kernel) (by decide +kernel)
theorem q_k_X9_init : Cond.code yX9_init cX9_init 1 none ∈ gtbl := gt2 141 (by decide +kernel) (by decide +kernel)
theorem q_k_X9_leastGreatest : Cond.code yX9_leastGreatest cX9_leastGreatest 5 (some .int) ∈ gtbl := gt4 213 (by decide +kernel) (by decide +kernel)
theorem nb_J7_fill_53178 : (yJ7_fill_53178.cls ≠ "java/lang/invoke/MethodHandle" ∧ yJ7_fill_53178.cls ≠ "java/lang/invoke/VarHandle") ∧ Cond.initialized yJ7_fill_53178.cls ∈ gtbl ∧ (parseMethodDescriptor yJ7_fill_53178.desc).map (fun d => d.parameters.length) = some 2 := ⟨⟨by decide +kernel, by decide +kernel⟩, q_n_java_util_Arrays, by decide +kernel⟩
theorem nb_X0_fewestPayments : (yX0_fewestPayments.cls ≠ "java/lang/invoke/MethodHandle" ∧ yX0_fewestPayments.cls ≠ "java/lang/invoke/VarHandle") ∧ Cond.initialized yX0_fewestPayments.cls ∈ gtbl ∧ (parseMethodDescriptor yX0_fewestPayments.desc).map (fun d => d.parameters.length) = some 0 := ⟨⟨by decide +kernel, by decide +kernel⟩, q_n_MerryDuchy_Acts, by decide +kernel⟩
theorem nb_X0_init : (yX0_init.cls ≠ "java/lang/invoke/MethodHandle" ∧ yX0_init.cls ≠ "java/lang/invoke/VarHandle") ∧ Cond.initialized yX0_init.cls ∈ gtbl ∧ (parseMethodDescriptor yX0_init.desc).map (fun d => d.parameters.length) = some 0 := ⟨⟨by decide +kernel, by decide +kernel⟩, q_n_MerryDuchy_Acts, by decide +kernel⟩
theorem nb_X0_passWeeks : (yX0_passWeeks.cls ≠ "java/lang/invoke/MethodHandle" ∧ yX0_passWeeks.cls ≠ "java/lang/invoke/VarHandle") ∧ Cond.initialized yX0_passWeeks.cls ∈ gtbl ∧ (parseMethodDescriptor yX0_passWeeks.desc).map (fun d => d.parameters.length) = some 2 := ⟨⟨by decide +kernel, by decide +kernel⟩, q_n_MerryDuchy_Acts, by decide +kernel⟩
theorem nb_X0_perform : (yX0_perform.cls ≠ "java/lang/invoke/MethodHandle" ∧ yX0_perform.cls ≠ "java/lang/invoke/VarHandle") ∧ Cond.initialized yX0_perform.cls ∈ gtbl ∧ (parseMethodDescriptor yX0_perform.desc).map (fun d => d.parameters.length) = some 5 := ⟨⟨by decide +kernel, by decide +kernel⟩, q_n_MerryDuchy_Acts, by decide +kernel⟩
theorem nb_X0_whyNot : (yX0_whyNot.cls ≠ "java/lang/invoke/MethodHandle" ∧ yX0_whyNot.cls ≠ "java/lang/invoke/VarHandle") ∧ Cond.initialized yX0_whyNot.cls ∈ gtbl ∧ (parseMethodDescriptor yX0_whyNot.desc).map (fun d => d.parameters.length) = some 5 := ⟨⟨by decide +kernel, by decide +kernel⟩, q_n_MerryDuchy_Acts, by decide +kernel⟩
theorem nb_X10_fails : (yX10_fails.cls ≠ "java/lang/invoke/MethodHandle" ∧ yX10_fails.cls ≠ "java/lang/invoke/VarHandle") ∧ Cond.initialized yX10_fails.cls ∈ gtbl ∧ (parseMethodDescriptor yX10_fails.desc).map (fun d => d.parameters.length) = some 2 := ⟨⟨by decide +kernel, by decide +kernel⟩, q_n_MerryDuchy_Tokens, by decide +kernel⟩
theorem nb_X10_init : (yX10_init.cls ≠ "java/lang/invoke/MethodHandle" ∧ yX10_init.cls ≠ "java/lang/invoke/VarHandle") ∧ Cond.initialized yX10_init.cls ∈ gtbl ∧ (parseMethodDescriptor yX10_init.desc).map (fun d => d.parameters.length) = some 0 := ⟨⟨by decide +kernel, by decide +kernel⟩, q_n_MerryDuchy_Tokens, by decide +kernel⟩
theorem nb_X10_isSign : (yX10_isSign.cls ≠ "java/lang/invoke/MethodHandle" ∧ yX10_isSign.cls ≠ "java/lang/invoke/VarHandle") ∧ Cond.initialized yX10_isSign.cls ∈ gtbl ∧ (parseMethodDescriptor yX10_isSign.desc).map (fun d => d.parameters.length) = some 1 := ⟨⟨by decide +kernel, by decide +kernel⟩, q_n_MerryDuchy_Tokens, by decide +kernel⟩
theorem nb_X10_next : (yX10_next.cls ≠ "java/lang/invoke/MethodHandle" ∧ yX10_next.cls ≠ "java/lang/invoke/VarHandle") ∧ Cond.initialized yX10_next.cls ∈ gtbl ∧ (parseMethodDescriptor yX10_next.desc).map (fun d => d.parameters.length) = some 0 := ⟨⟨by decide +kernel, by decide +kernel⟩, q_n_MerryDuchy_Tokens, by decide +kernel⟩
theorem nb_X10_start : (yX10_start.cls ≠ "java/lang/invoke/MethodHandle" ∧ yX10_start.cls ≠ "java/lang/invoke/VarHandle") ∧ Cond.initialized yX10_start.cls ∈ gtbl ∧ (parseMethodDescriptor yX10_start.desc).map (fun d => d.parameters.length) = some 2 := ⟨⟨by decide +kernel, by decide +kernel⟩, q_n_MerryDuchy_Tokens, by decide +kernel⟩
theorem nb_X11_book : (yX11_book.cls ≠ "java/lang/invoke/MethodHandle" ∧ yX11_book.cls ≠ "java/lang/invoke/VarHandle") ∧ Cond.initialized yX11_book.cls ∈ gtbl ∧ (parseMethodDescriptor yX11_book.desc).map (fun d => d.parameters.length) = some 1 := ⟨⟨by decide +kernel, by decide +kernel⟩, q_n_MerryDuchy, by decide +kernel⟩
theorem nb_X11_bought : (yX11_bought.cls ≠ "java/lang/invoke/MethodHandle" ∧ yX11_bought.cls ≠ "java/lang/invoke/VarHandle") ∧ Cond.initialized yX11_bought.cls ∈ gtbl ∧ (parseMethodDescriptor yX11_bought.desc).map (fun d => d.parameters.length) = some 2 := ⟨⟨by decide +kernel, by decide +kernel⟩, q_n_MerryDuchy, by decide +kernel⟩
theorem nb_X11_buy : (yX11_buy.cls ≠ "java/lang/invoke/MethodHandle" ∧ yX11_buy.cls ≠ "java/lang/invoke/VarHandle") ∧ Cond.initialized yX11_buy.cls ∈ gtbl ∧ (parseMethodDescriptor yX11_buy.desc).map (fun d => d.parameters.length) = some 2 := ⟨⟨by decide +kernel, by decide +kernel⟩, q_n_MerryDuchy, by decide +kernel⟩
theorem nb_X11_byteAt : (yX11_byteAt.cls ≠ "java/lang/invoke/MethodHandle" ∧ yX11_byteAt.cls ≠ "java/lang/invoke/VarHandle") ∧ Cond.initialized yX11_byteAt.cls ∈ gtbl ∧ (parseMethodDescriptor yX11_byteAt.desc).map (fun d => d.parameters.length) = some 1 := ⟨⟨by decide +kernel, by decide +kernel⟩, q_n_MerryDuchy, by decide +kernel⟩
theorem nb_X11_copyRow : (yX11_copyRow.cls ≠ "java/lang/invoke/MethodHandle" ∧ yX11_copyRow.cls ≠ "java/lang/invoke/VarHandle") ∧ Cond.initialized yX11_copyRow.cls ∈ gtbl ∧ (parseMethodDescriptor yX11_copyRow.desc).map (fun d => d.parameters.length) = some 2 := ⟨⟨by decide +kernel, by decide +kernel⟩, q_n_MerryDuchy, by decide +kernel⟩
theorem nb_X11_cost : (yX11_cost.cls ≠ "java/lang/invoke/MethodHandle" ∧ yX11_cost.cls ≠ "java/lang/invoke/VarHandle") ∧ Cond.initialized yX11_cost.cls ∈ gtbl ∧ (parseMethodDescriptor yX11_cost.desc).map (fun d => d.parameters.length) = some 2 := ⟨⟨by decide +kernel, by decide +kernel⟩, q_n_MerryDuchy, by decide +kernel⟩
theorem nb_X11_count : (yX11_count.cls ≠ "java/lang/invoke/MethodHandle" ∧ yX11_count.cls ≠ "java/lang/invoke/VarHandle") ∧ Cond.initialized yX11_count.cls ∈ gtbl ∧ (parseMethodDescriptor yX11_count.desc).map (fun d => d.parameters.length) = some 1 := ⟨⟨by decide +kernel, by decide +kernel⟩, q_n_MerryDuchy, by decide +kernel⟩
theorem nb_X11_done : (yX11_done.cls ≠ "java/lang/invoke/MethodHandle" ∧ yX11_done.cls ≠ "java/lang/invoke/VarHandle") ∧ Cond.initialized yX11_done.cls ∈ gtbl ∧ (parseMethodDescriptor yX11_done.desc).map (fun d => d.parameters.length) = some 4 := ⟨⟨by decide +kernel, by decide +kernel⟩, q_n_MerryDuchy, by decide +kernel⟩
theorem nb_X11_drawn : (yX11_drawn.cls ≠ "java/lang/invoke/MethodHandle" ∧ yX11_drawn.cls ≠ "java/lang/invoke/VarHandle") ∧ Cond.initialized yX11_drawn.cls ∈ gtbl ∧ (parseMethodDescriptor yX11_drawn.desc).map (fun d => d.parameters.length) = some 2 := ⟨⟨by decide +kernel, by decide +kernel⟩, q_n_MerryDuchy, by decide +kernel⟩
theorem nb_X11_duchy : (yX11_duchy.cls ≠ "java/lang/invoke/MethodHandle" ∧ yX11_duchy.cls ≠ "java/lang/invoke/VarHandle") ∧ Cond.initialized yX11_duchy.cls ∈ gtbl ∧ (parseMethodDescriptor yX11_duchy.desc).map (fun d => d.parameters.length) = some 0 := ⟨⟨by decide +kernel, by decide +kernel⟩, q_n_MerryDuchy, by decide +kernel⟩
theorem nb_X11_end : (yX11_end.cls ≠ "java/lang/invoke/MethodHandle" ∧ yX11_end.cls ≠ "java/lang/invoke/VarHandle") ∧ Cond.initialized yX11_end.cls ∈ gtbl ∧ (parseMethodDescriptor yX11_end.desc).map (fun d => d.parameters.length) = some 1 := ⟨⟨by decide +kernel, by decide +kernel⟩, q_n_MerryDuchy, by decide +kernel⟩
theorem nb_X11_even : (yX11_even.cls ≠ "java/lang/invoke/MethodHandle" ∧ yX11_even.cls ≠ "java/lang/invoke/VarHandle") ∧ Cond.initialized yX11_even.cls ∈ gtbl ∧ (parseMethodDescriptor yX11_even.desc).map (fun d => d.parameters.length) = some 0 := ⟨⟨by decide +kernel, by decide +kernel⟩, q_n_MerryDuchy, by decide +kernel⟩
theorem nb_X11_fault : (yX11_fault.cls ≠ "java/lang/invoke/MethodHandle" ∧ yX11_fault.cls ≠ "java/lang/invoke/VarHandle") ∧ Cond.initialized yX11_fault.cls ∈ gtbl ∧ (parseMethodDescriptor yX11_fault.desc).map (fun d => d.parameters.length) = some 0 := ⟨⟨by decide +kernel, by decide +kernel⟩, q_n_MerryDuchy, by decide +kernel⟩
theorem nb_X11_feed : (yX11_feed.cls ≠ "java/lang/invoke/MethodHandle" ∧ yX11_feed.cls ≠ "java/lang/invoke/VarHandle") ∧ Cond.initialized yX11_feed.cls ∈ gtbl ∧ (parseMethodDescriptor yX11_feed.desc).map (fun d => d.parameters.length) = some 5 := ⟨⟨by decide +kernel, by decide +kernel⟩, q_n_MerryDuchy, by decide +kernel⟩
theorem nb_X11_feedNumber : (yX11_feedNumber.cls ≠ "java/lang/invoke/MethodHandle" ∧ yX11_feedNumber.cls ≠ "java/lang/invoke/VarHandle") ∧ Cond.initialized yX11_feedNumber.cls ∈ gtbl ∧ (parseMethodDescriptor yX11_feedNumber.desc).map (fun d => d.parameters.length) = some 1 := ⟨⟨by decide +kernel, by decide +kernel⟩, q_n_MerryDuchy, by decide +kernel⟩
theorem nb_X11_fits : (yX11_fits.cls ≠ "java/lang/invoke/MethodHandle" ∧ yX11_fits.cls ≠ "java/lang/invoke/VarHandle") ∧ Cond.initialized yX11_fits.cls ∈ gtbl ∧ (parseMethodDescriptor yX11_fits.desc).map (fun d => d.parameters.length) = some 0 := ⟨⟨by decide +kernel, by decide +kernel⟩, q_n_MerryDuchy, by decide +kernel⟩
theorem nb_X11_forfeit : (yX11_forfeit.cls ≠ "java/lang/invoke/MethodHandle" ∧ yX11_forfeit.cls ≠ "java/lang/invoke/VarHandle") ∧ Cond.initialized yX11_forfeit.cls ∈ gtbl ∧ (parseMethodDescriptor yX11_forfeit.desc).map (fun d => d.parameters.length) = some 2 := ⟨⟨by decide +kernel, by decide +kernel⟩, q_n_MerryDuchy, by decide +kernel⟩
theorem nb_X11_good : (yX11_good.cls ≠ "java/lang/invoke/MethodHandle" ∧ yX11_good.cls ≠ "java/lang/invoke/VarHandle") ∧ Cond.initialized yX11_good.cls ∈ gtbl ∧ (parseMethodDescriptor yX11_good.desc).map (fun d => d.parameters.length) = some 2 := ⟨⟨by decide +kernel, by decide +kernel⟩, q_n_MerryDuchy, by decide +kernel⟩
theorem nb_X11_image : (yX11_image.cls ≠ "java/lang/invoke/MethodHandle" ∧ yX11_image.cls ≠ "java/lang/invoke/VarHandle") ∧ Cond.initialized yX11_image.cls ∈ gtbl ∧ (parseMethodDescriptor yX11_image.desc).map (fun d => d.parameters.length) = some 1 := ⟨⟨by decide +kernel, by decide +kernel⟩, q_n_MerryDuchy, by decide +kernel⟩
theorem nb_X11_init : (yX11_init.cls ≠ "java/lang/invoke/MethodHandle" ∧ yX11_init.cls ≠ "java/lang/invoke/VarHandle") ∧ Cond.initialized yX11_init.cls ∈ gtbl ∧ (parseMethodDescriptor yX11_init.desc).map (fun d => d.parameters.length) = some 0 := ⟨⟨by decide +kernel, by decide +kernel⟩, q_n_MerryDuchy, by decide +kernel⟩
theorem nb_X11_lasts : (yX11_lasts.cls ≠ "java/lang/invoke/MethodHandle" ∧ yX11_lasts.cls ≠ "java/lang/invoke/VarHandle") ∧ Cond.initialized yX11_lasts.cls ∈ gtbl ∧ (parseMethodDescriptor yX11_lasts.desc).map (fun d => d.parameters.length) = some 2 := ⟨⟨by decide +kernel, by decide +kernel⟩, q_n_MerryDuchy, by decide +kernel⟩
theorem nb_X11_lend : (yX11_lend.cls ≠ "java/lang/invoke/MethodHandle" ∧ yX11_lend.cls ≠ "java/lang/invoke/VarHandle") ∧ Cond.initialized yX11_lend.cls ∈ gtbl ∧ (parseMethodDescriptor yX11_lend.desc).map (fun d => d.parameters.length) = some 3 := ⟨⟨by decide +kernel, by decide +kernel⟩, q_n_MerryDuchy, by decide +kernel⟩
theorem nb_X11_list : (yX11_list.cls ≠ "java/lang/invoke/MethodHandle" ∧ yX11_list.cls ≠ "java/lang/invoke/VarHandle") ∧ Cond.initialized yX11_list.cls ∈ gtbl ∧ (parseMethodDescriptor yX11_list.desc).map (fun d => d.parameters.length) = some 1 := ⟨⟨by decide +kernel, by decide +kernel⟩, q_n_MerryDuchy, by decide +kernel⟩
theorem nb_X11_now : (yX11_now.cls ≠ "java/lang/invoke/MethodHandle" ∧ yX11_now.cls ≠ "java/lang/invoke/VarHandle") ∧ Cond.initialized yX11_now.cls ∈ gtbl ∧ (parseMethodDescriptor yX11_now.desc).map (fun d => d.parameters.length) = some 1 := ⟨⟨by decide +kernel, by decide +kernel⟩, q_n_MerryDuchy, by decide +kernel⟩
theorem nb_X11_odds : (yX11_odds.cls ≠ "java/lang/invoke/MethodHandle" ∧ yX11_odds.cls ≠ "java/lang/invoke/VarHandle") ∧ Cond.initialized yX11_odds.cls ∈ gtbl ∧ (parseMethodDescriptor yX11_odds.desc).map (fun d => d.parameters.length) = some 3 := ⟨⟨by decide +kernel, by decide +kernel⟩, q_n_MerryDuchy, by decide +kernel⟩
theorem nb_X11_owes : (yX11_owes.cls ≠ "java/lang/invoke/MethodHandle" ∧ yX11_owes.cls ≠ "java/lang/invoke/VarHandle") ∧ Cond.initialized yX11_owes.cls ∈ gtbl ∧ (parseMethodDescriptor yX11_owes.desc).map (fun d => d.parameters.length) = some 2 := ⟨⟨by decide +kernel, by decide +kernel⟩, q_n_MerryDuchy, by decide +kernel⟩
theorem nb_X11_plan : (yX11_plan.cls ≠ "java/lang/invoke/MethodHandle" ∧ yX11_plan.cls ≠ "java/lang/invoke/VarHandle") ∧ Cond.initialized yX11_plan.cls ∈ gtbl ∧ (parseMethodDescriptor yX11_plan.desc).map (fun d => d.parameters.length) = some 2 := ⟨⟨by decide +kernel, by decide +kernel⟩, q_n_MerryDuchy, by decide +kernel⟩
theorem nb_X11_planned : (yX11_planned.cls ≠ "java/lang/invoke/MethodHandle" ∧ yX11_planned.cls ≠ "java/lang/invoke/VarHandle") ∧ Cond.initialized yX11_planned.cls ∈ gtbl ∧ (parseMethodDescriptor yX11_planned.desc).map (fun d => d.parameters.length) = some 1 := ⟨⟨by decide +kernel, by decide +kernel⟩, q_n_MerryDuchy, by decide +kernel⟩
theorem nb_X11_proudest : (yX11_proudest.cls ≠ "java/lang/invoke/MethodHandle" ∧ yX11_proudest.cls ≠ "java/lang/invoke/VarHandle") ∧ Cond.initialized yX11_proudest.cls ∈ gtbl ∧ (parseMethodDescriptor yX11_proudest.desc).map (fun d => d.parameters.length) = some 0 := ⟨⟨by decide +kernel, by decide +kernel⟩, q_n_MerryDuchy, by decide +kernel⟩
theorem nb_X11_repay : (yX11_repay.cls ≠ "java/lang/invoke/MethodHandle" ∧ yX11_repay.cls ≠ "java/lang/invoke/VarHandle") ∧ Cond.initialized yX11_repay.cls ∈ gtbl ∧ (parseMethodDescriptor yX11_repay.desc).map (fun d => d.parameters.length) = some 3 := ⟨⟨by decide +kernel, by decide +kernel⟩, q_n_MerryDuchy, by decide +kernel⟩
theorem nb_X11_restore : (yX11_restore.cls ≠ "java/lang/invoke/MethodHandle" ∧ yX11_restore.cls ≠ "java/lang/invoke/VarHandle") ∧ Cond.initialized yX11_restore.cls ∈ gtbl ∧ (parseMethodDescriptor yX11_restore.desc).map (fun d => d.parameters.length) = some 1 := ⟨⟨by decide +kernel, by decide +kernel⟩, q_n_MerryDuchy, by decide +kernel⟩
theorem nb_X11_ring : (yX11_ring.cls ≠ "java/lang/invoke/MethodHandle" ∧ yX11_ring.cls ≠ "java/lang/invoke/VarHandle") ∧ Cond.initialized yX11_ring.cls ∈ gtbl ∧ (parseMethodDescriptor yX11_ring.desc).map (fun d => d.parameters.length) = some 0 := ⟨⟨by decide +kernel, by decide +kernel⟩, q_n_MerryDuchy, by decide +kernel⟩
theorem nb_X11_ringAt : (yX11_ringAt.cls ≠ "java/lang/invoke/MethodHandle" ∧ yX11_ringAt.cls ≠ "java/lang/invoke/VarHandle") ∧ Cond.initialized yX11_ringAt.cls ∈ gtbl ∧ (parseMethodDescriptor yX11_ringAt.desc).map (fun d => d.parameters.length) = some 1 := ⟨⟨by decide +kernel, by decide +kernel⟩, q_n_MerryDuchy, by decide +kernel⟩
theorem nb_X11_said : (yX11_said.cls ≠ "java/lang/invoke/MethodHandle" ∧ yX11_said.cls ≠ "java/lang/invoke/VarHandle") ∧ Cond.initialized yX11_said.cls ∈ gtbl ∧ (parseMethodDescriptor yX11_said.desc).map (fun d => d.parameters.length) = some 1 := ⟨⟨by decide +kernel, by decide +kernel⟩, q_n_MerryDuchy, by decide +kernel⟩
theorem nb_X11_sentence : (yX11_sentence.cls ≠ "java/lang/invoke/MethodHandle" ∧ yX11_sentence.cls ≠ "java/lang/invoke/VarHandle") ∧ Cond.initialized yX11_sentence.cls ∈ gtbl ∧ (parseMethodDescriptor yX11_sentence.desc).map (fun d => d.parameters.length) = some 0 := ⟨⟨by decide +kernel, by decide +kernel⟩, q_n_MerryDuchy, by decide +kernel⟩
theorem nb_X11_share : (yX11_share.cls ≠ "java/lang/invoke/MethodHandle" ∧ yX11_share.cls ≠ "java/lang/invoke/VarHandle") ∧ Cond.initialized yX11_share.cls ∈ gtbl ∧ (parseMethodDescriptor yX11_share.desc).map (fun d => d.parameters.length) = some 3 := ⟨⟨by decide +kernel, by decide +kernel⟩, q_n_MerryDuchy, by decide +kernel⟩
theorem nb_X11_startTokens : (yX11_startTokens.cls ≠ "java/lang/invoke/MethodHandle" ∧ yX11_startTokens.cls ≠ "java/lang/invoke/VarHandle") ∧ Cond.initialized yX11_startTokens.cls ∈ gtbl ∧ (parseMethodDescriptor yX11_startTokens.desc).map (fun d => d.parameters.length) = some 1 := ⟨⟨by decide +kernel, by decide +kernel⟩, q_n_MerryDuchy, by decide +kernel⟩
theorem nb_X11_strike : (yX11_strike.cls ≠ "java/lang/invoke/MethodHandle" ∧ yX11_strike.cls ≠ "java/lang/invoke/VarHandle") ∧ Cond.initialized yX11_strike.cls ∈ gtbl ∧ (parseMethodDescriptor yX11_strike.desc).map (fun d => d.parameters.length) = some 0 := ⟨⟨by decide +kernel, by decide +kernel⟩, q_n_MerryDuchy, by decide +kernel⟩
theorem nb_X11_sum : (yX11_sum.cls ≠ "java/lang/invoke/MethodHandle" ∧ yX11_sum.cls ≠ "java/lang/invoke/VarHandle") ∧ Cond.initialized yX11_sum.cls ∈ gtbl ∧ (parseMethodDescriptor yX11_sum.desc).map (fun d => d.parameters.length) = some 4 := ⟨⟨by decide +kernel, by decide +kernel⟩, q_n_MerryDuchy, by decide +kernel⟩
theorem nb_X11_tax : (yX11_tax.cls ≠ "java/lang/invoke/MethodHandle" ∧ yX11_tax.cls ≠ "java/lang/invoke/VarHandle") ∧ Cond.initialized yX11_tax.cls ∈ gtbl ∧ (parseMethodDescriptor yX11_tax.desc).map (fun d => d.parameters.length) = some 1 := ⟨⟨by decide +kernel, by decide +kernel⟩, q_n_MerryDuchy, by decide +kernel⟩
theorem nb_X11_taxOf : (yX11_taxOf.cls ≠ "java/lang/invoke/MethodHandle" ∧ yX11_taxOf.cls ≠ "java/lang/invoke/VarHandle") ∧ Cond.initialized yX11_taxOf.cls ∈ gtbl ∧ (parseMethodDescriptor yX11_taxOf.desc).map (fun d => d.parameters.length) = some 1 := ⟨⟨by decide +kernel, by decide +kernel⟩, q_n_MerryDuchy, by decide +kernel⟩
theorem nb_X11_tells : (yX11_tells.cls ≠ "java/lang/invoke/MethodHandle" ∧ yX11_tells.cls ≠ "java/lang/invoke/VarHandle") ∧ Cond.initialized yX11_tells.cls ∈ gtbl ∧ (parseMethodDescriptor yX11_tells.desc).map (fun d => d.parameters.length) = some 0 := ⟨⟨by decide +kernel, by decide +kernel⟩, q_n_MerryDuchy, by decide +kernel⟩
theorem nb_X11_times : (yX11_times.cls ≠ "java/lang/invoke/MethodHandle" ∧ yX11_times.cls ≠ "java/lang/invoke/VarHandle") ∧ Cond.initialized yX11_times.cls ∈ gtbl ∧ (parseMethodDescriptor yX11_times.desc).map (fun d => d.parameters.length) = some 2 := ⟨⟨by decide +kernel, by decide +kernel⟩, q_n_MerryDuchy, by decide +kernel⟩
theorem nb_X11_told : (yX11_told.cls ≠ "java/lang/invoke/MethodHandle" ∧ yX11_told.cls ≠ "java/lang/invoke/VarHandle") ∧ Cond.initialized yX11_told.cls ∈ gtbl ∧ (parseMethodDescriptor yX11_told.desc).map (fun d => d.parameters.length) = some 1 := ⟨⟨by decide +kernel, by decide +kernel⟩, q_n_MerryDuchy, by decide +kernel⟩
theorem nb_X11_triedBetween : (yX11_triedBetween.cls ≠ "java/lang/invoke/MethodHandle" ∧ yX11_triedBetween.cls ≠ "java/lang/invoke/VarHandle") ∧ Cond.initialized yX11_triedBetween.cls ∈ gtbl ∧ (parseMethodDescriptor yX11_triedBetween.desc).map (fun d => d.parameters.length) = some 4 := ⟨⟨by decide +kernel, by decide +kernel⟩, q_n_MerryDuchy, by decide +kernel⟩
theorem nb_X11_undo : (yX11_undo.cls ≠ "java/lang/invoke/MethodHandle" ∧ yX11_undo.cls ≠ "java/lang/invoke/VarHandle") ∧ Cond.initialized yX11_undo.cls ∈ gtbl ∧ (parseMethodDescriptor yX11_undo.desc).map (fun d => d.parameters.length) = some 0 := ⟨⟨by decide +kernel, by decide +kernel⟩, q_n_MerryDuchy, by decide +kernel⟩
theorem nb_X11_weeks : (yX11_weeks.cls ≠ "java/lang/invoke/MethodHandle" ∧ yX11_weeks.cls ≠ "java/lang/invoke/VarHandle") ∧ Cond.initialized yX11_weeks.cls ∈ gtbl ∧ (parseMethodDescriptor yX11_weeks.desc).map (fun d => d.parameters.length) = some 1 := ⟨⟨by decide +kernel, by decide +kernel⟩, q_n_MerryDuchy, by decide +kernel⟩
theorem nb_X11_weeksToGo : (yX11_weeksToGo.cls ≠ "java/lang/invoke/MethodHandle" ∧ yX11_weeksToGo.cls ≠ "java/lang/invoke/VarHandle") ∧ Cond.initialized yX11_weeksToGo.cls ∈ gtbl ∧ (parseMethodDescriptor yX11_weeksToGo.desc).map (fun d => d.parameters.length) = some 2 := ⟨⟨by decide +kernel, by decide +kernel⟩, q_n_MerryDuchy, by decide +kernel⟩
theorem nb_X11_worth : (yX11_worth.cls ≠ "java/lang/invoke/MethodHandle" ∧ yX11_worth.cls ≠ "java/lang/invoke/VarHandle") ∧ Cond.initialized yX11_worth.cls ∈ gtbl ∧ (parseMethodDescriptor yX11_worth.desc).map (fun d => d.parameters.length) = some 2 := ⟨⟨by decide +kernel, by decide +kernel⟩, q_n_MerryDuchy, by decide +kernel⟩
theorem nb_X12_bad : (yX12_bad.cls ≠ "java/lang/invoke/MethodHandle" ∧ yX12_bad.cls ≠ "java/lang/invoke/VarHandle") ∧ Cond.initialized yX12_bad.cls ∈ gtbl ∧ (parseMethodDescriptor yX12_bad.desc).map (fun d => d.parameters.length) = some 1 := ⟨⟨by decide +kernel, by decide +kernel⟩, q_n_MerryDuchyModel, by decide +kernel⟩
theorem nb_X12_begin : (yX12_begin.cls ≠ "java/lang/invoke/MethodHandle" ∧ yX12_begin.cls ≠ "java/lang/invoke/VarHandle") ∧ Cond.initialized yX12_begin.cls ∈ gtbl ∧ (parseMethodDescriptor yX12_begin.desc).map (fun d => d.parameters.length) = some 1 := ⟨⟨by decide +kernel, by decide +kernel⟩, q_n_MerryDuchyModel, by decide +kernel⟩
theorem nb_X12_book : (yX12_book.cls ≠ "java/lang/invoke/MethodHandle" ∧ yX12_book.cls ≠ "java/lang/invoke/VarHandle") ∧ Cond.initialized yX12_book.cls ∈ gtbl ∧ (parseMethodDescriptor yX12_book.desc).map (fun d => d.parameters.length) = some 1 := ⟨⟨by decide +kernel, by decide +kernel⟩, q_n_MerryDuchyModel, by decide +kernel⟩
theorem nb_X12_bought : (yX12_bought.cls ≠ "java/lang/invoke/MethodHandle" ∧ yX12_bought.cls ≠ "java/lang/invoke/VarHandle") ∧ Cond.initialized yX12_bought.cls ∈ gtbl ∧ (parseMethodDescriptor yX12_bought.desc).map (fun d => d.parameters.length) = some 2 := ⟨⟨by decide +kernel, by decide +kernel⟩, q_n_MerryDuchyModel, by decide +kernel⟩
theorem nb_X12_buy : (yX12_buy.cls ≠ "java/lang/invoke/MethodHandle" ∧ yX12_buy.cls ≠ "java/lang/invoke/VarHandle") ∧ Cond.initialized yX12_buy.cls ∈ gtbl ∧ (parseMethodDescriptor yX12_buy.desc).map (fun d => d.parameters.length) = some 2 := ⟨⟨by decide +kernel, by decide +kernel⟩, q_n_MerryDuchyModel, by decide +kernel⟩
theorem nb_X12_byteAt : (yX12_byteAt.cls ≠ "java/lang/invoke/MethodHandle" ∧ yX12_byteAt.cls ≠ "java/lang/invoke/VarHandle") ∧ Cond.initialized yX12_byteAt.cls ∈ gtbl ∧ (parseMethodDescriptor yX12_byteAt.desc).map (fun d => d.parameters.length) = some 1 := ⟨⟨by decide +kernel, by decide +kernel⟩, q_n_MerryDuchyModel, by decide +kernel⟩
theorem nb_X12_come : (yX12_come.cls ≠ "java/lang/invoke/MethodHandle" ∧ yX12_come.cls ≠ "java/lang/invoke/VarHandle") ∧ Cond.initialized yX12_come.cls ∈ gtbl ∧ (parseMethodDescriptor yX12_come.desc).map (fun d => d.parameters.length) = some 1 := ⟨⟨by decide +kernel, by decide +kernel⟩, q_n_MerryDuchyModel, by decide +kernel⟩
theorem nb_X12_cost : (yX12_cost.cls ≠ "java/lang/invoke/MethodHandle" ∧ yX12_cost.cls ≠ "java/lang/invoke/VarHandle") ∧ Cond.initialized yX12_cost.cls ∈ gtbl ∧ (parseMethodDescriptor yX12_cost.desc).map (fun d => d.parameters.length) = some 2 := ⟨⟨by decide +kernel, by decide +kernel⟩, q_n_MerryDuchyModel, by decide +kernel⟩
theorem nb_X12_count : (yX12_count.cls ≠ "java/lang/invoke/MethodHandle" ∧ yX12_count.cls ≠ "java/lang/invoke/VarHandle") ∧ Cond.initialized yX12_count.cls ∈ gtbl ∧ (parseMethodDescriptor yX12_count.desc).map (fun d => d.parameters.length) = some 1 := ⟨⟨by decide +kernel, by decide +kernel⟩, q_n_MerryDuchyModel, by decide +kernel⟩
theorem nb_X12_drawn : (yX12_drawn.cls ≠ "java/lang/invoke/MethodHandle" ∧ yX12_drawn.cls ≠ "java/lang/invoke/VarHandle") ∧ Cond.initialized yX12_drawn.cls ∈ gtbl ∧ (parseMethodDescriptor yX12_drawn.desc).map (fun d => d.parameters.length) = some 2 := ⟨⟨by decide +kernel, by decide +kernel⟩, q_n_MerryDuchyModel, by decide +kernel⟩
theorem nb_X12_duchy : (yX12_duchy.cls ≠ "java/lang/invoke/MethodHandle" ∧ yX12_duchy.cls ≠ "java/lang/invoke/VarHandle") ∧ Cond.initialized yX12_duchy.cls ∈ gtbl ∧ (parseMethodDescriptor yX12_duchy.desc).map (fun d => d.parameters.length) = some 0 := ⟨⟨by decide +kernel, by decide +kernel⟩, q_n_MerryDuchyModel, by decide +kernel⟩
theorem nb_X12_end : (yX12_end.cls ≠ "java/lang/invoke/MethodHandle" ∧ yX12_end.cls ≠ "java/lang/invoke/VarHandle") ∧ Cond.initialized yX12_end.cls ∈ gtbl ∧ (parseMethodDescriptor yX12_end.desc).map (fun d => d.parameters.length) = some 1 := ⟨⟨by decide +kernel, by decide +kernel⟩, q_n_MerryDuchyModel, by decide +kernel⟩
theorem nb_X12_even : (yX12_even.cls ≠ "java/lang/invoke/MethodHandle" ∧ yX12_even.cls ≠ "java/lang/invoke/VarHandle") ∧ Cond.initialized yX12_even.cls ∈ gtbl ∧ (parseMethodDescriptor yX12_even.desc).map (fun d => d.parameters.length) = some 0 := ⟨⟨by decide +kernel, by decide +kernel⟩, q_n_MerryDuchyModel, by decide +kernel⟩
theorem nb_X12_fault : (yX12_fault.cls ≠ "java/lang/invoke/MethodHandle" ∧ yX12_fault.cls ≠ "java/lang/invoke/VarHandle") ∧ Cond.initialized yX12_fault.cls ∈ gtbl ∧ (parseMethodDescriptor yX12_fault.desc).map (fun d => d.parameters.length) = some 0 := ⟨⟨by decide +kernel, by decide +kernel⟩, q_n_MerryDuchyModel, by decide +kernel⟩
theorem nb_X12_feed : (yX12_feed.cls ≠ "java/lang/invoke/MethodHandle" ∧ yX12_feed.cls ≠ "java/lang/invoke/VarHandle") ∧ Cond.initialized yX12_feed.cls ∈ gtbl ∧ (parseMethodDescriptor yX12_feed.desc).map (fun d => d.parameters.length) = some 5 := ⟨⟨by decide +kernel, by decide +kernel⟩, q_n_MerryDuchyModel, by decide +kernel⟩
theorem nb_X12_fits : (yX12_fits.cls ≠ "java/lang/invoke/MethodHandle" ∧ yX12_fits.cls ≠ "java/lang/invoke/VarHandle") ∧ Cond.initialized yX12_fits.cls ∈ gtbl ∧ (parseMethodDescriptor yX12_fits.desc).map (fun d => d.parameters.length) = some 0 := ⟨⟨by decide +kernel, by decide +kernel⟩, q_n_MerryDuchyModel, by decide +kernel⟩
theorem nb_X12_forfeit : (yX12_forfeit.cls ≠ "java/lang/invoke/MethodHandle" ∧ yX12_forfeit.cls ≠ "java/lang/invoke/VarHandle") ∧ Cond.initialized yX12_forfeit.cls ∈ gtbl ∧ (parseMethodDescriptor yX12_forfeit.desc).map (fun d => d.parameters.length) = some 2 := ⟨⟨by decide +kernel, by decide +kernel⟩, q_n_MerryDuchyModel, by decide +kernel⟩
theorem nb_X12_go : (yX12_go.cls ≠ "java/lang/invoke/MethodHandle" ∧ yX12_go.cls ≠ "java/lang/invoke/VarHandle") ∧ Cond.initialized yX12_go.cls ∈ gtbl ∧ (parseMethodDescriptor yX12_go.desc).map (fun d => d.parameters.length) = some 0 := ⟨⟨by decide +kernel, by decide +kernel⟩, q_n_MerryDuchyModel, by decide +kernel⟩
theorem nb_X12_good : (yX12_good.cls ≠ "java/lang/invoke/MethodHandle" ∧ yX12_good.cls ≠ "java/lang/invoke/VarHandle") ∧ Cond.initialized yX12_good.cls ∈ gtbl ∧ (parseMethodDescriptor yX12_good.desc).map (fun d => d.parameters.length) = some 2 := ⟨⟨by decide +kernel, by decide +kernel⟩, q_n_MerryDuchyModel, by decide +kernel⟩
theorem nb_X12_image : (yX12_image.cls ≠ "java/lang/invoke/MethodHandle" ∧ yX12_image.cls ≠ "java/lang/invoke/VarHandle") ∧ Cond.initialized yX12_image.cls ∈ gtbl ∧ (parseMethodDescriptor yX12_image.desc).map (fun d => d.parameters.length) = some 1 := ⟨⟨by decide +kernel, by decide +kernel⟩, q_n_MerryDuchyModel, by decide +kernel⟩
theorem nb_X12_init : (yX12_init.cls ≠ "java/lang/invoke/MethodHandle" ∧ yX12_init.cls ≠ "java/lang/invoke/VarHandle") ∧ Cond.initialized yX12_init.cls ∈ gtbl ∧ (parseMethodDescriptor yX12_init.desc).map (fun d => d.parameters.length) = some 0 := ⟨⟨by decide +kernel, by decide +kernel⟩, q_n_MerryDuchyModel, by decide +kernel⟩
theorem nb_X12_isGood : (yX12_isGood.cls ≠ "java/lang/invoke/MethodHandle" ∧ yX12_isGood.cls ≠ "java/lang/invoke/VarHandle") ∧ Cond.initialized yX12_isGood.cls ∈ gtbl ∧ (parseMethodDescriptor yX12_isGood.desc).map (fun d => d.parameters.length) = some 1 := ⟨⟨by decide +kernel, by decide +kernel⟩, q_n_MerryDuchyModel, by decide +kernel⟩
theorem nb_X12_isIn : (yX12_isIn.cls ≠ "java/lang/invoke/MethodHandle" ∧ yX12_isIn.cls ≠ "java/lang/invoke/VarHandle") ∧ Cond.initialized yX12_isIn.cls ∈ gtbl ∧ (parseMethodDescriptor yX12_isIn.desc).map (fun d => d.parameters.length) = some 3 := ⟨⟨by decide +kernel, by decide +kernel⟩, q_n_MerryDuchyModel, by decide +kernel⟩
theorem nb_X12_isMan : (yX12_isMan.cls ≠ "java/lang/invoke/MethodHandle" ∧ yX12_isMan.cls ≠ "java/lang/invoke/VarHandle") ∧ Cond.initialized yX12_isMan.cls ∈ gtbl ∧ (parseMethodDescriptor yX12_isMan.desc).map (fun d => d.parameters.length) = some 1 := ⟨⟨by decide +kernel, by decide +kernel⟩, q_n_MerryDuchyModel, by decide +kernel⟩
theorem nb_X12_isSign : (yX12_isSign.cls ≠ "java/lang/invoke/MethodHandle" ∧ yX12_isSign.cls ≠ "java/lang/invoke/VarHandle") ∧ Cond.initialized yX12_isSign.cls ∈ gtbl ∧ (parseMethodDescriptor yX12_isSign.desc).map (fun d => d.parameters.length) = some 1 := ⟨⟨by decide +kernel, by decide +kernel⟩, q_n_MerryDuchyModel, by decide +kernel⟩
theorem nb_X12_isWord : (yX12_isWord.cls ≠ "java/lang/invoke/MethodHandle" ∧ yX12_isWord.cls ≠ "java/lang/invoke/VarHandle") ∧ Cond.initialized yX12_isWord.cls ∈ gtbl ∧ (parseMethodDescriptor yX12_isWord.desc).map (fun d => d.parameters.length) = some 1 := ⟨⟨by decide +kernel, by decide +kernel⟩, q_n_MerryDuchyModel, by decide +kernel⟩
theorem nb_X12_lasts : (yX12_lasts.cls ≠ "java/lang/invoke/MethodHandle" ∧ yX12_lasts.cls ≠ "java/lang/invoke/VarHandle") ∧ Cond.initialized yX12_lasts.cls ∈ gtbl ∧ (parseMethodDescriptor yX12_lasts.desc).map (fun d => d.parameters.length) = some 2 := ⟨⟨by decide +kernel, by decide +kernel⟩, q_n_MerryDuchyModel, by decide +kernel⟩
theorem nb_X12_layAside : (yX12_layAside.cls ≠ "java/lang/invoke/MethodHandle" ∧ yX12_layAside.cls ≠ "java/lang/invoke/VarHandle") ∧ Cond.initialized yX12_layAside.cls ∈ gtbl ∧ (parseMethodDescriptor yX12_layAside.desc).map (fun d => d.parameters.length) = some 0 := ⟨⟨by decide +kernel, by decide +kernel⟩, q_n_MerryDuchyModel, by decide +kernel⟩
theorem nb_X12_layReach : (yX12_layReach.cls ≠ "java/lang/invoke/MethodHandle" ∧ yX12_layReach.cls ≠ "java/lang/invoke/VarHandle") ∧ Cond.initialized yX12_layReach.cls ∈ gtbl ∧ (parseMethodDescriptor yX12_layReach.desc).map (fun d => d.parameters.length) = some 1 := ⟨⟨by decide +kernel, by decide +kernel⟩, q_n_MerryDuchyModel, by decide +kernel⟩
theorem nb_X12_layRing : (yX12_layRing.cls ≠ "java/lang/invoke/MethodHandle" ∧ yX12_layRing.cls ≠ "java/lang/invoke/VarHandle") ∧ Cond.initialized yX12_layRing.cls ∈ gtbl ∧ (parseMethodDescriptor yX12_layRing.desc).map (fun d => d.parameters.length) = some 0 := ⟨⟨by decide +kernel, by decide +kernel⟩, q_n_MerryDuchyModel, by decide +kernel⟩
theorem nb_X12_least : (yX12_least.cls ≠ "java/lang/invoke/MethodHandle" ∧ yX12_least.cls ≠ "java/lang/invoke/VarHandle") ∧ Cond.initialized yX12_least.cls ∈ gtbl ∧ (parseMethodDescriptor yX12_least.desc).map (fun d => d.parameters.length) = some 2 := ⟨⟨by decide +kernel, by decide +kernel⟩, q_n_MerryDuchyModel, by decide +kernel⟩
theorem nb_X12_lend : (yX12_lend.cls ≠ "java/lang/invoke/MethodHandle" ∧ yX12_lend.cls ≠ "java/lang/invoke/VarHandle") ∧ Cond.initialized yX12_lend.cls ∈ gtbl ∧ (parseMethodDescriptor yX12_lend.desc).map (fun d => d.parameters.length) = some 3 := ⟨⟨by decide +kernel, by decide +kernel⟩, q_n_MerryDuchyModel, by decide +kernel⟩
theorem nb_X12_list : (yX12_list.cls ≠ "java/lang/invoke/MethodHandle" ∧ yX12_list.cls ≠ "java/lang/invoke/VarHandle") ∧ Cond.initialized yX12_list.cls ∈ gtbl ∧ (parseMethodDescriptor yX12_list.desc).map (fun d => d.parameters.length) = some 1 := ⟨⟨by decide +kernel, by decide +kernel⟩, q_n_MerryDuchyModel, by decide +kernel⟩
theorem nb_X12_now : (yX12_now.cls ≠ "java/lang/invoke/MethodHandle" ∧ yX12_now.cls ≠ "java/lang/invoke/VarHandle") ∧ Cond.initialized yX12_now.cls ∈ gtbl ∧ (parseMethodDescriptor yX12_now.desc).map (fun d => d.parameters.length) = some 1 := ⟨⟨by decide +kernel, by decide +kernel⟩, q_n_MerryDuchyModel, by decide +kernel⟩
theorem nb_X12_odds : (yX12_odds.cls ≠ "java/lang/invoke/MethodHandle" ∧ yX12_odds.cls ≠ "java/lang/invoke/VarHandle") ∧ Cond.initialized yX12_odds.cls ∈ gtbl ∧ (parseMethodDescriptor yX12_odds.desc).map (fun d => d.parameters.length) = some 3 := ⟨⟨by decide +kernel, by decide +kernel⟩, q_n_MerryDuchyModel, by decide +kernel⟩
theorem nb_X12_oneWeek : (yX12_oneWeek.cls ≠ "java/lang/invoke/MethodHandle" ∧ yX12_oneWeek.cls ≠ "java/lang/invoke/VarHandle") ∧ Cond.initialized yX12_oneWeek.cls ∈ gtbl ∧ (parseMethodDescriptor yX12_oneWeek.desc).map (fun d => d.parameters.length) = some 0 := ⟨⟨by decide +kernel, by decide +kernel⟩, q_n_MerryDuchyModel, by decide +kernel⟩
theorem nb_X12_owes : (yX12_owes.cls ≠ "java/lang/invoke/MethodHandle" ∧ yX12_owes.cls ≠ "java/lang/invoke/VarHandle") ∧ Cond.initialized yX12_owes.cls ∈ gtbl ∧ (parseMethodDescriptor yX12_owes.desc).map (fun d => d.parameters.length) = some 2 := ⟨⟨by decide +kernel, by decide +kernel⟩, q_n_MerryDuchyModel, by decide +kernel⟩
theorem nb_X12_passWeeks : (yX12_passWeeks.cls ≠ "java/lang/invoke/MethodHandle" ∧ yX12_passWeeks.cls ≠ "java/lang/invoke/VarHandle") ∧ Cond.initialized yX12_passWeeks.cls ∈ gtbl ∧ (parseMethodDescriptor yX12_passWeeks.desc).map (fun d => d.parameters.length) = some 1 := ⟨⟨by decide +kernel, by decide +kernel⟩, q_n_MerryDuchyModel, by decide +kernel⟩
theorem nb_X12_plan : (yX12_plan.cls ≠ "java/lang/invoke/MethodHandle" ∧ yX12_plan.cls ≠ "java/lang/invoke/VarHandle") ∧ Cond.initialized yX12_plan.cls ∈ gtbl ∧ (parseMethodDescriptor yX12_plan.desc).map (fun d => d.parameters.length) = some 2 := ⟨⟨by decide +kernel, by decide +kernel⟩, q_n_MerryDuchyModel, by decide +kernel⟩
theorem nb_X12_planned : (yX12_planned.cls ≠ "java/lang/invoke/MethodHandle" ∧ yX12_planned.cls ≠ "java/lang/invoke/VarHandle") ∧ Cond.initialized yX12_planned.cls ∈ gtbl ∧ (parseMethodDescriptor yX12_planned.desc).map (fun d => d.parameters.length) = some 1 := ⟨⟨by decide +kernel, by decide +kernel⟩, q_n_MerryDuchyModel, by decide +kernel⟩
theorem nb_X12_proudest : (yX12_proudest.cls ≠ "java/lang/invoke/MethodHandle" ∧ yX12_proudest.cls ≠ "java/lang/invoke/VarHandle") ∧ Cond.initialized yX12_proudest.cls ∈ gtbl ∧ (parseMethodDescriptor yX12_proudest.desc).map (fun d => d.parameters.length) = some 0 := ⟨⟨by decide +kernel, by decide +kernel⟩, q_n_MerryDuchyModel, by decide +kernel⟩
theorem nb_X12_readAnd : (yX12_readAnd.cls ≠ "java/lang/invoke/MethodHandle" ∧ yX12_readAnd.cls ≠ "java/lang/invoke/VarHandle") ∧ Cond.initialized yX12_readAnd.cls ∈ gtbl ∧ (parseMethodDescriptor yX12_readAnd.desc).map (fun d => d.parameters.length) = some 0 := ⟨⟨by decide +kernel, by decide +kernel⟩, q_n_MerryDuchyModel, by decide +kernel⟩
theorem nb_X12_readOr : (yX12_readOr.cls ≠ "java/lang/invoke/MethodHandle" ∧ yX12_readOr.cls ≠ "java/lang/invoke/VarHandle") ∧ Cond.initialized yX12_readOr.cls ∈ gtbl ∧ (parseMethodDescriptor yX12_readOr.desc).map (fun d => d.parameters.length) = some 0 := ⟨⟨by decide +kernel, by decide +kernel⟩, q_n_MerryDuchyModel, by decide +kernel⟩
theorem nb_X12_readSaid : (yX12_readSaid.cls ≠ "java/lang/invoke/MethodHandle" ∧ yX12_readSaid.cls ≠ "java/lang/invoke/VarHandle") ∧ Cond.initialized yX12_readSaid.cls ∈ gtbl ∧ (parseMethodDescriptor yX12_readSaid.desc).map (fun d => d.parameters.length) = some 0 := ⟨⟨by decide +kernel, by decide +kernel⟩, q_n_MerryDuchyModel, by decide +kernel⟩
theorem nb_X12_repay : (yX12_repay.cls ≠ "java/lang/invoke/MethodHandle" ∧ yX12_repay.cls ≠ "java/lang/invoke/VarHandle") ∧ Cond.initialized yX12_repay.cls ∈ gtbl ∧ (parseMethodDescriptor yX12_repay.desc).map (fun d => d.parameters.length) = some 3 := ⟨⟨by decide +kernel, by decide +kernel⟩, q_n_MerryDuchyModel, by decide +kernel⟩
theorem nb_X12_restore : (yX12_restore.cls ≠ "java/lang/invoke/MethodHandle" ∧ yX12_restore.cls ≠ "java/lang/invoke/VarHandle") ∧ Cond.initialized yX12_restore.cls ∈ gtbl ∧ (parseMethodDescriptor yX12_restore.desc).map (fun d => d.parameters.length) = some 1 := ⟨⟨by decide +kernel, by decide +kernel⟩, q_n_MerryDuchyModel, by decide +kernel⟩
theorem nb_X12_ring : (yX12_ring.cls ≠ "java/lang/invoke/MethodHandle" ∧ yX12_ring.cls ≠ "java/lang/invoke/VarHandle") ∧ Cond.initialized yX12_ring.cls ∈ gtbl ∧ (parseMethodDescriptor yX12_ring.desc).map (fun d => d.parameters.length) = some 0 := ⟨⟨by decide +kernel, by decide +kernel⟩, q_n_MerryDuchyModel, by decide +kernel⟩
theorem nb_X12_ringAt : (yX12_ringAt.cls ≠ "java/lang/invoke/MethodHandle" ∧ yX12_ringAt.cls ≠ "java/lang/invoke/VarHandle") ∧ Cond.initialized yX12_ringAt.cls ∈ gtbl ∧ (parseMethodDescriptor yX12_ringAt.desc).map (fun d => d.parameters.length) = some 1 := ⟨⟨by decide +kernel, by decide +kernel⟩, q_n_MerryDuchyModel, by decide +kernel⟩
theorem nb_X12_said : (yX12_said.cls ≠ "java/lang/invoke/MethodHandle" ∧ yX12_said.cls ≠ "java/lang/invoke/VarHandle") ∧ Cond.initialized yX12_said.cls ∈ gtbl ∧ (parseMethodDescriptor yX12_said.desc).map (fun d => d.parameters.length) = some 1 := ⟨⟨by decide +kernel, by decide +kernel⟩, q_n_MerryDuchyModel, by decide +kernel⟩
theorem nb_X12_sentence : (yX12_sentence.cls ≠ "java/lang/invoke/MethodHandle" ∧ yX12_sentence.cls ≠ "java/lang/invoke/VarHandle") ∧ Cond.initialized yX12_sentence.cls ∈ gtbl ∧ (parseMethodDescriptor yX12_sentence.desc).map (fun d => d.parameters.length) = some 0 := ⟨⟨by decide +kernel, by decide +kernel⟩, q_n_MerryDuchyModel, by decide +kernel⟩
theorem nb_X12_share : (yX12_share.cls ≠ "java/lang/invoke/MethodHandle" ∧ yX12_share.cls ≠ "java/lang/invoke/VarHandle") ∧ Cond.initialized yX12_share.cls ∈ gtbl ∧ (parseMethodDescriptor yX12_share.desc).map (fun d => d.parameters.length) = some 3 := ⟨⟨by decide +kernel, by decide +kernel⟩, q_n_MerryDuchyModel, by decide +kernel⟩
theorem nb_X12_snap : (yX12_snap.cls ≠ "java/lang/invoke/MethodHandle" ∧ yX12_snap.cls ≠ "java/lang/invoke/VarHandle") ∧ Cond.initialized yX12_snap.cls ∈ gtbl ∧ (parseMethodDescriptor yX12_snap.desc).map (fun d => d.parameters.length) = some 0 := ⟨⟨by decide +kernel, by decide +kernel⟩, q_n_MerryDuchyModel, by decide +kernel⟩
theorem nb_X12_startSo : (yX12_startSo.cls ≠ "java/lang/invoke/MethodHandle" ∧ yX12_startSo.cls ≠ "java/lang/invoke/VarHandle") ∧ Cond.initialized yX12_startSo.cls ∈ gtbl ∧ (parseMethodDescriptor yX12_startSo.desc).map (fun d => d.parameters.length) = some 0 := ⟨⟨by decide +kernel, by decide +kernel⟩, q_n_MerryDuchyModel, by decide +kernel⟩
theorem nb_X12_stay : (yX12_stay.cls ≠ "java/lang/invoke/MethodHandle" ∧ yX12_stay.cls ≠ "java/lang/invoke/VarHandle") ∧ Cond.initialized yX12_stay.cls ∈ gtbl ∧ (parseMethodDescriptor yX12_stay.desc).map (fun d => d.parameters.length) = some 1 := ⟨⟨by decide +kernel, by decide +kernel⟩, q_n_MerryDuchyModel, by decide +kernel⟩
theorem nb_X12_strike : (yX12_strike.cls ≠ "java/lang/invoke/MethodHandle" ∧ yX12_strike.cls ≠ "java/lang/invoke/VarHandle") ∧ Cond.initialized yX12_strike.cls ∈ gtbl ∧ (parseMethodDescriptor yX12_strike.desc).map (fun d => d.parameters.length) = some 0 := ⟨⟨by decide +kernel, by decide +kernel⟩, q_n_MerryDuchyModel, by decide +kernel⟩
theorem nb_X12_sumOf : (yX12_sumOf.cls ≠ "java/lang/invoke/MethodHandle" ∧ yX12_sumOf.cls ≠ "java/lang/invoke/VarHandle") ∧ Cond.initialized yX12_sumOf.cls ∈ gtbl ∧ (parseMethodDescriptor yX12_sumOf.desc).map (fun d => d.parameters.length) = some 2 := ⟨⟨by decide +kernel, by decide +kernel⟩, q_n_MerryDuchyModel, by decide +kernel⟩
theorem nb_X12_take : (yX12_take.cls ≠ "java/lang/invoke/MethodHandle" ∧ yX12_take.cls ≠ "java/lang/invoke/VarHandle") ∧ Cond.initialized yX12_take.cls ∈ gtbl ∧ (parseMethodDescriptor yX12_take.desc).map (fun d => d.parameters.length) = some 0 := ⟨⟨by decide +kernel, by decide +kernel⟩, q_n_MerryDuchyModel, by decide +kernel⟩
theorem nb_X12_tax : (yX12_tax.cls ≠ "java/lang/invoke/MethodHandle" ∧ yX12_tax.cls ≠ "java/lang/invoke/VarHandle") ∧ Cond.initialized yX12_tax.cls ∈ gtbl ∧ (parseMethodDescriptor yX12_tax.desc).map (fun d => d.parameters.length) = some 1 := ⟨⟨by decide +kernel, by decide +kernel⟩, q_n_MerryDuchyModel, by decide +kernel⟩
theorem nb_X12_taxOf : (yX12_taxOf.cls ≠ "java/lang/invoke/MethodHandle" ∧ yX12_taxOf.cls ≠ "java/lang/invoke/VarHandle") ∧ Cond.initialized yX12_taxOf.cls ∈ gtbl ∧ (parseMethodDescriptor yX12_taxOf.desc).map (fun d => d.parameters.length) = some 1 := ⟨⟨by decide +kernel, by decide +kernel⟩, q_n_MerryDuchyModel, by decide +kernel⟩
theorem nb_X12_tells : (yX12_tells.cls ≠ "java/lang/invoke/MethodHandle" ∧ yX12_tells.cls ≠ "java/lang/invoke/VarHandle") ∧ Cond.initialized yX12_tells.cls ∈ gtbl ∧ (parseMethodDescriptor yX12_tells.desc).map (fun d => d.parameters.length) = some 0 := ⟨⟨by decide +kernel, by decide +kernel⟩, q_n_MerryDuchyModel, by decide +kernel⟩
theorem nb_X12_times : (yX12_times.cls ≠ "java/lang/invoke/MethodHandle" ∧ yX12_times.cls ≠ "java/lang/invoke/VarHandle") ∧ Cond.initialized yX12_times.cls ∈ gtbl ∧ (parseMethodDescriptor yX12_times.desc).map (fun d => d.parameters.length) = some 2 := ⟨⟨by decide +kernel, by decide +kernel⟩, q_n_MerryDuchyModel, by decide +kernel⟩
theorem nb_X12_told : (yX12_told.cls ≠ "java/lang/invoke/MethodHandle" ∧ yX12_told.cls ≠ "java/lang/invoke/VarHandle") ∧ Cond.initialized yX12_told.cls ∈ gtbl ∧ (parseMethodDescriptor yX12_told.desc).map (fun d => d.parameters.length) = some 1 := ⟨⟨by decide +kernel, by decide +kernel⟩, q_n_MerryDuchyModel, by decide +kernel⟩
theorem nb_X12_undo : (yX12_undo.cls ≠ "java/lang/invoke/MethodHandle" ∧ yX12_undo.cls ≠ "java/lang/invoke/VarHandle") ∧ Cond.initialized yX12_undo.cls ∈ gtbl ∧ (parseMethodDescriptor yX12_undo.desc).map (fun d => d.parameters.length) = some 0 := ⟨⟨by decide +kernel, by decide +kernel⟩, q_n_MerryDuchyModel, by decide +kernel⟩
theorem nb_X12_weeks : (yX12_weeks.cls ≠ "java/lang/invoke/MethodHandle" ∧ yX12_weeks.cls ≠ "java/lang/invoke/VarHandle") ∧ Cond.initialized yX12_weeks.cls ∈ gtbl ∧ (parseMethodDescriptor yX12_weeks.desc).map (fun d => d.parameters.length) = some 1 := ⟨⟨by decide +kernel, by decide +kernel⟩, q_n_MerryDuchyModel, by decide +kernel⟩
theorem nb_X12_worth : (yX12_worth.cls ≠ "java/lang/invoke/MethodHandle" ∧ yX12_worth.cls ≠ "java/lang/invoke/VarHandle") ∧ Cond.initialized yX12_worth.cls ∈ gtbl ∧ (parseMethodDescriptor yX12_worth.desc).map (fun d => d.parameters.length) = some 2 := ⟨⟨by decide +kernel, by decide +kernel⟩, q_n_MerryDuchyModel, by decide +kernel⟩
theorem nb_X1_init : (yX1_init.cls ≠ "java/lang/invoke/MethodHandle" ∧ yX1_init.cls ≠ "java/lang/invoke/VarHandle") ∧ Cond.initialized yX1_init.cls ∈ gtbl ∧ (parseMethodDescriptor yX1_init.desc).map (fun d => d.parameters.length) = some 0 := ⟨⟨by decide +kernel, by decide +kernel⟩, q_n_MerryDuchy_Book, by decide +kernel⟩
theorem nb_X1_live : (yX1_live.cls ≠ "java/lang/invoke/MethodHandle" ∧ yX1_live.cls ≠ "java/lang/invoke/VarHandle") ∧ Cond.initialized yX1_live.cls ∈ gtbl ∧ (parseMethodDescriptor yX1_live.desc).map (fun d => d.parameters.length) = some 2 := ⟨⟨by decide +kernel, by decide +kernel⟩, q_n_MerryDuchy_Book, by decide +kernel⟩
theorem nb_X1_readLines : (yX1_readLines.cls ≠ "java/lang/invoke/MethodHandle" ∧ yX1_readLines.cls ≠ "java/lang/invoke/VarHandle") ∧ Cond.initialized yX1_readLines.cls ∈ gtbl ∧ (parseMethodDescriptor yX1_readLines.desc).map (fun d => d.parameters.length) = some 2 := ⟨⟨by decide +kernel, by decide +kernel⟩, q_n_MerryDuchy_Book, by decide +kernel⟩
theorem nb_X2_clear : (yX2_clear.cls ≠ "java/lang/invoke/MethodHandle" ∧ yX2_clear.cls ≠ "java/lang/invoke/VarHandle") ∧ Cond.initialized yX2_clear.cls ∈ gtbl ∧ (parseMethodDescriptor yX2_clear.desc).map (fun d => d.parameters.length) = some 0 := ⟨⟨by decide +kernel, by decide +kernel⟩, q_n_MerryDuchy_Duchy, by decide +kernel⟩
theorem nb_X2_fillWhatWasNotTold : (yX2_fillWhatWasNotTold.cls ≠ "java/lang/invoke/MethodHandle" ∧ yX2_fillWhatWasNotTold.cls ≠ "java/lang/invoke/VarHandle") ∧ Cond.initialized yX2_fillWhatWasNotTold.cls ∈ gtbl ∧ (parseMethodDescriptor yX2_fillWhatWasNotTold.desc).map (fun d => d.parameters.length) = some 0 := ⟨⟨by decide +kernel, by decide +kernel⟩, q_n_MerryDuchy_Duchy, by decide +kernel⟩
theorem nb_X2_forfeits : (yX2_forfeits.cls ≠ "java/lang/invoke/MethodHandle" ∧ yX2_forfeits.cls ≠ "java/lang/invoke/VarHandle") ∧ Cond.initialized yX2_forfeits.cls ∈ gtbl ∧ (parseMethodDescriptor yX2_forfeits.desc).map (fun d => d.parameters.length) = some 0 := ⟨⟨by decide +kernel, by decide +kernel⟩, q_n_MerryDuchy_Duchy, by decide +kernel⟩
theorem nb_X2_goods : (yX2_goods.cls ≠ "java/lang/invoke/MethodHandle" ∧ yX2_goods.cls ≠ "java/lang/invoke/VarHandle") ∧ Cond.initialized yX2_goods.cls ∈ gtbl ∧ (parseMethodDescriptor yX2_goods.desc).map (fun d => d.parameters.length) = some 0 := ⟨⟨by decide +kernel, by decide +kernel⟩, q_n_MerryDuchy_Duchy, by decide +kernel⟩
theorem nb_X2_has : (yX2_has.cls ≠ "java/lang/invoke/MethodHandle" ∧ yX2_has.cls ≠ "java/lang/invoke/VarHandle") ∧ Cond.initialized yX2_has.cls ∈ gtbl ∧ (parseMethodDescriptor yX2_has.desc).map (fun d => d.parameters.length) = some 2 := ⟨⟨by decide +kernel, by decide +kernel⟩, q_n_MerryDuchy_Duchy, by decide +kernel⟩
theorem nb_X2_init : (yX2_init.cls ≠ "java/lang/invoke/MethodHandle" ∧ yX2_init.cls ≠ "java/lang/invoke/VarHandle") ∧ Cond.initialized yX2_init.cls ∈ gtbl ∧ (parseMethodDescriptor yX2_init.desc).map (fun d => d.parameters.length) = some 0 := ⟨⟨by decide +kernel, by decide +kernel⟩, q_n_MerryDuchy_Duchy, by decide +kernel⟩
theorem nb_X2_men : (yX2_men.cls ≠ "java/lang/invoke/MethodHandle" ∧ yX2_men.cls ≠ "java/lang/invoke/VarHandle") ∧ Cond.initialized yX2_men.cls ∈ gtbl ∧ (parseMethodDescriptor yX2_men.desc).map (fun d => d.parameters.length) = some 0 := ⟨⟨by decide +kernel, by decide +kernel⟩, q_n_MerryDuchy_Duchy, by decide +kernel⟩
theorem nb_X2_readLines : (yX2_readLines.cls ≠ "java/lang/invoke/MethodHandle" ∧ yX2_readLines.cls ≠ "java/lang/invoke/VarHandle") ∧ Cond.initialized yX2_readLines.cls ∈ gtbl ∧ (parseMethodDescriptor yX2_readLines.desc).map (fun d => d.parameters.length) = some 1 := ⟨⟨by decide +kernel, by decide +kernel⟩, q_n_MerryDuchy_Duchy, by decide +kernel⟩
theorem nb_X2_takeAll : (yX2_takeAll.cls ≠ "java/lang/invoke/MethodHandle" ∧ yX2_takeAll.cls ≠ "java/lang/invoke/VarHandle") ∧ Cond.initialized yX2_takeAll.cls ∈ gtbl ∧ (parseMethodDescriptor yX2_takeAll.desc).map (fun d => d.parameters.length) = some 1 := ⟨⟨by decide +kernel, by decide +kernel⟩, q_n_MerryDuchy_Duchy, by decide +kernel⟩
theorem nb_X3_find : (yX3_find.cls ≠ "java/lang/invoke/MethodHandle" ∧ yX3_find.cls ≠ "java/lang/invoke/VarHandle") ∧ Cond.initialized yX3_find.cls ∈ gtbl ∧ (parseMethodDescriptor yX3_find.desc).map (fun d => d.parameters.length) = some 3 := ⟨⟨by decide +kernel, by decide +kernel⟩, q_n_MerryDuchy_Fits, by decide +kernel⟩
theorem nb_X3_init : (yX3_init.cls ≠ "java/lang/invoke/MethodHandle" ∧ yX3_init.cls ≠ "java/lang/invoke/VarHandle") ∧ Cond.initialized yX3_init.cls ∈ gtbl ∧ (parseMethodDescriptor yX3_init.desc).map (fun d => d.parameters.length) = some 0 := ⟨⟨by decide +kernel, by decide +kernel⟩, q_n_MerryDuchy_Fits, by decide +kernel⟩
theorem nb_X4_forget : (yX4_forget.cls ≠ "java/lang/invoke/MethodHandle" ∧ yX4_forget.cls ≠ "java/lang/invoke/VarHandle") ∧ Cond.initialized yX4_forget.cls ∈ gtbl ∧ (parseMethodDescriptor yX4_forget.desc).map (fun d => d.parameters.length) = some 0 := ⟨⟨by decide +kernel, by decide +kernel⟩, q_n_MerryDuchy_Past, by decide +kernel⟩
theorem nb_X4_giveBack : (yX4_giveBack.cls ≠ "java/lang/invoke/MethodHandle" ∧ yX4_giveBack.cls ≠ "java/lang/invoke/VarHandle") ∧ Cond.initialized yX4_giveBack.cls ∈ gtbl ∧ (parseMethodDescriptor yX4_giveBack.desc).map (fun d => d.parameters.length) = some 1 := ⟨⟨by decide +kernel, by decide +kernel⟩, q_n_MerryDuchy_Past, by decide +kernel⟩
theorem nb_X4_init : (yX4_init.cls ≠ "java/lang/invoke/MethodHandle" ∧ yX4_init.cls ≠ "java/lang/invoke/VarHandle") ∧ Cond.initialized yX4_init.cls ∈ gtbl ∧ (parseMethodDescriptor yX4_init.desc).map (fun d => d.parameters.length) = some 0 := ⟨⟨by decide +kernel, by decide +kernel⟩, q_n_MerryDuchy_Past, by decide +kernel⟩
theorem nb_X4_keep : (yX4_keep.cls ≠ "java/lang/invoke/MethodHandle" ∧ yX4_keep.cls ≠ "java/lang/invoke/VarHandle") ∧ Cond.initialized yX4_keep.cls ∈ gtbl ∧ (parseMethodDescriptor yX4_keep.desc).map (fun d => d.parameters.length) = some 1 := ⟨⟨by decide +kernel, by decide +kernel⟩, q_n_MerryDuchy_Past, by decide +kernel⟩
theorem nb_X5_init : (yX5_init.cls ≠ "java/lang/invoke/MethodHandle" ∧ yX5_init.cls ≠ "java/lang/invoke/VarHandle") ∧ Cond.initialized yX5_init.cls ∈ gtbl ∧ (parseMethodDescriptor yX5_init.desc).map (fun d => d.parameters.length) = some 0 := ⟨⟨by decide +kernel, by decide +kernel⟩, q_n_MerryDuchy_Plan, by decide +kernel⟩
theorem nb_X6_find : (yX6_find.cls ≠ "java/lang/invoke/MethodHandle" ∧ yX6_find.cls ≠ "java/lang/invoke/VarHandle") ∧ Cond.initialized yX6_find.cls ∈ gtbl ∧ (parseMethodDescriptor yX6_find.desc).map (fun d => d.parameters.length) = some 2 := ⟨⟨by decide +kernel, by decide +kernel⟩, q_n_MerryDuchy_Ring, by decide +kernel⟩
theorem nb_X6_init : (yX6_init.cls ≠ "java/lang/invoke/MethodHandle" ∧ yX6_init.cls ≠ "java/lang/invoke/VarHandle") ∧ Cond.initialized yX6_init.cls ∈ gtbl ∧ (parseMethodDescriptor yX6_init.desc).map (fun d => d.parameters.length) = some 0 := ⟨⟨by decide +kernel, by decide +kernel⟩, q_n_MerryDuchy_Ring, by decide +kernel⟩
theorem nb_X7_clear : (yX7_clear.cls ≠ "java/lang/invoke/MethodHandle" ∧ yX7_clear.cls ≠ "java/lang/invoke/VarHandle") ∧ Cond.initialized yX7_clear.cls ∈ gtbl ∧ (parseMethodDescriptor yX7_clear.desc).map (fun d => d.parameters.length) = some 0 := ⟨⟨by decide +kernel, by decide +kernel⟩, q_n_MerryDuchy_Sentence, by decide +kernel⟩
theorem nb_X7_init : (yX7_init.cls ≠ "java/lang/invoke/MethodHandle" ∧ yX7_init.cls ≠ "java/lang/invoke/VarHandle") ∧ Cond.initialized yX7_init.cls ∈ gtbl ∧ (parseMethodDescriptor yX7_init.desc).map (fun d => d.parameters.length) = some 0 := ⟨⟨by decide +kernel, by decide +kernel⟩, q_n_MerryDuchy_Sentence, by decide +kernel⟩
theorem nb_X7_readCond : (yX7_readCond.cls ≠ "java/lang/invoke/MethodHandle" ∧ yX7_readCond.cls ≠ "java/lang/invoke/VarHandle") ∧ Cond.initialized yX7_readCond.cls ∈ gtbl ∧ (parseMethodDescriptor yX7_readCond.desc).map (fun d => d.parameters.length) = some 3 := ⟨⟨by decide +kernel, by decide +kernel⟩, q_n_MerryDuchy_Sentence, by decide +kernel⟩
theorem nb_X7_readOne : (yX7_readOne.cls ≠ "java/lang/invoke/MethodHandle" ∧ yX7_readOne.cls ≠ "java/lang/invoke/VarHandle") ∧ Cond.initialized yX7_readOne.cls ∈ gtbl ∧ (parseMethodDescriptor yX7_readOne.desc).map (fun d => d.parameters.length) = some 3 := ⟨⟨by decide +kernel, by decide +kernel⟩, q_n_MerryDuchy_Sentence, by decide +kernel⟩
theorem nb_X7_readWhole : (yX7_readWhole.cls ≠ "java/lang/invoke/MethodHandle" ∧ yX7_readWhole.cls ≠ "java/lang/invoke/VarHandle") ∧ Cond.initialized yX7_readWhole.cls ∈ gtbl ∧ (parseMethodDescriptor yX7_readWhole.desc).map (fun d => d.parameters.length) = some 2 := ⟨⟨by decide +kernel, by decide +kernel⟩, q_n_MerryDuchy_Sentence, by decide +kernel⟩
theorem nb_X7_takeAll : (yX7_takeAll.cls ≠ "java/lang/invoke/MethodHandle" ∧ yX7_takeAll.cls ≠ "java/lang/invoke/VarHandle") ∧ Cond.initialized yX7_takeAll.cls ∈ gtbl ∧ (parseMethodDescriptor yX7_takeAll.desc).map (fun d => d.parameters.length) = some 1 := ⟨⟨by decide +kernel, by decide +kernel⟩, q_n_MerryDuchy_Sentence, by decide +kernel⟩
theorem nb_X8_allCredit : (yX8_allCredit.cls ≠ "java/lang/invoke/MethodHandle" ∧ yX8_allCredit.cls ≠ "java/lang/invoke/VarHandle") ∧ Cond.initialized yX8_allCredit.cls ∈ gtbl ∧ (parseMethodDescriptor yX8_allCredit.desc).map (fun d => d.parameters.length) = some 0 := ⟨⟨by decide +kernel, by decide +kernel⟩, q_n_MerryDuchy_State, by decide +kernel⟩
theorem nb_X8_clear : (yX8_clear.cls ≠ "java/lang/invoke/MethodHandle" ∧ yX8_clear.cls ≠ "java/lang/invoke/VarHandle") ∧ Cond.initialized yX8_clear.cls ∈ gtbl ∧ (parseMethodDescriptor yX8_clear.desc).map (fun d => d.parameters.length) = some 0 := ⟨⟨by decide +kernel, by decide +kernel⟩, q_n_MerryDuchy_State, by decide +kernel⟩
theorem nb_X8_init : (yX8_init.cls ≠ "java/lang/invoke/MethodHandle" ∧ yX8_init.cls ≠ "java/lang/invoke/VarHandle") ∧ Cond.initialized yX8_init.cls ∈ gtbl ∧ (parseMethodDescriptor yX8_init.desc).map (fun d => d.parameters.length) = some 0 := ⟨⟨by decide +kernel, by decide +kernel⟩, q_n_MerryDuchy_State, by decide +kernel⟩
theorem nb_X8_takeAll : (yX8_takeAll.cls ≠ "java/lang/invoke/MethodHandle" ∧ yX8_takeAll.cls ≠ "java/lang/invoke/VarHandle") ∧ Cond.initialized yX8_takeAll.cls ∈ gtbl ∧ (parseMethodDescriptor yX8_takeAll.desc).map (fun d => d.parameters.length) = some 1 := ⟨⟨by decide +kernel, by decide +kernel⟩, q_n_MerryDuchy_State, by decide +kernel⟩
theorem nb_X9_choose : (yX9_choose.cls ≠ "java/lang/invoke/MethodHandle" ∧ yX9_choose.cls ≠ "java/lang/invoke/VarHandle") ∧ Cond.initialized yX9_choose.cls ∈ gtbl ∧ (parseMethodDescriptor yX9_choose.desc).map (fun d => d.parameters.length) = some 3 := ⟨⟨by decide +kernel, by decide +kernel⟩, q_n_MerryDuchy_Tax, by decide +kernel⟩
theorem nb_X9_dearest : (yX9_dearest.cls ≠ "java/lang/invoke/MethodHandle" ∧ yX9_dearest.cls ≠ "java/lang/invoke/VarHandle") ∧ Cond.initialized yX9_dearest.cls ∈ gtbl ∧ (parseMethodDescriptor yX9_dearest.desc).map (fun d => d.parameters.length) = some 2 := ⟨⟨by decide +kernel, by decide +kernel⟩, q_n_MerryDuchy_Tax, by decide +kernel⟩
theorem nb_X9_fillCan : (yX9_fillCan.cls ≠ "java/lang/invoke/MethodHandle" ∧ yX9_fillCan.cls ≠ "java/lang/invoke/VarHandle") ∧ Cond.initialized yX9_fillCan.cls ∈ gtbl ∧ (parseMethodDescriptor yX9_fillCan.desc).map (fun d => d.parameters.length) = some 2 := ⟨⟨by decide +kernel, by decide +kernel⟩, q_n_MerryDuchy_Tax, by decide +kernel⟩
theorem nb_X9_fillCosts : (yX9_fillCosts.cls ≠ "java/lang/invoke/MethodHandle" ∧ yX9_fillCosts.cls ≠ "java/lang/invoke/VarHandle") ∧ Cond.initialized yX9_fillCosts.cls ∈ gtbl ∧ (parseMethodDescriptor yX9_fillCosts.desc).map (fun d => d.parameters.length) = some 1 := ⟨⟨by decide +kernel, by decide +kernel⟩, q_n_MerryDuchy_Tax, by decide +kernel⟩
theorem nb_X9_find : (yX9_find.cls ≠ "java/lang/invoke/MethodHandle" ∧ yX9_find.cls ≠ "java/lang/invoke/VarHandle") ∧ Cond.initialized yX9_find.cls ∈ gtbl ∧ (parseMethodDescriptor yX9_find.desc).map (fun d => d.parameters.length) = some 2 := ⟨⟨by decide +kernel, by decide +kernel⟩, q_n_MerryDuchy_Tax, by decide +kernel⟩
theorem nb_X9_init : (yX9_init.cls ≠ "java/lang/invoke/MethodHandle" ∧ yX9_init.cls ≠ "java/lang/invoke/VarHandle") ∧ Cond.initialized yX9_init.cls ∈ gtbl ∧ (parseMethodDescriptor yX9_init.desc).map (fun d => d.parameters.length) = some 0 := ⟨⟨by decide +kernel, by decide +kernel⟩, q_n_MerryDuchy_Tax, by decide +kernel⟩
theorem nb_X9_leastGreatest : (yX9_leastGreatest.cls ≠ "java/lang/invoke/MethodHandle" ∧ yX9_leastGreatest.cls ≠ "java/lang/invoke/VarHandle") ∧ Cond.initialized yX9_leastGreatest.cls ∈ gtbl ∧ (parseMethodDescriptor yX9_leastGreatest.desc).map (fun d => d.parameters.length) = some 1 := ⟨⟨by decide +kernel, by decide +kernel⟩, q_n_MerryDuchy_Tax, by decide +kernel⟩
end
section
theorem dd_J7_fill_53178_0 : decode cJ7_fill_53178 0 = .ok (.iconst 0, 1) := by decide +kernel
theorem dd_J7_fill_53178_1 : decode cJ7_fill_53178 1 = .ok (.istore_n 2, 1) := by decide +kernel
theorem dd_J7_fill_53178_2 : decode cJ7_fill_53178 2 = .ok (.aload_n 0, 1) := by decide +kernel
theorem dd_J7_fill_53178_3 : decode cJ7_fill_53178 3 = .ok (.arraylength, 1) := by decide +kernel
theorem dd_J7_fill_53178_4 : decode cJ7_fill_53178 4 = .ok (.istore_n 3, 1) := by decide +kernel
theorem dd_J7_fill_53178_5 : decode cJ7_fill_53178 5 = .ok (.iload_n 2, 1) := by decide +kernel
theorem dd_J7_fill_53178_6 : decode cJ7_fill_53178 6 = .ok (.iload_n 3, 1) := by decide +kernel
theorem dd_J7_fill_53178_7 : decode cJ7_fill_53178 7 = .ok (.if_icmp .ge 13, 3) := by decide +kernel
theorem dd_J7_fill_53178_10 : decode cJ7_fill_53178 10 = .ok (.aload_n 0, 1) := by decide +kernel
theorem dd_J7_fill_53178_11 : decode cJ7_fill_53178 11 = .ok (.iload_n 2, 1) := by decide +kernel
theorem dd_J7_fill_53178_12 : decode cJ7_fill_53178 12 = .ok (.iload_n 1, 1) := by decide +kernel
theorem dd_J7_fill_53178_13 : decode cJ7_fill_53178 13 = .ok (.iastore, 1) := by decide +kernel
theorem dd_J7_fill_53178_14 : decode cJ7_fill_53178 14 = .ok (.iinc 2 1, 3) := by decide +kernel
theorem dd_J7_fill_53178_17 : decode cJ7_fill_53178 17 = .ok (.goto (-12), 3) := by decide +kernel
theorem dd_J7_fill_53178_20 : decode cJ7_fill_53178 20 = .ok (.return_, 1) := by decide +kernel
theorem dd_X0_fewestPayments_0 : decode cX0_fewestPayments 0 = .ok (.aload_n 0, 1) := by decide +kernel
theorem dd_X0_fewestPayments_1 : decode cX0_fewestPayments 1 = .ok (.getfield 12, 3) := by decide +kernel
theorem dd_X0_fewestPayments_4 : decode cX0_fewestPayments 4 = .ok (.invokevirtual 53, 3) := by decide +kernel
theorem dd_X0_fewestPayments_7 : decode cX0_fewestPayments 7 = .ok (.istore_n 1, 1) := by decide +kernel
theorem dd_X0_fewestPayments_8 : decode cX0_fewestPayments 8 = .ok (.iconst 1, 1) := by decide +kernel
theorem dd_X0_fewestPayments_9 : decode cX0_fewestPayments 9 = .ok (.iload_n 1, 1) := by decide +kernel
theorem dd_X0_fewestPayments_10 : decode cX0_fewestPayments 10 = .ok (.ishl, 1) := by decide +kernel
theorem dd_X0_fewestPayments_11 : decode cX0_fewestPayments 11 = .ok (.istore_n 2, 1) := by decide +kernel
theorem dd_X0_fewestPayments_12 : decode cX0_fewestPayments 12 = .ok (.aload_n 0, 1) := by decide +kernel
theorem dd_X0_fewestPayments_13 : decode cX0_fewestPayments 13 = .ok (.getfield 25, 3) := by decide +kernel
theorem dd_X0_fewestPayments_16 : decode cX0_fewestPayments 16 = .ok (.iconst 0, 1) := by decide +kernel
theorem dd_X0_fewestPayments_17 : decode cX0_fewestPayments 17 = .ok (.iconst 0, 1) := by decide +kernel
theorem dd_X0_fewestPayments_18 : decode cX0_fewestPayments 18 = .ok (.iastore, 1) := by decide +kernel
theorem dd_X0_fewestPayments_19 : decode cX0_fewestPayments 19 = .ok (.aload_n 0, 1) := by decide +kernel
theorem dd_X0_fewestPayments_20 : decode cX0_fewestPayments 20 = .ok (.getfield 29, 3) := by decide +kernel
theorem dd_X0_fewestPayments_23 : decode cX0_fewestPayments 23 = .ok (.iconst 0, 1) := by decide +kernel
theorem dd_X0_fewestPayments_24 : decode cX0_fewestPayments 24 = .ok (.iconst 0, 1) := by decide +kernel
theorem dd_X0_fewestPayments_25 : decode cX0_fewestPayments 25 = .ok (.iastore, 1) := by decide +kernel
theorem dd_X0_fewestPayments_26 : decode cX0_fewestPayments 26 = .ok (.iconst 1, 1) := by decide +kernel
theorem dd_X0_fewestPayments_27 : decode cX0_fewestPayments 27 = .ok (.istore_n 3, 1) := by decide +kernel
theorem dd_X0_fewestPayments_28 : decode cX0_fewestPayments 28 = .ok (.iload_n 3, 1) := by decide +kernel
theorem dd_X0_fewestPayments_29 : decode cX0_fewestPayments 29 = .ok (.iload_n 2, 1) := by decide +kernel
theorem dd_X0_fewestPayments_30 : decode cX0_fewestPayments 30 = .ok (.if_icmp .ge 111, 3) := by decide +kernel
theorem dd_X0_fewestPayments_141 : decode cX0_fewestPayments 141 = .ok (.iload_n 1, 1) := by decide +kernel
theorem dd_X0_fewestPayments_142 : decode cX0_fewestPayments 142 = .ok (.aload_n 0, 1) := by decide +kernel
theorem dd_X0_fewestPayments_143 : decode cX0_fewestPayments 143 = .ok (.getfield 25, 3) := by decide +kernel
theorem dd_X0_fewestPayments_146 : decode cX0_fewestPayments 146 = .ok (.iload_n 2, 1) := by decide +kernel
theorem dd_X0_fewestPayments_147 : decode cX0_fewestPayments 147 = .ok (.iconst 1, 1) := by decide +kernel
theorem dd_X0_fewestPayments_148 : decode cX0_fewestPayments 148 = .ok (.isub, 1) := by decide +kernel
theorem dd_X0_fewestPayments_149 : decode cX0_fewestPayments 149 = .ok (.iaload, 1) := by decide +kernel
theorem dd_X0_fewestPayments_150 : decode cX0_fewestPayments 150 = .ok (.isub, 1) := by decide +kernel
theorem dd_X0_fewestPayments_151 : decode cX0_fewestPayments 151 = .ok (.ireturn, 1) := by decide +kernel
theorem dd_X0_init_0 : decode cX0_init 0 = .ok (.aload_n 0, 1) := by decide +kernel
theorem dd_X0_init_1 : decode cX0_init 1 = .ok (.invokespecial 3, 3) := by decide +kernel
theorem dd_X0_init_4 : decode cX0_init 4 = .ok (.aload_n 0, 1) := by decide +kernel
theorem dd_X0_init_5 : decode cX0_init 5 = .ok (.new 9, 3) := by decide +kernel
theorem dd_X0_init_8 : decode cX0_init 8 = .ok (.dup, 1) := by decide +kernel
theorem dd_X0_init_9 : decode cX0_init 9 = .ok (.invokespecial 11, 3) := by decide +kernel
theorem dd_X0_init_12 : decode cX0_init 12 = .ok (.putfield 12, 3) := by decide +kernel
theorem dd_X0_init_15 : decode cX0_init 15 = .ok (.aload_n 0, 1) := by decide +kernel
theorem dd_X0_init_16 : decode cX0_init 16 = .ok (.new 18, 3) := by decide +kernel
theorem dd_X0_init_19 : decode cX0_init 19 = .ok (.dup, 1) := by decide +kernel
theorem dd_X0_init_20 : decode cX0_init 20 = .ok (.invokespecial 20, 3) := by decide +kernel
theorem dd_X0_init_23 : decode cX0_init 23 = .ok (.putfield 21, 3) := by decide +kernel
theorem dd_X0_init_26 : decode cX0_init 26 = .ok (.aload_n 0, 1) := by decide +kernel
theorem dd_X0_init_27 : decode cX0_init 27 = .ok (.bipush 64, 2) := by decide +kernel
theorem dd_X0_init_29 : decode cX0_init 29 = .ok (.newarray .int, 2) := by decide +kernel
theorem dd_X0_init_31 : decode cX0_init 31 = .ok (.putfield 25, 3) := by decide +kernel
theorem dd_X0_init_34 : decode cX0_init 34 = .ok (.aload_n 0, 1) := by decide +kernel
theorem dd_X0_init_35 : decode cX0_init 35 = .ok (.bipush 64, 2) := by decide +kernel
theorem dd_X0_init_37 : decode cX0_init 37 = .ok (.newarray .int, 2) := by decide +kernel
theorem dd_X0_init_39 : decode cX0_init 39 = .ok (.putfield 29, 3) := by decide +kernel
theorem dd_X0_init_42 : decode cX0_init 42 = .ok (.return_, 1) := by decide +kernel
theorem dd_X0_passWeeks_0 : decode cX0_passWeeks 0 = .ok (.iconst 0, 1) := by decide +kernel
theorem dd_X0_passWeeks_1 : decode cX0_passWeeks 1 = .ok (.istore_n 3, 1) := by decide +kernel
theorem dd_X0_passWeeks_2 : decode cX0_passWeeks 2 = .ok (.iload_n 3, 1) := by decide +kernel
theorem dd_X0_passWeeks_3 : decode cX0_passWeeks 3 = .ok (.aload_n 0, 1) := by decide +kernel
theorem dd_X0_passWeeks_4 : decode cX0_passWeeks 4 = .ok (.getfield 12, 3) := by decide +kernel
theorem dd_X0_passWeeks_7 : decode cX0_passWeeks 7 = .ok (.invokevirtual 53, 3) := by decide +kernel
theorem dd_X0_passWeeks_10 : decode cX0_passWeeks 10 = .ok (.if_icmp .ge 43, 3) := by decide +kernel
theorem dd_X0_passWeeks_53 : decode cX0_passWeeks 53 = .ok (.aload_n 1, 1) := by decide +kernel
theorem dd_X0_passWeeks_54 : decode cX0_passWeeks 54 = .ok (.dup, 1) := by decide +kernel
theorem dd_X0_passWeeks_55 : decode cX0_passWeeks 55 = .ok (.getfield 61, 3) := by decide +kernel
theorem dd_X0_passWeeks_58 : decode cX0_passWeeks 58 = .ok (.iload_n 2, 1) := by decide +kernel
theorem dd_X0_passWeeks_59 : decode cX0_passWeeks 59 = .ok (.iadd, 1) := by decide +kernel
theorem dd_X0_passWeeks_60 : decode cX0_passWeeks 60 = .ok (.putfield 61, 3) := by decide +kernel
theorem dd_X0_passWeeks_63 : decode cX0_passWeeks 63 = .ok (.return_, 1) := by decide +kernel
theorem dd_X0_perform_0 : decode cX0_perform 0 = .ok (.iload_n 2, 1) := by decide +kernel
theorem dd_X0_perform_1 : decode cX0_perform 1 = .ok (.tableswitch 188 0 4 #[35, 44, 93, 136, 179], 35) := by decide +kernel
theorem dd_X0_perform_189 : decode cX0_perform 189 = .ok (.aload_n 0, 1) := by decide +kernel
theorem dd_X0_perform_190 : decode cX0_perform 190 = .ok (.aload_n 1, 1) := by decide +kernel
theorem dd_X0_perform_191 : decode cX0_perform 191 = .ok (.iload 5, 2) := by decide +kernel
theorem dd_X0_perform_193 : decode cX0_perform 193 = .ok (.invokevirtual 75, 3) := by decide +kernel
theorem dd_X0_perform_196 : decode cX0_perform 196 = .ok (.iload 5, 2) := by decide +kernel
theorem dd_X0_perform_198 : decode cX0_perform 198 = .ok (.ireturn, 1) := by decide +kernel
theorem dd_X0_whyNot_0 : decode cX0_whyNot 0 = .ok (.iload_n 2, 1) := by decide +kernel
theorem dd_X0_whyNot_1 : decode cX0_whyNot 1 = .ok (.tableswitch 202 0 4 #[35, 74, 113, 140, 178], 35) := by decide +kernel
theorem dd_X0_whyNot_179 : decode cX0_whyNot 179 = .ok (.aload_n 0, 1) := by decide +kernel
theorem dd_X0_whyNot_180 : decode cX0_whyNot 180 = .ok (.getfield 21, 3) := by decide +kernel
theorem dd_X0_whyNot_183 : decode cX0_whyNot 183 = .ok (.aload_n 1, 1) := by decide +kernel
theorem dd_X0_whyNot_184 : decode cX0_whyNot 184 = .ok (.aload_n 0, 1) := by decide +kernel
theorem dd_X0_whyNot_185 : decode cX0_whyNot 185 = .ok (.getfield 12, 3) := by decide +kernel
theorem dd_X0_whyNot_188 : decode cX0_whyNot 188 = .ok (.invokevirtual 53, 3) := by decide +kernel
theorem dd_X0_whyNot_191 : decode cX0_whyNot 191 = .ok (.invokevirtual 57, 3) := by decide +kernel
theorem dd_X0_whyNot_194 : decode cX0_whyNot 194 = .ok (.ifCond .eq 7, 3) := by decide +kernel
theorem dd_X0_whyNot_201 : decode cX0_whyNot 201 = .ok (.iconst 1, 1) := by decide +kernel
theorem dd_X0_whyNot_202 : decode cX0_whyNot 202 = .ok (.ireturn, 1) := by decide +kernel
theorem dd_X10_fails_0 : decode cX10_fails 0 = .ok (.aload_n 0, 1) := by decide +kernel
theorem dd_X10_fails_1 : decode cX10_fails 1 = .ok (.iload_n 1, 1) := by decide +kernel
theorem dd_X10_fails_2 : decode cX10_fails 2 = .ok (.putfield 46, 3) := by decide +kernel
theorem dd_X10_fails_5 : decode cX10_fails 5 = .ok (.aload_n 0, 1) := by decide +kernel
theorem dd_X10_fails_6 : decode cX10_fails 6 = .ok (.iload_n 2, 1) := by decide +kernel
theorem dd_X10_fails_7 : decode cX10_fails 7 = .ok (.putfield 49, 3) := by decide +kernel
theorem dd_X10_fails_10 : decode cX10_fails 10 = .ok (.iconst 0, 1) := by decide +kernel
theorem dd_X10_fails_11 : decode cX10_fails 11 = .ok (.ireturn, 1) := by decide +kernel
theorem dd_X10_isSign_0 : decode cX10_isSign 0 = .ok (.aload_n 0, 1) := by decide +kernel
theorem dd_X10_isSign_1 : decode cX10_isSign 1 = .ok (.getfield 61, 3) := by decide +kernel
theorem dd_X10_isSign_4 : decode cX10_isSign 4 = .ok (.iconst 3, 1) := by decide +kernel
theorem dd_X10_isSign_5 : decode cX10_isSign 5 = .ok (.if_icmp .ne 15, 3) := by decide +kernel
theorem dd_X10_isSign_20 : decode cX10_isSign 20 = .ok (.iconst 0, 1) := by decide +kernel
theorem dd_X10_isSign_21 : decode cX10_isSign 21 = .ok (.ireturn, 1) := by decide +kernel
theorem dd_X10_next_0 : decode cX10_next 0 = .ok (.aload_n 0, 1) := by decide +kernel
theorem dd_X10_next_1 : decode cX10_next 1 = .ok (.getfield 43, 3) := by decide +kernel
theorem dd_X10_next_4 : decode cX10_next 4 = .ok (.aload_n 0, 1) := by decide +kernel
theorem dd_X10_next_5 : decode cX10_next 5 = .ok (.getfield 37, 3) := by decide +kernel
theorem dd_X10_next_8 : decode cX10_next 8 = .ok (.if_icmp .ge 55, 3) := by decide +kernel
theorem dd_X10_next_63 : decode cX10_next 63 = .ok (.aload_n 0, 1) := by decide +kernel
theorem dd_X10_next_64 : decode cX10_next 64 = .ok (.iconst (-1), 1) := by decide +kernel
theorem dd_X10_next_65 : decode cX10_next 65 = .ok (.putfield 55, 3) := by decide +kernel
theorem dd_X10_next_68 : decode cX10_next 68 = .ok (.aload_n 0, 1) := by decide +kernel
theorem dd_X10_next_69 : decode cX10_next 69 = .ok (.getfield 43, 3) := by decide +kernel
theorem dd_X10_next_72 : decode cX10_next 72 = .ok (.aload_n 0, 1) := by decide +kernel
theorem dd_X10_next_73 : decode cX10_next 73 = .ok (.getfield 40, 3) := by decide +kernel
theorem dd_X10_next_76 : decode cX10_next 76 = .ok (.if_icmp .lt 30, 3) := by decide +kernel
theorem dd_X10_next_106 : decode cX10_next 106 = .ok (.aload_n 0, 1) := by decide +kernel
theorem dd_X10_next_107 : decode cX10_next 107 = .ok (.getfield 43, 3) := by decide +kernel
theorem dd_X10_next_110 : decode cX10_next 110 = .ok (.aload_n 0, 1) := by decide +kernel
theorem dd_X10_next_111 : decode cX10_next 111 = .ok (.getfield 37, 3) := by decide +kernel
theorem dd_X10_next_114 : decode cX10_next 114 = .ok (.if_icmp .lt 19, 3) := by decide +kernel
theorem dd_X10_next_117 : decode cX10_next 117 = .ok (.aload_n 0, 1) := by decide +kernel
theorem dd_X10_next_118 : decode cX10_next 118 = .ok (.aload_n 0, 1) := by decide +kernel
theorem dd_X10_next_119 : decode cX10_next 119 = .ok (.getfield 37, 3) := by decide +kernel
theorem dd_X10_next_122 : decode cX10_next 122 = .ok (.putfield 58, 3) := by decide +kernel
theorem dd_X10_next_125 : decode cX10_next 125 = .ok (.aload_n 0, 1) := by decide +kernel
theorem dd_X10_next_126 : decode cX10_next 126 = .ok (.iconst 0, 1) := by decide +kernel
theorem dd_X10_next_127 : decode cX10_next 127 = .ok (.putfield 61, 3) := by decide +kernel
theorem dd_X10_next_130 : decode cX10_next 130 = .ok (.goto 53, 3) := by decide +kernel
theorem dd_X10_next_183 : decode cX10_next 183 = .ok (.return_, 1) := by decide +kernel
theorem dd_X10_start_0 : decode cX10_start 0 = .ok (.aload_n 0, 1) := by decide +kernel
theorem dd_X10_start_1 : decode cX10_start 1 = .ok (.iload_n 1, 1) := by decide +kernel
theorem dd_X10_start_2 : decode cX10_start 2 = .ok (.sipush 940, 3) := by decide +kernel
theorem dd_X10_start_5 : decode cX10_start 5 = .ok (.invokestatic 31, 3) := by decide +kernel
theorem dd_X10_start_8 : decode cX10_start 8 = .ok (.putfield 37, 3) := by decide +kernel
theorem dd_X10_start_11 : decode cX10_start 11 = .ok (.aload_n 0, 1) := by decide +kernel
theorem dd_X10_start_12 : decode cX10_start 12 = .ok (.iload_n 2, 1) := by decide +kernel
theorem dd_X10_start_13 : decode cX10_start 13 = .ok (.putfield 40, 3) := by decide +kernel
theorem dd_X10_start_16 : decode cX10_start 16 = .ok (.aload_n 0, 1) := by decide +kernel
theorem dd_X10_start_17 : decode cX10_start 17 = .ok (.iconst 0, 1) := by decide +kernel
theorem dd_X10_start_18 : decode cX10_start 18 = .ok (.putfield 43, 3) := by decide +kernel
theorem dd_X10_start_21 : decode cX10_start 21 = .ok (.aload_n 0, 1) := by decide +kernel
theorem dd_X10_start_22 : decode cX10_start 22 = .ok (.iconst 0, 1) := by decide +kernel
theorem dd_X10_start_23 : decode cX10_start 23 = .ok (.putfield 46, 3) := by decide +kernel
theorem dd_X10_start_26 : decode cX10_start 26 = .ok (.aload_n 0, 1) := by decide +kernel
theorem dd_X10_start_27 : decode cX10_start 27 = .ok (.iconst 0, 1) := by decide +kernel
theorem dd_X10_start_28 : decode cX10_start 28 = .ok (.putfield 49, 3) := by decide +kernel
theorem dd_X10_start_31 : decode cX10_start 31 = .ok (.aload_n 0, 1) := by decide +kernel
theorem dd_X10_start_32 : decode cX10_start 32 = .ok (.invokevirtual 52, 3) := by decide +kernel
theorem dd_X10_start_35 : decode cX10_start 35 = .ok (.return_, 1) := by decide +kernel
theorem dd_X11_book_0 : decode cX11_book 0 = .ok (.iload_n 1, 1) := by decide +kernel
theorem dd_X11_book_1 : decode cX11_book 1 = .ok (.ifCond .eq 12, 3) := by decide +kernel
theorem dd_X11_book_4 : decode cX11_book 4 = .ok (.iload_n 1, 1) := by decide +kernel
theorem dd_X11_book_5 : decode cX11_book 5 = .ok (.iconst 1, 1) := by decide +kernel
theorem dd_X11_book_6 : decode cX11_book 6 = .ok (.if_icmp .eq 7, 3) := by decide +kernel
theorem dd_X11_book_9 : decode cX11_book 9 = .ok (.sipush (-1000), 3) := by decide +kernel
theorem dd_X11_book_12 : decode cX11_book 12 = .ok (.ireturn, 1) := by decide +kernel
theorem dd_X11_book_13 : decode cX11_book 13 = .ok (.aload_n 0, 1) := by decide +kernel
theorem dd_X11_book_14 : decode cX11_book 14 = .ok (.sipush 400, 3) := by decide +kernel
theorem dd_X11_book_17 : decode cX11_book 17 = .ok (.invokevirtual 111, 3) := by decide +kernel
theorem dd_X11_book_20 : decode cX11_book 20 = .ok (.aload_n 0, 1) := by decide +kernel
theorem dd_X11_book_21 : decode cX11_book 21 = .ok (.getfield 96, 3) := by decide +kernel
theorem dd_X11_book_24 : decode cX11_book 24 = .ok (.aload_n 0, 1) := by decide +kernel
theorem dd_X11_book_25 : decode cX11_book 25 = .ok (.getfield 12, 3) := by decide +kernel
theorem dd_X11_book_28 : decode cX11_book 28 = .ok (.aload_n 0, 1) := by decide +kernel
theorem dd_X11_book_29 : decode cX11_book 29 = .ok (.getfield 34, 3) := by decide +kernel
theorem dd_X11_book_32 : decode cX11_book 32 = .ok (.invokevirtual 332, 3) := by decide +kernel
theorem dd_X11_book_35 : decode cX11_book 35 = .ok (.istore_n 2, 1) := by decide +kernel
theorem dd_X11_book_36 : decode cX11_book 36 = .ok (.aload_n 0, 1) := by decide +kernel
theorem dd_X11_book_37 : decode cX11_book 37 = .ok (.aload_n 0, 1) := by decide +kernel
theorem dd_X11_book_38 : decode cX11_book 38 = .ok (.getfield 12, 3) := by decide +kernel
theorem dd_X11_book_41 : decode cX11_book 41 = .ok (.getfield 118, 3) := by decide +kernel
theorem dd_X11_book_44 : decode cX11_book 44 = .ok (.putfield 121, 3) := by decide +kernel
theorem dd_X11_book_47 : decode cX11_book 47 = .ok (.iload_n 2, 1) := by decide +kernel
theorem dd_X11_book_48 : decode cX11_book 48 = .ok (.ifCond .ne 14, 3) := by decide +kernel
theorem dd_X11_book_62 : decode cX11_book 62 = .ok (.iload_n 1, 1) := by decide +kernel
theorem dd_X11_book_63 : decode cX11_book 63 = .ok (.iconst 1, 1) := by decide +kernel
theorem dd_X11_book_64 : decode cX11_book 64 = .ok (.if_icmp .ne 36, 3) := by decide +kernel
theorem dd_X11_book_67 : decode cX11_book 67 = .ok (.aload_n 0, 1) := by decide +kernel
theorem dd_X11_book_68 : decode cX11_book 68 = .ok (.getfield 61, 3) := by decide +kernel
theorem dd_X11_book_71 : decode cX11_book 71 = .ok (.aload_n 0, 1) := by decide +kernel
theorem dd_X11_book_72 : decode cX11_book 72 = .ok (.getfield 34, 3) := by decide +kernel
theorem dd_X11_book_75 : decode cX11_book 75 = .ok (.getfield 145, 3) := by decide +kernel
theorem dd_X11_book_78 : decode cX11_book 78 = .ok (.invokevirtual 215, 3) := by decide +kernel
theorem dd_X11_book_81 : decode cX11_book 81 = .ok (.aload_n 0, 1) := by decide +kernel
theorem dd_X11_book_82 : decode cX11_book 82 = .ok (.getfield 96, 3) := by decide +kernel
theorem dd_X11_book_85 : decode cX11_book 85 = .ok (.aload_n 0, 1) := by decide +kernel
theorem dd_X11_book_86 : decode cX11_book 86 = .ok (.getfield 26, 3) := by decide +kernel
theorem dd_X11_book_89 : decode cX11_book 89 = .ok (.aload_n 0, 1) := by decide +kernel
theorem dd_X11_book_90 : decode cX11_book 90 = .ok (.getfield 34, 3) := by decide +kernel
theorem dd_X11_book_93 : decode cX11_book 93 = .ok (.getfield 145, 3) := by decide +kernel
theorem dd_X11_book_96 : decode cX11_book 96 = .ok (.invokevirtual 335, 3) := by decide +kernel
theorem dd_X11_book_99 : decode cX11_book 99 = .ok (.ireturn, 1) := by decide +kernel
theorem dd_X11_book_100 : decode cX11_book 100 = .ok (.aload_n 0, 1) := by decide +kernel
theorem dd_X11_book_101 : decode cX11_book 101 = .ok (.getfield 54, 3) := by decide +kernel
theorem dd_X11_book_104 : decode cX11_book 104 = .ok (.aload_n 0, 1) := by decide +kernel
theorem dd_X11_book_105 : decode cX11_book 105 = .ok (.getfield 34, 3) := by decide +kernel
theorem dd_X11_book_108 : decode cX11_book 108 = .ok (.getfield 145, 3) := by decide +kernel
theorem dd_X11_book_111 : decode cX11_book 111 = .ok (.invokevirtual 330, 3) := by decide +kernel
theorem dd_X11_book_114 : decode cX11_book 114 = .ok (.aload_n 0, 1) := by decide +kernel
theorem dd_X11_book_115 : decode cX11_book 115 = .ok (.getfield 96, 3) := by decide +kernel
theorem dd_X11_book_118 : decode cX11_book 118 = .ok (.aload_n 0, 1) := by decide +kernel
theorem dd_X11_book_119 : decode cX11_book 119 = .ok (.getfield 26, 3) := by decide +kernel
theorem dd_X11_book_122 : decode cX11_book 122 = .ok (.aload_n 0, 1) := by decide +kernel
theorem dd_X11_book_123 : decode cX11_book 123 = .ok (.getfield 54, 3) := by decide +kernel
theorem dd_X11_book_126 : decode cX11_book 126 = .ok (.invokevirtual 335, 3) := by decide +kernel
theorem dd_X11_book_129 : decode cX11_book 129 = .ok (.ireturn, 1) := by decide +kernel
theorem dd_X11_bought_0 : decode cX11_bought 0 = .ok (.aload_n 0, 1) := by decide +kernel
theorem dd_X11_bought_1 : decode cX11_bought 1 = .ok (.getfield 34, 3) := by decide +kernel
theorem dd_X11_bought_4 : decode cX11_bought 4 = .ok (.iconst 0, 1) := by decide +kernel
theorem dd_X11_bought_5 : decode cX11_bought 5 = .ok (.iload_n 1, 1) := by decide +kernel
theorem dd_X11_bought_6 : decode cX11_bought 6 = .ok (.invokevirtual 138, 3) := by decide +kernel
theorem dd_X11_bought_9 : decode cX11_bought 9 = .ok (.ifCond .eq 35, 3) := by decide +kernel
theorem dd_X11_bought_44 : decode cX11_bought 44 = .ok (.iconst (-1), 1) := by decide +kernel
theorem dd_X11_bought_45 : decode cX11_bought 45 = .ok (.ireturn, 1) := by decide +kernel
theorem dd_X11_buy_0 : decode cX11_buy 0 = .ok (.aload_n 0, 1) := by decide +kernel
theorem dd_X11_buy_1 : decode cX11_buy 1 = .ok (.getfield 34, 3) := by decide +kernel
theorem dd_X11_buy_4 : decode cX11_buy 4 = .ok (.iconst 0, 1) := by decide +kernel
theorem dd_X11_buy_5 : decode cX11_buy 5 = .ok (.iload_n 1, 1) := by decide +kernel
theorem dd_X11_buy_6 : decode cX11_buy 6 = .ok (.invokevirtual 138, 3) := by decide +kernel
theorem dd_X11_buy_9 : decode cX11_buy 9 = .ok (.ifCond .eq 15, 3) := by decide +kernel
theorem dd_X11_buy_24 : decode cX11_buy 24 = .ok (.iconst (-1), 1) := by decide +kernel
theorem dd_X11_buy_25 : decode cX11_buy 25 = .ok (.ireturn, 1) := by decide +kernel
theorem dd_X11_byteAt_0 : decode cX11_byteAt 0 = .ok (.iload_n 1, 1) := by decide +kernel
theorem dd_X11_byteAt_1 : decode cX11_byteAt 1 = .ok (.ifCond .lt 24, 3) := by decide +kernel
theorem dd_X11_byteAt_4 : decode cX11_byteAt 4 = .ok (.iload_n 1, 1) := by decide +kernel
theorem dd_X11_byteAt_5 : decode cX11_byteAt 5 = .ok (.aload_n 0, 1) := by decide +kernel
theorem dd_X11_byteAt_6 : decode cX11_byteAt 6 = .ok (.getfield 288, 3) := by decide +kernel
theorem dd_X11_byteAt_9 : decode cX11_byteAt 9 = .ok (.if_icmp .ge 16, 3) := by decide +kernel
theorem dd_X11_byteAt_25 : decode cX11_byteAt 25 = .ok (.iconst (-1), 1) := by decide +kernel
theorem dd_X11_byteAt_26 : decode cX11_byteAt 26 = .ok (.ireturn, 1) := by decide +kernel
theorem dd_X11_copyRow_0 : decode cX11_copyRow 0 = .ok (.aload_n 0, 1) := by decide +kernel
theorem dd_X11_copyRow_1 : decode cX11_copyRow 1 = .ok (.iconst 0, 1) := by decide +kernel
theorem dd_X11_copyRow_2 : decode cX11_copyRow 2 = .ok (.aload_n 1, 1) := by decide +kernel
theorem dd_X11_copyRow_3 : decode cX11_copyRow 3 = .ok (.iconst 0, 1) := by decide +kernel
theorem dd_X11_copyRow_4 : decode cX11_copyRow 4 = .ok (.aload_n 0, 1) := by decide +kernel
theorem dd_X11_copyRow_5 : decode cX11_copyRow 5 = .ok (.arraylength, 1) := by decide +kernel
theorem dd_X11_copyRow_6 : decode cX11_copyRow 6 = .ok (.aload_n 1, 1) := by decide +kernel
theorem dd_X11_copyRow_7 : decode cX11_copyRow 7 = .ok (.arraylength, 1) := by decide +kernel
theorem dd_X11_copyRow_8 : decode cX11_copyRow 8 = .ok (.invokestatic 226, 3) := by decide +kernel
theorem dd_X11_copyRow_11 : decode cX11_copyRow 11 = .ok (.invokestatic 377, 3) := by decide +kernel
theorem dd_X11_copyRow_14 : decode cX11_copyRow 14 = .ok (.return_, 1) := by decide +kernel
theorem dd_X11_cost_0 : decode cX11_cost 0 = .ok (.aload_n 0, 1) := by decide +kernel
theorem dd_X11_cost_1 : decode cX11_cost 1 = .ok (.getfield 34, 3) := by decide +kernel
theorem dd_X11_cost_4 : decode cX11_cost 4 = .ok (.iconst 0, 1) := by decide +kernel
theorem dd_X11_cost_5 : decode cX11_cost 5 = .ok (.iload_n 1, 1) := by decide +kernel
theorem dd_X11_cost_6 : decode cX11_cost 6 = .ok (.invokevirtual 138, 3) := by decide +kernel
theorem dd_X11_cost_9 : decode cX11_cost 9 = .ok (.ifCond .eq 34, 3) := by decide +kernel
theorem dd_X11_cost_43 : decode cX11_cost 43 = .ok (.iconst (-1), 1) := by decide +kernel
theorem dd_X11_cost_44 : decode cX11_cost 44 = .ok (.ireturn, 1) := by decide +kernel
theorem dd_X11_count_0 : decode cX11_count 0 = .ok (.iload_n 1, 1) := by decide +kernel
theorem dd_X11_count_1 : decode cX11_count 1 = .ok (.tableswitch 84 0 5 #[39, 47, 55, 63, 71, 79], 39) := by decide +kernel
theorem dd_X11_count_40 : decode cX11_count 40 = .ok (.aload_n 0, 1) := by decide +kernel
theorem dd_X11_count_41 : decode cX11_count 41 = .ok (.getfield 34, 3) := by decide +kernel
theorem dd_X11_count_44 : decode cX11_count 44 = .ok (.invokevirtual 239, 3) := by decide +kernel
theorem dd_X11_count_47 : decode cX11_count 47 = .ok (.ireturn, 1) := by decide +kernel
theorem dd_X11_count_48 : decode cX11_count 48 = .ok (.aload_n 0, 1) := by decide +kernel
theorem dd_X11_count_49 : decode cX11_count 49 = .ok (.getfield 34, 3) := by decide +kernel
theorem dd_X11_count_52 : decode cX11_count 52 = .ok (.invokevirtual 369, 3) := by decide +kernel
theorem dd_X11_count_55 : decode cX11_count 55 = .ok (.ireturn, 1) := by decide +kernel
theorem dd_X11_count_56 : decode cX11_count 56 = .ok (.aload_n 0, 1) := by decide +kernel
theorem dd_X11_count_57 : decode cX11_count 57 = .ok (.getfield 34, 3) := by decide +kernel
theorem dd_X11_count_60 : decode cX11_count 60 = .ok (.invokevirtual 178, 3) := by decide +kernel
theorem dd_X11_count_63 : decode cX11_count 63 = .ok (.ireturn, 1) := by decide +kernel
theorem dd_X11_count_64 : decode cX11_count 64 = .ok (.aload_n 0, 1) := by decide +kernel
theorem dd_X11_count_65 : decode cX11_count 65 = .ok (.getfield 34, 3) := by decide +kernel
theorem dd_X11_count_68 : decode cX11_count 68 = .ok (.getfield 371, 3) := by decide +kernel
theorem dd_X11_count_71 : decode cX11_count 71 = .ok (.ireturn, 1) := by decide +kernel
theorem dd_X11_count_72 : decode cX11_count 72 = .ok (.aload_n 0, 1) := by decide +kernel
theorem dd_X11_count_73 : decode cX11_count 73 = .ok (.getfield 34, 3) := by decide +kernel
theorem dd_X11_count_76 : decode cX11_count 76 = .ok (.getfield 374, 3) := by decide +kernel
theorem dd_X11_count_79 : decode cX11_count 79 = .ok (.ireturn, 1) := by decide +kernel
theorem dd_X11_count_80 : decode cX11_count 80 = .ok (.aload_n 0, 1) := by decide +kernel
theorem dd_X11_count_81 : decode cX11_count 81 = .ok (.getfield 103, 3) := by decide +kernel
theorem dd_X11_count_84 : decode cX11_count 84 = .ok (.ireturn, 1) := by decide +kernel
theorem dd_X11_count_85 : decode cX11_count 85 = .ok (.iconst (-1), 1) := by decide +kernel
theorem dd_X11_count_86 : decode cX11_count 86 = .ok (.ireturn, 1) := by decide +kernel
theorem dd_X11_done_0 : decode cX11_done 0 = .ok (.aload_n 0, 1) := by decide +kernel
theorem dd_X11_done_1 : decode cX11_done 1 = .ok (.getfield 61, 3) := by decide +kernel
theorem dd_X11_done_4 : decode cX11_done 4 = .ok (.aload_n 0, 1) := by decide +kernel
theorem dd_X11_done_5 : decode cX11_done 5 = .ok (.getfield 34, 3) := by decide +kernel
theorem dd_X11_done_8 : decode cX11_done 8 = .ok (.getfield 145, 3) := by decide +kernel
theorem dd_X11_done_11 : decode cX11_done 11 = .ok (.invokevirtual 215, 3) := by decide +kernel
theorem dd_X11_done_14 : decode cX11_done 14 = .ok (.aload_n 0, 1) := by decide +kernel
theorem dd_X11_done_15 : decode cX11_done 15 = .ok (.getfield 26, 3) := by decide +kernel
theorem dd_X11_done_18 : decode cX11_done 18 = .ok (.aload_n 0, 1) := by decide +kernel
theorem dd_X11_done_19 : decode cX11_done 19 = .ok (.getfield 34, 3) := by decide +kernel
theorem dd_X11_done_22 : decode cX11_done 22 = .ok (.getfield 145, 3) := by decide +kernel
theorem dd_X11_done_25 : decode cX11_done 25 = .ok (.iload_n 1, 1) := by decide +kernel
theorem dd_X11_done_26 : decode cX11_done 26 = .ok (.iload_n 2, 1) := by decide +kernel
theorem dd_X11_done_27 : decode cX11_done 27 = .ok (.iload_n 3, 1) := by decide +kernel
theorem dd_X11_done_28 : decode cX11_done 28 = .ok (.iload 4, 2) := by decide +kernel
theorem dd_X11_done_30 : decode cX11_done 30 = .ok (.invokevirtual 219, 3) := by decide +kernel
theorem dd_X11_done_33 : decode cX11_done 33 = .ok (.ireturn, 1) := by decide +kernel
theorem dd_X11_drawn_0 : decode cX11_drawn 0 = .ok (.iload_n 1, 1) := by decide +kernel
theorem dd_X11_drawn_1 : decode cX11_drawn 1 = .ok (.iconst 1, 1) := by decide +kernel
theorem dd_X11_drawn_2 : decode cX11_drawn 2 = .ok (.if_icmp .lt 19, 3) := by decide +kernel
theorem dd_X11_drawn_5 : decode cX11_drawn 5 = .ok (.iload_n 1, 1) := by decide +kernel
theorem dd_X11_drawn_6 : decode cX11_drawn 6 = .ok (.bipush 60, 2) := by decide +kernel
theorem dd_X11_drawn_8 : decode cX11_drawn 8 = .ok (.if_icmp .gt 13, 3) := by decide +kernel
theorem dd_X11_drawn_11 : decode cX11_drawn 11 = .ok (.aload_n 0, 1) := by decide +kernel
theorem dd_X11_drawn_12 : decode cX11_drawn 12 = .ok (.getfield 34, 3) := by decide +kernel
theorem dd_X11_drawn_15 : decode cX11_drawn 15 = .ok (.invokevirtual 239, 3) := by decide +kernel
theorem dd_X11_drawn_18 : decode cX11_drawn 18 = .ok (.ifCond .ne 5, 3) := by decide +kernel
theorem dd_X11_drawn_21 : decode cX11_drawn 21 = .ok (.iconst (-1), 1) := by decide +kernel
theorem dd_X11_drawn_22 : decode cX11_drawn 22 = .ok (.ireturn, 1) := by decide +kernel
theorem dd_X11_duchy_0 : decode cX11_duchy 0 = .ok (.aload_n 0, 1) := by decide +kernel
theorem dd_X11_duchy_1 : decode cX11_duchy 1 = .ok (.sipush 900, 3) := by decide +kernel
theorem dd_X11_duchy_4 : decode cX11_duchy 4 = .ok (.invokevirtual 111, 3) := by decide +kernel
theorem dd_X11_duchy_7 : decode cX11_duchy 7 = .ok (.aload_n 0, 1) := by decide +kernel
theorem dd_X11_duchy_8 : decode cX11_duchy 8 = .ok (.getfield 40, 3) := by decide +kernel
theorem dd_X11_duchy_11 : decode cX11_duchy 11 = .ok (.aload_n 0, 1) := by decide +kernel
theorem dd_X11_duchy_12 : decode cX11_duchy 12 = .ok (.getfield 12, 3) := by decide +kernel
theorem dd_X11_duchy_15 : decode cX11_duchy 15 = .ok (.invokevirtual 114, 3) := by decide +kernel
theorem dd_X11_duchy_18 : decode cX11_duchy 18 = .ok (.istore_n 1, 1) := by decide +kernel
theorem dd_X11_duchy_19 : decode cX11_duchy 19 = .ok (.aload_n 0, 1) := by decide +kernel
theorem dd_X11_duchy_20 : decode cX11_duchy 20 = .ok (.aload_n 0, 1) := by decide +kernel
theorem dd_X11_duchy_21 : decode cX11_duchy 21 = .ok (.getfield 12, 3) := by decide +kernel
theorem dd_X11_duchy_24 : decode cX11_duchy 24 = .ok (.getfield 118, 3) := by decide +kernel
theorem dd_X11_duchy_27 : decode cX11_duchy 27 = .ok (.putfield 121, 3) := by decide +kernel
theorem dd_X11_duchy_30 : decode cX11_duchy 30 = .ok (.aload_n 0, 1) := by decide +kernel
theorem dd_X11_duchy_31 : decode cX11_duchy 31 = .ok (.getfield 12, 3) := by decide +kernel
theorem dd_X11_duchy_34 : decode cX11_duchy 34 = .ok (.getfield 118, 3) := by decide +kernel
theorem dd_X11_duchy_37 : decode cX11_duchy 37 = .ok (.ifCond .eq 13, 3) := by decide +kernel
theorem dd_X11_duchy_50 : decode cX11_duchy 50 = .ok (.aload_n 0, 1) := by decide +kernel
theorem dd_X11_duchy_51 : decode cX11_duchy 51 = .ok (.getfield 34, 3) := by decide +kernel
theorem dd_X11_duchy_54 : decode cX11_duchy 54 = .ok (.aload_n 0, 1) := by decide +kernel
theorem dd_X11_duchy_55 : decode cX11_duchy 55 = .ok (.getfield 40, 3) := by decide +kernel
theorem dd_X11_duchy_58 : decode cX11_duchy 58 = .ok (.invokevirtual 127, 3) := by decide +kernel
theorem dd_X11_duchy_61 : decode cX11_duchy 61 = .ok (.aload_n 0, 1) := by decide +kernel
theorem dd_X11_duchy_62 : decode cX11_duchy 62 = .ok (.getfield 61, 3) := by decide +kernel
theorem dd_X11_duchy_65 : decode cX11_duchy 65 = .ok (.invokevirtual 131, 3) := by decide +kernel
theorem dd_X11_duchy_68 : decode cX11_duchy 68 = .ok (.iload_n 1, 1) := by decide +kernel
theorem dd_X11_duchy_69 : decode cX11_duchy 69 = .ok (.ireturn, 1) := by decide +kernel
theorem dd_X11_end_0 : decode cX11_end 0 = .ok (.iload_n 1, 1) := by decide +kernel
theorem dd_X11_end_1 : decode cX11_end 1 = .ok (.ifCond .lt 11, 3) := by decide +kernel
theorem dd_X11_end_4 : decode cX11_end 4 = .ok (.iload_n 1, 1) := by decide +kernel
theorem dd_X11_end_5 : decode cX11_end 5 = .ok (.aload_n 0, 1) := by decide +kernel
theorem dd_X11_end_6 : decode cX11_end 6 = .ok (.getfield 103, 3) := by decide +kernel
theorem dd_X11_end_9 : decode cX11_end 9 = .ok (.if_icmp .le 5, 3) := by decide +kernel
theorem dd_X11_end_12 : decode cX11_end 12 = .ok (.iconst 0, 1) := by decide +kernel
theorem dd_X11_end_13 : decode cX11_end 13 = .ok (.ireturn, 1) := by decide +kernel
theorem dd_X11_end_14 : decode cX11_end 14 = .ok (.aload_n 0, 1) := by decide +kernel
theorem dd_X11_end_15 : decode cX11_end 15 = .ok (.iload_n 1, 1) := by decide +kernel
theorem dd_X11_end_16 : decode cX11_end 16 = .ok (.putfield 103, 3) := by decide +kernel
theorem dd_X11_end_19 : decode cX11_end 19 = .ok (.iconst 1, 1) := by decide +kernel
theorem dd_X11_end_20 : decode cX11_end 20 = .ok (.ireturn, 1) := by decide +kernel
theorem dd_X11_even_0 : decode cX11_even 0 = .ok (.aload_n 0, 1) := by decide +kernel
theorem dd_X11_even_1 : decode cX11_even 1 = .ok (.getfield 26, 3) := by decide +kernel
theorem dd_X11_even_4 : decode cX11_even 4 = .ok (.invokevirtual 268, 3) := by decide +kernel
theorem dd_X11_even_7 : decode cX11_even 7 = .ok (.ireturn, 1) := by decide +kernel
theorem dd_X11_fault_0 : decode cX11_fault 0 = .ok (.aload_n 0, 1) := by decide +kernel
theorem dd_X11_fault_1 : decode cX11_fault 1 = .ok (.getfield 121, 3) := by decide +kernel
theorem dd_X11_fault_4 : decode cX11_fault 4 = .ok (.ireturn, 1) := by decide +kernel
theorem dd_X11_feed_0 : decode cX11_feed 0 = .ok (.aload_n 0, 1) := by decide +kernel
theorem dd_X11_feed_1 : decode cX11_feed 1 = .ok (.getfield 103, 3) := by decide +kernel
theorem dd_X11_feed_4 : decode cX11_feed 4 = .ok (.bipush 20, 2) := by decide +kernel
theorem dd_X11_feed_6 : decode cX11_feed 6 = .ok (.iadd, 1) := by decide +kernel
theorem dd_X11_feed_7 : decode cX11_feed 7 = .ok (.sipush 940, 3) := by decide +kernel
theorem dd_X11_feed_10 : decode cX11_feed 10 = .ok (.if_icmp .le 5, 3) := by decide +kernel
theorem dd_X11_feed_15 : decode cX11_feed 15 = .ok (.aload_n 0, 1) := by decide +kernel
theorem dd_X11_feed_16 : decode cX11_feed 16 = .ok (.iload_n 1, 1) := by decide +kernel
theorem dd_X11_feed_17 : decode cX11_feed 17 = .ok (.invokevirtual 107, 3) := by decide +kernel
theorem dd_X11_feed_20 : decode cX11_feed 20 = .ok (.aload_n 0, 1) := by decide +kernel
theorem dd_X11_feed_21 : decode cX11_feed 21 = .ok (.iload_n 2, 1) := by decide +kernel
theorem dd_X11_feed_22 : decode cX11_feed 22 = .ok (.invokevirtual 107, 3) := by decide +kernel
theorem dd_X11_feed_25 : decode cX11_feed 25 = .ok (.aload_n 0, 1) := by decide +kernel
theorem dd_X11_feed_26 : decode cX11_feed 26 = .ok (.iload_n 3, 1) := by decide +kernel
theorem dd_X11_feed_27 : decode cX11_feed 27 = .ok (.invokevirtual 107, 3) := by decide +kernel
theorem dd_X11_feed_30 : decode cX11_feed 30 = .ok (.aload_n 0, 1) := by decide +kernel
theorem dd_X11_feed_31 : decode cX11_feed 31 = .ok (.iload 4, 2) := by decide +kernel
theorem dd_X11_feed_33 : decode cX11_feed 33 = .ok (.invokevirtual 107, 3) := by decide +kernel
theorem dd_X11_feed_36 : decode cX11_feed 36 = .ok (.aload_n 0, 1) := by decide +kernel
theorem dd_X11_feed_37 : decode cX11_feed 37 = .ok (.iload 5, 2) := by decide +kernel
theorem dd_X11_feed_39 : decode cX11_feed 39 = .ok (.invokevirtual 107, 3) := by decide +kernel
theorem dd_X11_feed_42 : decode cX11_feed 42 = .ok (.aload_n 0, 1) := by decide +kernel
theorem dd_X11_feed_43 : decode cX11_feed 43 = .ok (.getfield 103, 3) := by decide +kernel
theorem dd_X11_feed_46 : decode cX11_feed 46 = .ok (.ireturn, 1) := by decide +kernel
theorem dd_X11_feedNumber_0 : decode cX11_feedNumber 0 = .ok (.bipush 24, 2) := by decide +kernel
theorem dd_X11_feedNumber_2 : decode cX11_feedNumber 2 = .ok (.istore_n 2, 1) := by decide +kernel
theorem dd_X11_feedNumber_3 : decode cX11_feedNumber 3 = .ok (.iload_n 2, 1) := by decide +kernel
theorem dd_X11_feedNumber_4 : decode cX11_feedNumber 4 = .ok (.ifCond .lt 42, 3) := by decide +kernel
theorem dd_X11_feedNumber_7 : decode cX11_feedNumber 7 = .ok (.aload_n 0, 1) := by decide +kernel
theorem dd_X11_feedNumber_8 : decode cX11_feedNumber 8 = .ok (.getfield 103, 3) := by decide +kernel
theorem dd_X11_feedNumber_11 : decode cX11_feedNumber 11 = .ok (.sipush 940, 3) := by decide +kernel
theorem dd_X11_feedNumber_14 : decode cX11_feedNumber 14 = .ok (.if_icmp .ge 32, 3) := by decide +kernel
theorem dd_X11_feedNumber_17 : decode cX11_feedNumber 17 = .ok (.aload_n 0, 1) := by decide +kernel
theorem dd_X11_feedNumber_18 : decode cX11_feedNumber 18 = .ok (.getfield 20, 3) := by decide +kernel
theorem dd_X11_feedNumber_21 : decode cX11_feedNumber 21 = .ok (.aload_n 0, 1) := by decide +kernel
theorem dd_X11_feedNumber_22 : decode cX11_feedNumber 22 = .ok (.getfield 103, 3) := by decide +kernel
theorem dd_X11_feedNumber_25 : decode cX11_feedNumber 25 = .ok (.iload_n 1, 1) := by decide +kernel
theorem dd_X11_feedNumber_26 : decode cX11_feedNumber 26 = .ok (.iload_n 2, 1) := by decide +kernel
theorem dd_X11_feedNumber_27 : decode cX11_feedNumber 27 = .ok (.iushr, 1) := by decide +kernel
theorem dd_X11_feedNumber_28 : decode cX11_feedNumber 28 = .ok (.i2b, 1) := by decide +kernel
theorem dd_X11_feedNumber_29 : decode cX11_feedNumber 29 = .ok (.bastore, 1) := by decide +kernel
theorem dd_X11_feedNumber_30 : decode cX11_feedNumber 30 = .ok (.aload_n 0, 1) := by decide +kernel
theorem dd_X11_feedNumber_31 : decode cX11_feedNumber 31 = .ok (.dup, 1) := by decide +kernel
theorem dd_X11_feedNumber_32 : decode cX11_feedNumber 32 = .ok (.getfield 103, 3) := by decide +kernel
theorem dd_X11_feedNumber_35 : decode cX11_feedNumber 35 = .ok (.iconst 1, 1) := by decide +kernel
theorem dd_X11_feedNumber_36 : decode cX11_feedNumber 36 = .ok (.iadd, 1) := by decide +kernel
theorem dd_X11_feedNumber_37 : decode cX11_feedNumber 37 = .ok (.putfield 103, 3) := by decide +kernel
theorem dd_X11_feedNumber_40 : decode cX11_feedNumber 40 = .ok (.iinc 2 (-8), 3) := by decide +kernel
theorem dd_X11_feedNumber_43 : decode cX11_feedNumber 43 = .ok (.goto (-40), 3) := by decide +kernel
theorem dd_X11_feedNumber_46 : decode cX11_feedNumber 46 = .ok (.return_, 1) := by decide +kernel
theorem dd_X11_fits_0 : decode cX11_fits 0 = .ok (.aload_n 0, 1) := by decide +kernel
theorem dd_X11_fits_1 : decode cX11_fits 1 = .ok (.getfield 103, 3) := by decide +kernel
theorem dd_X11_fits_4 : decode cX11_fits 4 = .ok (.istore_n 1, 1) := by decide +kernel
theorem dd_X11_fits_5 : decode cX11_fits 5 = .ok (.aload_n 0, 1) := by decide +kernel
theorem dd_X11_fits_6 : decode cX11_fits 6 = .ok (.iconst 0, 1) := by decide +kernel
theorem dd_X11_fits_7 : decode cX11_fits 7 = .ok (.putfield 103, 3) := by decide +kernel
theorem dd_X11_fits_10 : decode cX11_fits 10 = .ok (.aload_n 0, 1) := by decide +kernel
theorem dd_X11_fits_11 : decode cX11_fits 11 = .ok (.getfield 89, 3) := by decide +kernel
theorem dd_X11_fits_14 : decode cX11_fits 14 = .ok (.aload_n 0, 1) := by decide +kernel
theorem dd_X11_fits_15 : decode cX11_fits 15 = .ok (.getfield 34, 3) := by decide +kernel
theorem dd_X11_fits_18 : decode cX11_fits 18 = .ok (.aload_n 0, 1) := by decide +kernel
theorem dd_X11_fits_19 : decode cX11_fits 19 = .ok (.getfield 20, 3) := by decide +kernel
theorem dd_X11_fits_22 : decode cX11_fits 22 = .ok (.iload_n 1, 1) := by decide +kernel
theorem dd_X11_fits_23 : decode cX11_fits 23 = .ok (.invokevirtual 271, 3) := by decide +kernel
theorem dd_X11_fits_26 : decode cX11_fits 26 = .ok (.ireturn, 1) := by decide +kernel
theorem dd_X11_forfeit_0 : decode cX11_forfeit 0 = .ok (.aload_n 0, 1) := by decide +kernel
theorem dd_X11_forfeit_1 : decode cX11_forfeit 1 = .ok (.getfield 34, 3) := by decide +kernel
theorem dd_X11_forfeit_4 : decode cX11_forfeit 4 = .ok (.iconst 0, 1) := by decide +kernel
theorem dd_X11_forfeit_5 : decode cX11_forfeit 5 = .ok (.iload_n 1, 1) := by decide +kernel
theorem dd_X11_forfeit_6 : decode cX11_forfeit 6 = .ok (.invokevirtual 138, 3) := by decide +kernel
theorem dd_X11_forfeit_9 : decode cX11_forfeit 9 = .ok (.ifCond .eq 15, 3) := by decide +kernel
theorem dd_X11_forfeit_24 : decode cX11_forfeit 24 = .ok (.iconst (-1), 1) := by decide +kernel
theorem dd_X11_forfeit_25 : decode cX11_forfeit 25 = .ok (.ireturn, 1) := by decide +kernel
theorem dd_X11_good_0 : decode cX11_good 0 = .ok (.aload_n 0, 1) := by decide +kernel
theorem dd_X11_good_1 : decode cX11_good 1 = .ok (.getfield 34, 3) := by decide +kernel
theorem dd_X11_good_4 : decode cX11_good 4 = .ok (.iconst 2, 1) := by decide +kernel
theorem dd_X11_good_5 : decode cX11_good 5 = .ok (.iload_n 1, 1) := by decide +kernel
theorem dd_X11_good_6 : decode cX11_good 6 = .ok (.invokevirtual 138, 3) := by decide +kernel
theorem dd_X11_good_9 : decode cX11_good 9 = .ok (.ifCond .ne 5, 3) := by decide +kernel
theorem dd_X11_good_12 : decode cX11_good 12 = .ok (.iconst (-1), 1) := by decide +kernel
theorem dd_X11_good_13 : decode cX11_good 13 = .ok (.ireturn, 1) := by decide +kernel
theorem dd_X11_image_0 : decode cX11_image 0 = .ok (.iload_n 1, 1) := by decide +kernel
theorem dd_X11_image_1 : decode cX11_image 1 = .ok (.ifCond .lt 8, 3) := by decide +kernel
theorem dd_X11_image_4 : decode cX11_image 4 = .ok (.iload_n 1, 1) := by decide +kernel
theorem dd_X11_image_5 : decode cX11_image 5 = .ok (.iconst 2, 1) := by decide +kernel
theorem dd_X11_image_6 : decode cX11_image 6 = .ok (.if_icmp .lt 5, 3) := by decide +kernel
theorem dd_X11_image_9 : decode cX11_image 9 = .ok (.iconst 0, 1) := by decide +kernel
theorem dd_X11_image_10 : decode cX11_image 10 = .ok (.ireturn, 1) := by decide +kernel
theorem dd_X11_image_11 : decode cX11_image 11 = .ok (.aload_n 0, 1) := by decide +kernel
theorem dd_X11_image_12 : decode cX11_image 12 = .ok (.getfield 43, 3) := by decide +kernel
theorem dd_X11_image_15 : decode cX11_image 15 = .ok (.iload_n 1, 1) := by decide +kernel
theorem dd_X11_image_16 : decode cX11_image 16 = .ok (.aaload, 1) := by decide +kernel
theorem dd_X11_image_17 : decode cX11_image 17 = .ok (.aload_n 0, 1) := by decide +kernel
theorem dd_X11_image_18 : decode cX11_image 18 = .ok (.getfield 34, 3) := by decide +kernel
theorem dd_X11_image_21 : decode cX11_image 21 = .ok (.invokevirtual 127, 3) := by decide +kernel
theorem dd_X11_image_24 : decode cX11_image 24 = .ok (.aload_n 0, 1) := by decide +kernel
theorem dd_X11_image_25 : decode cX11_image 25 = .ok (.getfield 47, 3) := by decide +kernel
theorem dd_X11_image_28 : decode cX11_image 28 = .ok (.iload_n 1, 1) := by decide +kernel
theorem dd_X11_image_29 : decode cX11_image 29 = .ok (.iconst 1, 1) := by decide +kernel
theorem dd_X11_image_30 : decode cX11_image 30 = .ok (.bastore, 1) := by decide +kernel
theorem dd_X11_image_31 : decode cX11_image 31 = .ok (.iconst 1, 1) := by decide +kernel
theorem dd_X11_image_32 : decode cX11_image 32 = .ok (.ireturn, 1) := by decide +kernel
theorem dd_X11_init_0 : decode cX11_init 0 = .ok (.aload_n 0, 1) := by decide +kernel
theorem dd_X11_init_1 : decode cX11_init 1 = .ok (.invokespecial 3, 3) := by decide +kernel
theorem dd_X11_init_4 : decode cX11_init 4 = .ok (.aload_n 0, 1) := by decide +kernel
theorem dd_X11_init_5 : decode cX11_init 5 = .ok (.new 9, 3) := by decide +kernel
theorem dd_X11_init_8 : decode cX11_init 8 = .ok (.dup, 1) := by decide +kernel
theorem dd_X11_init_9 : decode cX11_init 9 = .ok (.invokespecial 11, 3) := by decide +kernel
theorem dd_X11_init_12 : decode cX11_init 12 = .ok (.putfield 12, 3) := by decide +kernel
theorem dd_X11_init_15 : decode cX11_init 15 = .ok (.aload_n 0, 1) := by decide +kernel
theorem dd_X11_init_16 : decode cX11_init 16 = .ok (.aload_n 0, 1) := by decide +kernel
theorem dd_X11_init_17 : decode cX11_init 17 = .ok (.getfield 12, 3) := by decide +kernel
theorem dd_X11_init_20 : decode cX11_init 20 = .ok (.getfield 16, 3) := by decide +kernel
theorem dd_X11_init_23 : decode cX11_init 23 = .ok (.putfield 20, 3) := by decide +kernel
theorem dd_X11_init_26 : decode cX11_init 26 = .ok (.aload_n 0, 1) := by decide +kernel
theorem dd_X11_init_27 : decode cX11_init 27 = .ok (.new 23, 3) := by decide +kernel
theorem dd_X11_init_30 : decode cX11_init 30 = .ok (.dup, 1) := by decide +kernel
theorem dd_X11_init_31 : decode cX11_init 31 = .ok (.invokespecial 25, 3) := by decide +kernel
theorem dd_X11_init_34 : decode cX11_init 34 = .ok (.putfield 26, 3) := by decide +kernel
theorem dd_X11_init_37 : decode cX11_init 37 = .ok (.aload_n 0, 1) := by decide +kernel
theorem dd_X11_init_38 : decode cX11_init 38 = .ok (.aload_n 0, 1) := by decide +kernel
theorem dd_X11_init_39 : decode cX11_init 39 = .ok (.getfield 26, 3) := by decide +kernel
theorem dd_X11_init_42 : decode cX11_init 42 = .ok (.getfield 30, 3) := by decide +kernel
theorem dd_X11_init_45 : decode cX11_init 45 = .ok (.putfield 34, 3) := by decide +kernel
theorem dd_X11_init_48 : decode cX11_init 48 = .ok (.aload_n 0, 1) := by decide +kernel
theorem dd_X11_init_49 : decode cX11_init 49 = .ok (.new 37, 3) := by decide +kernel
theorem dd_X11_init_52 : decode cX11_init 52 = .ok (.dup, 1) := by decide +kernel
theorem dd_X11_init_53 : decode cX11_init 53 = .ok (.invokespecial 39, 3) := by decide +kernel
theorem dd_X11_init_56 : decode cX11_init 56 = .ok (.putfield 40, 3) := by decide +kernel
theorem dd_X11_init_59 : decode cX11_init 59 = .ok (.aload_n 0, 1) := by decide +kernel
theorem dd_X11_init_60 : decode cX11_init 60 = .ok (.iconst 2, 1) := by decide +kernel
theorem dd_X11_init_61 : decode cX11_init 61 = .ok (.anewarray 37, 3) := by decide +kernel
theorem dd_X11_init_64 : decode cX11_init 64 = .ok (.putfield 43, 3) := by decide +kernel
theorem dd_X11_init_67 : decode cX11_init 67 = .ok (.aload_n 0, 1) := by decide +kernel
theorem dd_X11_init_68 : decode cX11_init 68 = .ok (.iconst 2, 1) := by decide +kernel
theorem dd_X11_init_69 : decode cX11_init 69 = .ok (.newarray .boolean, 2) := by decide +kernel
theorem dd_X11_init_71 : decode cX11_init 71 = .ok (.putfield 47, 3) := by decide +kernel
theorem dd_X11_init_74 : decode cX11_init 74 = .ok (.aload_n 0, 1) := by decide +kernel
theorem dd_X11_init_75 : decode cX11_init 75 = .ok (.new 51, 3) := by decide +kernel
theorem dd_X11_init_78 : decode cX11_init 78 = .ok (.dup, 1) := by decide +kernel
theorem dd_X11_init_79 : decode cX11_init 79 = .ok (.invokespecial 53, 3) := by decide +kernel
theorem dd_X11_init_82 : decode cX11_init 82 = .ok (.putfield 54, 3) := by decide +kernel
theorem dd_X11_init_85 : decode cX11_init 85 = .ok (.aload_n 0, 1) := by decide +kernel
theorem dd_X11_init_86 : decode cX11_init 86 = .ok (.new 58, 3) := by decide +kernel
theorem dd_X11_init_89 : decode cX11_init 89 = .ok (.dup, 1) := by decide +kernel
theorem dd_X11_init_90 : decode cX11_init 90 = .ok (.invokespecial 60, 3) := by decide +kernel
theorem dd_X11_init_93 : decode cX11_init 93 = .ok (.putfield 61, 3) := by decide +kernel
theorem dd_X11_init_96 : decode cX11_init 96 = .ok (.aload_n 0, 1) := by decide +kernel
theorem dd_X11_init_97 : decode cX11_init 97 = .ok (.new 65, 3) := by decide +kernel
theorem dd_X11_init_100 : decode cX11_init 100 = .ok (.dup, 1) := by decide +kernel
theorem dd_X11_init_101 : decode cX11_init 101 = .ok (.invokespecial 67, 3) := by decide +kernel
theorem dd_X11_init_104 : decode cX11_init 104 = .ok (.putfield 68, 3) := by decide +kernel
theorem dd_X11_init_107 : decode cX11_init 107 = .ok (.aload_n 0, 1) := by decide +kernel
theorem dd_X11_init_108 : decode cX11_init 108 = .ok (.new 72, 3) := by decide +kernel
theorem dd_X11_init_111 : decode cX11_init 111 = .ok (.dup, 1) := by decide +kernel
theorem dd_X11_init_112 : decode cX11_init 112 = .ok (.invokespecial 74, 3) := by decide +kernel
theorem dd_X11_init_115 : decode cX11_init 115 = .ok (.putfield 75, 3) := by decide +kernel
theorem dd_X11_init_118 : decode cX11_init 118 = .ok (.aload_n 0, 1) := by decide +kernel
theorem dd_X11_init_119 : decode cX11_init 119 = .ok (.new 79, 3) := by decide +kernel
theorem dd_X11_init_122 : decode cX11_init 122 = .ok (.dup, 1) := by decide +kernel
theorem dd_X11_init_123 : decode cX11_init 123 = .ok (.invokespecial 81, 3) := by decide +kernel
theorem dd_X11_init_126 : decode cX11_init 126 = .ok (.putfield 82, 3) := by decide +kernel
theorem dd_X11_init_129 : decode cX11_init 129 = .ok (.aload_n 0, 1) := by decide +kernel
theorem dd_X11_init_130 : decode cX11_init 130 = .ok (.new 86, 3) := by decide +kernel
theorem dd_X11_init_133 : decode cX11_init 133 = .ok (.dup, 1) := by decide +kernel
theorem dd_X11_init_134 : decode cX11_init 134 = .ok (.invokespecial 88, 3) := by decide +kernel
theorem dd_X11_init_137 : decode cX11_init 137 = .ok (.putfield 89, 3) := by decide +kernel
theorem dd_X11_init_140 : decode cX11_init 140 = .ok (.aload_n 0, 1) := by decide +kernel
theorem dd_X11_init_141 : decode cX11_init 141 = .ok (.new 93, 3) := by decide +kernel
theorem dd_X11_init_144 : decode cX11_init 144 = .ok (.dup, 1) := by decide +kernel
theorem dd_X11_init_145 : decode cX11_init 145 = .ok (.invokespecial 95, 3) := by decide +kernel
theorem dd_X11_init_148 : decode cX11_init 148 = .ok (.putfield 96, 3) := by decide +kernel
theorem dd_X11_init_151 : decode cX11_init 151 = .ok (.aload_n 0, 1) := by decide +kernel
theorem dd_X11_init_152 : decode cX11_init 152 = .ok (.bipush 40, 2) := by decide +kernel
theorem dd_X11_init_154 : decode cX11_init 154 = .ok (.newarray .byte, 2) := by decide +kernel
theorem dd_X11_init_156 : decode cX11_init 156 = .ok (.putfield 100, 3) := by decide +kernel
theorem dd_X11_init_159 : decode cX11_init 159 = .ok (.iconst 0, 1) := by decide +kernel
theorem dd_X11_init_160 : decode cX11_init 160 = .ok (.istore_n 1, 1) := by decide +kernel
theorem dd_X11_init_161 : decode cX11_init 161 = .ok (.iload_n 1, 1) := by decide +kernel
theorem dd_X11_init_162 : decode cX11_init 162 = .ok (.iconst 2, 1) := by decide +kernel
theorem dd_X11_init_163 : decode cX11_init 163 = .ok (.if_icmp .ge 22, 3) := by decide +kernel
theorem dd_X11_init_166 : decode cX11_init 166 = .ok (.aload_n 0, 1) := by decide +kernel
theorem dd_X11_init_167 : decode cX11_init 167 = .ok (.getfield 43, 3) := by decide +kernel
theorem dd_X11_init_170 : decode cX11_init 170 = .ok (.iload_n 1, 1) := by decide +kernel
theorem dd_X11_init_171 : decode cX11_init 171 = .ok (.new 37, 3) := by decide +kernel
theorem dd_X11_init_174 : decode cX11_init 174 = .ok (.dup, 1) := by decide +kernel
theorem dd_X11_init_175 : decode cX11_init 175 = .ok (.invokespecial 39, 3) := by decide +kernel
theorem dd_X11_init_178 : decode cX11_init 178 = .ok (.aastore, 1) := by decide +kernel
theorem dd_X11_init_179 : decode cX11_init 179 = .ok (.iinc 1 1, 3) := by decide +kernel
theorem dd_X11_init_182 : decode cX11_init 182 = .ok (.goto (-21), 3) := by decide +kernel
theorem dd_X11_init_185 : decode cX11_init 185 = .ok (.return_, 1) := by decide +kernel
theorem dd_X11_lasts_0 : decode cX11_lasts 0 = .ok (.aload_n 0, 1) := by decide +kernel
theorem dd_X11_lasts_1 : decode cX11_lasts 1 = .ok (.getfield 34, 3) := by decide +kernel
theorem dd_X11_lasts_4 : decode cX11_lasts 4 = .ok (.iconst 0, 1) := by decide +kernel
theorem dd_X11_lasts_5 : decode cX11_lasts 5 = .ok (.iload_n 1, 1) := by decide +kernel
theorem dd_X11_lasts_6 : decode cX11_lasts 6 = .ok (.invokevirtual 138, 3) := by decide +kernel
theorem dd_X11_lasts_9 : decode cX11_lasts 9 = .ok (.ifCond .eq 27, 3) := by decide +kernel
theorem dd_X11_lasts_36 : decode cX11_lasts 36 = .ok (.iconst (-1), 1) := by decide +kernel
theorem dd_X11_lasts_37 : decode cX11_lasts 37 = .ok (.ireturn, 1) := by decide +kernel
theorem dd_X11_lend_0 : decode cX11_lend 0 = .ok (.aload_n 0, 1) := by decide +kernel
theorem dd_X11_lend_1 : decode cX11_lend 1 = .ok (.iconst 2, 1) := by decide +kernel
theorem dd_X11_lend_2 : decode cX11_lend 2 = .ok (.iload_n 1, 1) := by decide +kernel
theorem dd_X11_lend_3 : decode cX11_lend 3 = .ok (.iload_n 2, 1) := by decide +kernel
theorem dd_X11_lend_4 : decode cX11_lend 4 = .ok (.iload_n 3, 1) := by decide +kernel
theorem dd_X11_lend_5 : decode cX11_lend 5 = .ok (.invokevirtual 212, 3) := by decide +kernel
theorem dd_X11_lend_8 : decode cX11_lend 8 = .ok (.ireturn, 1) := by decide +kernel
theorem dd_X11_list_0 : decode cX11_list 0 = .ok (.aload_n 0, 1) := by decide +kernel
theorem dd_X11_list_1 : decode cX11_list 1 = .ok (.getfield 34, 3) := by decide +kernel
theorem dd_X11_list_4 : decode cX11_list 4 = .ok (.iconst 0, 1) := by decide +kernel
theorem dd_X11_list_5 : decode cX11_list 5 = .ok (.iload_n 1, 1) := by decide +kernel
theorem dd_X11_list_6 : decode cX11_list 6 = .ok (.invokevirtual 138, 3) := by decide +kernel
theorem dd_X11_list_9 : decode cX11_list 9 = .ok (.ifCond .ne 5, 3) := by decide +kernel
theorem dd_X11_list_12 : decode cX11_list 12 = .ok (.iconst (-1), 1) := by decide +kernel
theorem dd_X11_list_13 : decode cX11_list 13 = .ok (.ireturn, 1) := by decide +kernel
theorem dd_X11_now_0 : decode cX11_now 0 = .ok (.aload_n 0, 1) := by decide +kernel
theorem dd_X11_now_1 : decode cX11_now 1 = .ok (.getfield 34, 3) := by decide +kernel
theorem dd_X11_now_4 : decode cX11_now 4 = .ok (.getfield 145, 3) := by decide +kernel
theorem dd_X11_now_7 : decode cX11_now 7 = .ok (.astore_n 2, 1) := by decide +kernel
theorem dd_X11_now_8 : decode cX11_now 8 = .ok (.iload_n 1, 1) := by decide +kernel
theorem dd_X11_now_9 : decode cX11_now 9 = .ok (.tableswitch 97 0 5 #[39, 44, 56, 61, 73, 85], 39) := by decide +kernel
theorem dd_X11_now_48 : decode cX11_now 48 = .ok (.aload_n 2, 1) := by decide +kernel
theorem dd_X11_now_49 : decode cX11_now 49 = .ok (.getfield 195, 3) := by decide +kernel
theorem dd_X11_now_52 : decode cX11_now 52 = .ok (.ireturn, 1) := by decide +kernel
theorem dd_X11_now_53 : decode cX11_now 53 = .ok (.aload_n 2, 1) := by decide +kernel
theorem dd_X11_now_54 : decode cX11_now 54 = .ok (.getfield 148, 3) := by decide +kernel
theorem dd_X11_now_57 : decode cX11_now 57 = .ok (.iconst 0, 1) := by decide +kernel
theorem dd_X11_now_58 : decode cX11_now 58 = .ok (.iconst 1, 1) := by decide +kernel
theorem dd_X11_now_59 : decode cX11_now 59 = .ok (.bipush 6, 2) := by decide +kernel
theorem dd_X11_now_61 : decode cX11_now 61 = .ok (.invokestatic 165, 3) := by decide +kernel
theorem dd_X11_now_64 : decode cX11_now 64 = .ok (.ireturn, 1) := by decide +kernel
theorem dd_X11_now_65 : decode cX11_now 65 = .ok (.aload_n 2, 1) := by decide +kernel
theorem dd_X11_now_66 : decode cX11_now 66 = .ok (.invokevirtual 198, 3) := by decide +kernel
theorem dd_X11_now_69 : decode cX11_now 69 = .ok (.ireturn, 1) := by decide +kernel
theorem dd_X11_now_70 : decode cX11_now 70 = .ok (.aload_n 2, 1) := by decide +kernel
theorem dd_X11_now_71 : decode cX11_now 71 = .ok (.getfield 162, 3) := by decide +kernel
theorem dd_X11_now_74 : decode cX11_now 74 = .ok (.iconst 0, 1) := by decide +kernel
theorem dd_X11_now_75 : decode cX11_now 75 = .ok (.iconst 1, 1) := by decide +kernel
theorem dd_X11_now_76 : decode cX11_now 76 = .ok (.bipush 36, 2) := by decide +kernel
theorem dd_X11_now_78 : decode cX11_now 78 = .ok (.invokestatic 165, 3) := by decide +kernel
theorem dd_X11_now_81 : decode cX11_now 81 = .ok (.ireturn, 1) := by decide +kernel
theorem dd_X11_now_82 : decode cX11_now 82 = .ok (.aload_n 2, 1) := by decide +kernel
theorem dd_X11_now_83 : decode cX11_now 83 = .ok (.getfield 172, 3) := by decide +kernel
theorem dd_X11_now_86 : decode cX11_now 86 = .ok (.iconst 0, 1) := by decide +kernel
theorem dd_X11_now_87 : decode cX11_now 87 = .ok (.iconst 1, 1) := by decide +kernel
theorem dd_X11_now_88 : decode cX11_now 88 = .ok (.bipush 36, 2) := by decide +kernel
theorem dd_X11_now_90 : decode cX11_now 90 = .ok (.invokestatic 165, 3) := by decide +kernel
theorem dd_X11_now_93 : decode cX11_now 93 = .ok (.ireturn, 1) := by decide +kernel
theorem dd_X11_now_94 : decode cX11_now 94 = .ok (.aload_n 2, 1) := by decide +kernel
theorem dd_X11_now_95 : decode cX11_now 95 = .ok (.getfield 182, 3) := by decide +kernel
theorem dd_X11_now_98 : decode cX11_now 98 = .ok (.iconst 0, 1) := by decide +kernel
theorem dd_X11_now_99 : decode cX11_now 99 = .ok (.iconst 1, 1) := by decide +kernel
theorem dd_X11_now_100 : decode cX11_now 100 = .ok (.bipush 36, 2) := by decide +kernel
theorem dd_X11_now_102 : decode cX11_now 102 = .ok (.invokestatic 165, 3) := by decide +kernel
theorem dd_X11_now_105 : decode cX11_now 105 = .ok (.ireturn, 1) := by decide +kernel
theorem dd_X11_now_106 : decode cX11_now 106 = .ok (.iconst (-1), 1) := by decide +kernel
theorem dd_X11_now_107 : decode cX11_now 107 = .ok (.ireturn, 1) := by decide +kernel
theorem dd_X11_odds_0 : decode cX11_odds 0 = .ok (.aload_n 0, 1) := by decide +kernel
theorem dd_X11_odds_1 : decode cX11_odds 1 = .ok (.getfield 34, 3) := by decide +kernel
theorem dd_X11_odds_4 : decode cX11_odds 4 = .ok (.iconst 0, 1) := by decide +kernel
theorem dd_X11_odds_5 : decode cX11_odds 5 = .ok (.iload_n 1, 1) := by decide +kernel
theorem dd_X11_odds_6 : decode cX11_odds 6 = .ok (.invokevirtual 138, 3) := by decide +kernel
theorem dd_X11_odds_9 : decode cX11_odds 9 = .ok (.ifCond .eq 14, 3) := by decide +kernel
theorem dd_X11_odds_23 : decode cX11_odds 23 = .ok (.iconst (-1), 1) := by decide +kernel
theorem dd_X11_odds_24 : decode cX11_odds 24 = .ok (.ireturn, 1) := by decide +kernel
theorem dd_X11_owes_0 : decode cX11_owes 0 = .ok (.aload_n 0, 1) := by decide +kernel
theorem dd_X11_owes_1 : decode cX11_owes 1 = .ok (.getfield 34, 3) := by decide +kernel
theorem dd_X11_owes_4 : decode cX11_owes 4 = .ok (.iconst 0, 1) := by decide +kernel
theorem dd_X11_owes_5 : decode cX11_owes 5 = .ok (.iload_n 1, 1) := by decide +kernel
theorem dd_X11_owes_6 : decode cX11_owes 6 = .ok (.invokevirtual 138, 3) := by decide +kernel
theorem dd_X11_owes_9 : decode cX11_owes 9 = .ok (.ifCond .eq 35, 3) := by decide +kernel
theorem dd_X11_owes_44 : decode cX11_owes 44 = .ok (.iconst (-1), 1) := by decide +kernel
theorem dd_X11_owes_45 : decode cX11_owes 45 = .ok (.ireturn, 1) := by decide +kernel
theorem dd_X11_plan_0 : decode cX11_plan 0 = .ok (.aload_n 0, 1) := by decide +kernel
theorem dd_X11_plan_1 : decode cX11_plan 1 = .ok (.getfield 34, 3) := by decide +kernel
theorem dd_X11_plan_4 : decode cX11_plan 4 = .ok (.iconst 0, 1) := by decide +kernel
theorem dd_X11_plan_5 : decode cX11_plan 5 = .ok (.iload_n 1, 1) := by decide +kernel
theorem dd_X11_plan_6 : decode cX11_plan 6 = .ok (.invokevirtual 138, 3) := by decide +kernel
theorem dd_X11_plan_9 : decode cX11_plan 9 = .ok (.ifCond .eq 14, 3) := by decide +kernel
theorem dd_X11_plan_23 : decode cX11_plan 23 = .ok (.iconst (-1), 1) := by decide +kernel
theorem dd_X11_plan_24 : decode cX11_plan 24 = .ok (.ireturn, 1) := by decide +kernel
theorem dd_X11_planned_0 : decode cX11_planned 0 = .ok (.iload_n 1, 1) := by decide +kernel
theorem dd_X11_planned_1 : decode cX11_planned 1 = .ok (.ifCond .lt 26, 3) := by decide +kernel
theorem dd_X11_planned_4 : decode cX11_planned 4 = .ok (.iload_n 1, 1) := by decide +kernel
theorem dd_X11_planned_5 : decode cX11_planned 5 = .ok (.aload_n 0, 1) := by decide +kernel
theorem dd_X11_planned_6 : decode cX11_planned 6 = .ok (.getfield 75, 3) := by decide +kernel
theorem dd_X11_planned_9 : decode cX11_planned 9 = .ok (.getfield 257, 3) := by decide +kernel
theorem dd_X11_planned_12 : decode cX11_planned 12 = .ok (.if_icmp .ge 15, 3) := by decide +kernel
theorem dd_X11_planned_27 : decode cX11_planned 27 = .ok (.iconst (-1), 1) := by decide +kernel
theorem dd_X11_planned_28 : decode cX11_planned 28 = .ok (.ireturn, 1) := by decide +kernel
theorem dd_X11_proudest_0 : decode cX11_proudest 0 = .ok (.iconst (-1), 1) := by decide +kernel
theorem dd_X11_proudest_1 : decode cX11_proudest 1 = .ok (.istore_n 1, 1) := by decide +kernel
theorem dd_X11_proudest_2 : decode cX11_proudest 2 = .ok (.iconst 0, 1) := by decide +kernel
theorem dd_X11_proudest_3 : decode cX11_proudest 3 = .ok (.istore_n 2, 1) := by decide +kernel
theorem dd_X11_proudest_4 : decode cX11_proudest 4 = .ok (.iload_n 2, 1) := by decide +kernel
theorem dd_X11_proudest_5 : decode cX11_proudest 5 = .ok (.aload_n 0, 1) := by decide +kernel
theorem dd_X11_proudest_6 : decode cX11_proudest 6 = .ok (.getfield 34, 3) := by decide +kernel
theorem dd_X11_proudest_9 : decode cX11_proudest 9 = .ok (.invokevirtual 239, 3) := by decide +kernel
theorem dd_X11_proudest_12 : decode cX11_proudest 12 = .ok (.if_icmp .ge 43, 3) := by decide +kernel
theorem dd_X11_proudest_55 : decode cX11_proudest 55 = .ok (.iload_n 1, 1) := by decide +kernel
theorem dd_X11_proudest_56 : decode cX11_proudest 56 = .ok (.ireturn, 1) := by decide +kernel
theorem dd_X11_repay_0 : decode cX11_repay 0 = .ok (.aload_n 0, 1) := by decide +kernel
theorem dd_X11_repay_1 : decode cX11_repay 1 = .ok (.iconst 3, 1) := by decide +kernel
theorem dd_X11_repay_2 : decode cX11_repay 2 = .ok (.iload_n 1, 1) := by decide +kernel
theorem dd_X11_repay_3 : decode cX11_repay 3 = .ok (.iload_n 2, 1) := by decide +kernel
theorem dd_X11_repay_4 : decode cX11_repay 4 = .ok (.iload_n 3, 1) := by decide +kernel
theorem dd_X11_repay_5 : decode cX11_repay 5 = .ok (.invokevirtual 212, 3) := by decide +kernel
theorem dd_X11_repay_8 : decode cX11_repay 8 = .ok (.ireturn, 1) := by decide +kernel
theorem dd_X11_restore_0 : decode cX11_restore 0 = .ok (.iload_n 1, 1) := by decide +kernel
theorem dd_X11_restore_1 : decode cX11_restore 1 = .ok (.ifCond .lt 17, 3) := by decide +kernel
theorem dd_X11_restore_4 : decode cX11_restore 4 = .ok (.iload_n 1, 1) := by decide +kernel
theorem dd_X11_restore_5 : decode cX11_restore 5 = .ok (.iconst 2, 1) := by decide +kernel
theorem dd_X11_restore_6 : decode cX11_restore 6 = .ok (.if_icmp .ge 12, 3) := by decide +kernel
theorem dd_X11_restore_9 : decode cX11_restore 9 = .ok (.aload_n 0, 1) := by decide +kernel
theorem dd_X11_restore_10 : decode cX11_restore 10 = .ok (.getfield 47, 3) := by decide +kernel
theorem dd_X11_restore_13 : decode cX11_restore 13 = .ok (.iload_n 1, 1) := by decide +kernel
theorem dd_X11_restore_14 : decode cX11_restore 14 = .ok (.baload, 1) := by decide +kernel
theorem dd_X11_restore_15 : decode cX11_restore 15 = .ok (.ifCond .ne 5, 3) := by decide +kernel
theorem dd_X11_restore_18 : decode cX11_restore 18 = .ok (.iconst 0, 1) := by decide +kernel
theorem dd_X11_restore_19 : decode cX11_restore 19 = .ok (.ireturn, 1) := by decide +kernel
theorem dd_X11_ring_0 : decode cX11_ring 0 = .ok (.aload_n 0, 1) := by decide +kernel
theorem dd_X11_ring_1 : decode cX11_ring 1 = .ok (.getfield 26, 3) := by decide +kernel
theorem dd_X11_ring_4 : decode cX11_ring 4 = .ok (.getfield 236, 3) := by decide +kernel
theorem dd_X11_ring_7 : decode cX11_ring 7 = .ok (.aload_n 0, 1) := by decide +kernel
theorem dd_X11_ring_8 : decode cX11_ring 8 = .ok (.getfield 34, 3) := by decide +kernel
theorem dd_X11_ring_11 : decode cX11_ring 11 = .ok (.getfield 145, 3) := by decide +kernel
theorem dd_X11_ring_14 : decode cX11_ring 14 = .ok (.aload_n 0, 1) := by decide +kernel
theorem dd_X11_ring_15 : decode cX11_ring 15 = .ok (.getfield 34, 3) := by decide +kernel
theorem dd_X11_ring_18 : decode cX11_ring 18 = .ok (.invokevirtual 239, 3) := by decide +kernel
theorem dd_X11_ring_21 : decode cX11_ring 21 = .ok (.invokevirtual 242, 3) := by decide +kernel
theorem dd_X11_ring_24 : decode cX11_ring 24 = .ok (.ifCond .ne 5, 3) := by decide +kernel
theorem dd_X11_ring_27 : decode cX11_ring 27 = .ok (.iconst (-1), 1) := by decide +kernel
theorem dd_X11_ring_28 : decode cX11_ring 28 = .ok (.ireturn, 1) := by decide +kernel
theorem dd_X11_ringAt_0 : decode cX11_ringAt 0 = .ok (.iload_n 1, 1) := by decide +kernel
theorem dd_X11_ringAt_1 : decode cX11_ringAt 1 = .ok (.ifCond .lt 26, 3) := by decide +kernel
theorem dd_X11_ringAt_4 : decode cX11_ringAt 4 = .ok (.iload_n 1, 1) := by decide +kernel
theorem dd_X11_ringAt_5 : decode cX11_ringAt 5 = .ok (.aload_n 0, 1) := by decide +kernel
theorem dd_X11_ringAt_6 : decode cX11_ringAt 6 = .ok (.getfield 68, 3) := by decide +kernel
theorem dd_X11_ringAt_9 : decode cX11_ringAt 9 = .ok (.getfield 249, 3) := by decide +kernel
theorem dd_X11_ringAt_12 : decode cX11_ringAt 12 = .ok (.if_icmp .ge 15, 3) := by decide +kernel
theorem dd_X11_ringAt_27 : decode cX11_ringAt 27 = .ok (.iconst (-1), 1) := by decide +kernel
theorem dd_X11_ringAt_28 : decode cX11_ringAt 28 = .ok (.ireturn, 1) := by decide +kernel
theorem dd_X11_said_0 : decode cX11_said 0 = .ok (.aload_n 0, 1) := by decide +kernel
theorem dd_X11_said_1 : decode cX11_said 1 = .ok (.getfield 34, 3) := by decide +kernel
theorem dd_X11_said_4 : decode cX11_said 4 = .ok (.getfield 343, 3) := by decide +kernel
theorem dd_X11_said_7 : decode cX11_said 7 = .ok (.getfield 358, 3) := by decide +kernel
theorem dd_X11_said_10 : decode cX11_said 10 = .ok (.ifCond .ne 5, 3) := by decide +kernel
theorem dd_X11_said_13 : decode cX11_said 13 = .ok (.iconst (-1), 1) := by decide +kernel
theorem dd_X11_said_14 : decode cX11_said 14 = .ok (.ireturn, 1) := by decide +kernel
theorem dd_X11_sentence_0 : decode cX11_sentence 0 = .ok (.aload_n 0, 1) := by decide +kernel
theorem dd_X11_sentence_1 : decode cX11_sentence 1 = .ok (.sipush 200, 3) := by decide +kernel
theorem dd_X11_sentence_4 : decode cX11_sentence 4 = .ok (.invokevirtual 111, 3) := by decide +kernel
theorem dd_X11_sentence_7 : decode cX11_sentence 7 = .ok (.aload_n 0, 1) := by decide +kernel
theorem dd_X11_sentence_8 : decode cX11_sentence 8 = .ok (.getfield 40, 3) := by decide +kernel
theorem dd_X11_sentence_11 : decode cX11_sentence 11 = .ok (.getfield 343, 3) := by decide +kernel
theorem dd_X11_sentence_14 : decode cX11_sentence 14 = .ok (.aload_n 0, 1) := by decide +kernel
theorem dd_X11_sentence_15 : decode cX11_sentence 15 = .ok (.getfield 12, 3) := by decide +kernel
theorem dd_X11_sentence_18 : decode cX11_sentence 18 = .ok (.aload_n 0, 1) := by decide +kernel
theorem dd_X11_sentence_19 : decode cX11_sentence 19 = .ok (.getfield 34, 3) := by decide +kernel
theorem dd_X11_sentence_22 : decode cX11_sentence 22 = .ok (.invokevirtual 347, 3) := by decide +kernel
theorem dd_X11_sentence_25 : decode cX11_sentence 25 = .ok (.istore_n 1, 1) := by decide +kernel
theorem dd_X11_sentence_26 : decode cX11_sentence 26 = .ok (.aload_n 0, 1) := by decide +kernel
theorem dd_X11_sentence_27 : decode cX11_sentence 27 = .ok (.aload_n 0, 1) := by decide +kernel
theorem dd_X11_sentence_28 : decode cX11_sentence 28 = .ok (.getfield 12, 3) := by decide +kernel
theorem dd_X11_sentence_31 : decode cX11_sentence 31 = .ok (.getfield 118, 3) := by decide +kernel
theorem dd_X11_sentence_34 : decode cX11_sentence 34 = .ok (.putfield 121, 3) := by decide +kernel
theorem dd_X11_sentence_37 : decode cX11_sentence 37 = .ok (.iload_n 1, 1) := by decide +kernel
theorem dd_X11_sentence_38 : decode cX11_sentence 38 = .ok (.ifCond .ne 13, 3) := by decide +kernel
theorem dd_X11_sentence_41 : decode cX11_sentence 41 = .ok (.iconst (-1), 1) := by decide +kernel
theorem dd_X11_sentence_42 : decode cX11_sentence 42 = .ok (.aload_n 0, 1) := by decide +kernel
theorem dd_X11_sentence_43 : decode cX11_sentence 43 = .ok (.getfield 12, 3) := by decide +kernel
theorem dd_X11_sentence_46 : decode cX11_sentence 46 = .ok (.getfield 124, 3) := by decide +kernel
theorem dd_X11_sentence_49 : decode cX11_sentence 49 = .ok (.isub, 1) := by decide +kernel
theorem dd_X11_sentence_50 : decode cX11_sentence 50 = .ok (.ireturn, 1) := by decide +kernel
theorem dd_X11_share_0 : decode cX11_share 0 = .ok (.iload_n 1, 1) := by decide +kernel
theorem dd_X11_share_1 : decode cX11_share 1 = .ok (.ifCond .lt 42, 3) := by decide +kernel
theorem dd_X11_share_4 : decode cX11_share 4 = .ok (.iload_n 1, 1) := by decide +kernel
theorem dd_X11_share_5 : decode cX11_share 5 = .ok (.sipush 999, 3) := by decide +kernel
theorem dd_X11_share_8 : decode cX11_share 8 = .ok (.if_icmp .gt 35, 3) := by decide +kernel
theorem dd_X11_share_11 : decode cX11_share 11 = .ok (.aload_n 0, 1) := by decide +kernel
theorem dd_X11_share_12 : decode cX11_share 12 = .ok (.getfield 34, 3) := by decide +kernel
theorem dd_X11_share_15 : decode cX11_share 15 = .ok (.iconst 0, 1) := by decide +kernel
theorem dd_X11_share_16 : decode cX11_share 16 = .ok (.iload_n 3, 1) := by decide +kernel
theorem dd_X11_share_17 : decode cX11_share 17 = .ok (.invokevirtual 138, 3) := by decide +kernel
theorem dd_X11_share_20 : decode cX11_share 20 = .ok (.ifCond .eq 23, 3) := by decide +kernel
theorem dd_X11_share_43 : decode cX11_share 43 = .ok (.iconst (-1), 1) := by decide +kernel
theorem dd_X11_share_44 : decode cX11_share 44 = .ok (.ireturn, 1) := by decide +kernel
theorem dd_X11_startTokens_0 : decode cX11_startTokens 0 = .ok (.aload_n 0, 1) := by decide +kernel
theorem dd_X11_startTokens_1 : decode cX11_startTokens 1 = .ok (.getfield 103, 3) := by decide +kernel
theorem dd_X11_startTokens_4 : decode cX11_startTokens 4 = .ok (.istore_n 2, 1) := by decide +kernel
theorem dd_X11_startTokens_5 : decode cX11_startTokens 5 = .ok (.aload_n 0, 1) := by decide +kernel
theorem dd_X11_startTokens_6 : decode cX11_startTokens 6 = .ok (.iconst 0, 1) := by decide +kernel
theorem dd_X11_startTokens_7 : decode cX11_startTokens 7 = .ok (.putfield 103, 3) := by decide +kernel
theorem dd_X11_startTokens_10 : decode cX11_startTokens 10 = .ok (.aload_n 0, 1) := by decide +kernel
theorem dd_X11_startTokens_11 : decode cX11_startTokens 11 = .ok (.getfield 12, 3) := by decide +kernel
theorem dd_X11_startTokens_14 : decode cX11_startTokens 14 = .ok (.iload_n 2, 1) := by decide +kernel
theorem dd_X11_startTokens_15 : decode cX11_startTokens 15 = .ok (.iload_n 1, 1) := by decide +kernel
theorem dd_X11_startTokens_16 : decode cX11_startTokens 16 = .ok (.invokevirtual 134, 3) := by decide +kernel
theorem dd_X11_startTokens_19 : decode cX11_startTokens 19 = .ok (.return_, 1) := by decide +kernel
theorem dd_X11_strike_0 : decode cX11_strike 0 = .ok (.aload_n 0, 1) := by decide +kernel
theorem dd_X11_strike_1 : decode cX11_strike 1 = .ok (.getfield 26, 3) := by decide +kernel
theorem dd_X11_strike_4 : decode cX11_strike 4 = .ok (.aload_n 0, 1) := by decide +kernel
theorem dd_X11_strike_5 : decode cX11_strike 5 = .ok (.getfield 34, 3) := by decide +kernel
theorem dd_X11_strike_8 : decode cX11_strike 8 = .ok (.getfield 145, 3) := by decide +kernel
theorem dd_X11_strike_11 : decode cX11_strike 11 = .ok (.iconst 4, 1) := by decide +kernel
theorem dd_X11_strike_12 : decode cX11_strike 12 = .ok (.iconst 0, 1) := by decide +kernel
theorem dd_X11_strike_13 : decode cX11_strike 13 = .ok (.iconst 0, 1) := by decide +kernel
theorem dd_X11_strike_14 : decode cX11_strike 14 = .ok (.iconst 0, 1) := by decide +kernel
theorem dd_X11_strike_15 : decode cX11_strike 15 = .ok (.invokevirtual 201, 3) := by decide +kernel
theorem dd_X11_strike_18 : decode cX11_strike 18 = .ok (.ifCond .ne 14, 3) := by decide +kernel
theorem dd_X11_strike_32 : decode cX11_strike 32 = .ok (.iconst (-1), 1) := by decide +kernel
theorem dd_X11_strike_33 : decode cX11_strike 33 = .ok (.ireturn, 1) := by decide +kernel
theorem dd_X11_sum_0 : decode cX11_sum 0 = .ok (.iconst 0, 1) := by decide +kernel
theorem dd_X11_sum_1 : decode cX11_sum 1 = .ok (.istore 4, 2) := by decide +kernel
theorem dd_X11_sum_3 : decode cX11_sum 3 = .ok (.iconst 0, 1) := by decide +kernel
theorem dd_X11_sum_4 : decode cX11_sum 4 = .ok (.istore 5, 2) := by decide +kernel
theorem dd_X11_sum_6 : decode cX11_sum 6 = .ok (.iload_n 1, 1) := by decide +kernel
theorem dd_X11_sum_7 : decode cX11_sum 7 = .ok (.istore 6, 2) := by decide +kernel
theorem dd_X11_sum_9 : decode cX11_sum 9 = .ok (.iload 5, 2) := by decide +kernel
theorem dd_X11_sum_11 : decode cX11_sum 11 = .ok (.iload_n 3, 1) := by decide +kernel
theorem dd_X11_sum_12 : decode cX11_sum 12 = .ok (.if_icmp .ge 36, 3) := by decide +kernel
theorem dd_X11_sum_15 : decode cX11_sum 15 = .ok (.iload 6, 2) := by decide +kernel
theorem dd_X11_sum_17 : decode cX11_sum 17 = .ok (.ifCond .lt 31, 3) := by decide +kernel
theorem dd_X11_sum_20 : decode cX11_sum 20 = .ok (.iload 6, 2) := by decide +kernel
theorem dd_X11_sum_22 : decode cX11_sum 22 = .ok (.aload_n 0, 1) := by decide +kernel
theorem dd_X11_sum_23 : decode cX11_sum 23 = .ok (.arraylength, 1) := by decide +kernel
theorem dd_X11_sum_24 : decode cX11_sum 24 = .ok (.if_icmp .ge 24, 3) := by decide +kernel
theorem dd_X11_sum_27 : decode cX11_sum 27 = .ok (.iload 4, 2) := by decide +kernel
theorem dd_X11_sum_29 : decode cX11_sum 29 = .ok (.aload_n 0, 1) := by decide +kernel
theorem dd_X11_sum_30 : decode cX11_sum 30 = .ok (.iload 6, 2) := by decide +kernel
theorem dd_X11_sum_32 : decode cX11_sum 32 = .ok (.iaload, 1) := by decide +kernel
theorem dd_X11_sum_33 : decode cX11_sum 33 = .ok (.iadd, 1) := by decide +kernel
theorem dd_X11_sum_34 : decode cX11_sum 34 = .ok (.istore 4, 2) := by decide +kernel
theorem dd_X11_sum_36 : decode cX11_sum 36 = .ok (.iinc 5 1, 3) := by decide +kernel
end
section
theorem dd_X11_sum_39 : decode cX11_sum 39 = .ok (.iload 6, 2) := by decide +kernel
theorem dd_X11_sum_41 : decode cX11_sum 41 = .ok (.iload_n 2, 1) := by decide +kernel
theorem dd_X11_sum_42 : decode cX11_sum 42 = .ok (.iadd, 1) := by decide +kernel
theorem dd_X11_sum_43 : decode cX11_sum 43 = .ok (.istore 6, 2) := by decide +kernel
theorem dd_X11_sum_45 : decode cX11_sum 45 = .ok (.goto (-36), 3) := by decide +kernel
theorem dd_X11_sum_48 : decode cX11_sum 48 = .ok (.iload 4, 2) := by decide +kernel
theorem dd_X11_sum_50 : decode cX11_sum 50 = .ok (.ireturn, 1) := by decide +kernel
theorem dd_X11_tax_0 : decode cX11_tax 0 = .ok (.iload_n 1, 1) := by decide +kernel
theorem dd_X11_tax_1 : decode cX11_tax 1 = .ok (.ifCond .lt 10, 3) := by decide +kernel
theorem dd_X11_tax_4 : decode cX11_tax 4 = .ok (.iload_n 1, 1) := by decide +kernel
theorem dd_X11_tax_5 : decode cX11_tax 5 = .ok (.sipush 200, 3) := by decide +kernel
theorem dd_X11_tax_8 : decode cX11_tax 8 = .ok (.if_icmp .le 7, 3) := by decide +kernel
theorem dd_X11_tax_11 : decode cX11_tax 11 = .ok (.iconst (-1), 1) := by decide +kernel
theorem dd_X11_tax_12 : decode cX11_tax 12 = .ok (.goto 15, 3) := by decide +kernel
theorem dd_X11_tax_15 : decode cX11_tax 15 = .ok (.aload_n 0, 1) := by decide +kernel
theorem dd_X11_tax_16 : decode cX11_tax 16 = .ok (.getfield 82, 3) := by decide +kernel
theorem dd_X11_tax_19 : decode cX11_tax 19 = .ok (.aload_n 0, 1) := by decide +kernel
theorem dd_X11_tax_20 : decode cX11_tax 20 = .ok (.getfield 34, 3) := by decide +kernel
theorem dd_X11_tax_23 : decode cX11_tax 23 = .ok (.iload_n 1, 1) := by decide +kernel
theorem dd_X11_tax_24 : decode cX11_tax 24 = .ok (.invokevirtual 280, 3) := by decide +kernel
theorem dd_X11_tax_27 : decode cX11_tax 27 = .ok (.ireturn, 1) := by decide +kernel
theorem dd_X11_taxOf_0 : decode cX11_taxOf 0 = .ok (.iload_n 1, 1) := by decide +kernel
theorem dd_X11_taxOf_1 : decode cX11_taxOf 1 = .ok (.ifCond .lt 26, 3) := by decide +kernel
theorem dd_X11_taxOf_4 : decode cX11_taxOf 4 = .ok (.iload_n 1, 1) := by decide +kernel
theorem dd_X11_taxOf_5 : decode cX11_taxOf 5 = .ok (.aload_n 0, 1) := by decide +kernel
theorem dd_X11_taxOf_6 : decode cX11_taxOf 6 = .ok (.getfield 82, 3) := by decide +kernel
theorem dd_X11_taxOf_9 : decode cX11_taxOf 9 = .ok (.getfield 283, 3) := by decide +kernel
theorem dd_X11_taxOf_12 : decode cX11_taxOf 12 = .ok (.if_icmp .ge 15, 3) := by decide +kernel
theorem dd_X11_taxOf_27 : decode cX11_taxOf 27 = .ok (.iconst (-1), 1) := by decide +kernel
theorem dd_X11_taxOf_28 : decode cX11_taxOf 28 = .ok (.ireturn, 1) := by decide +kernel
theorem dd_X11_tells_0 : decode cX11_tells 0 = .ok (.aload_n 0, 1) := by decide +kernel
theorem dd_X11_tells_1 : decode cX11_tells 1 = .ok (.getfield 89, 3) := by decide +kernel
theorem dd_X11_tells_4 : decode cX11_tells 4 = .ok (.getfield 274, 3) := by decide +kernel
theorem dd_X11_tells_7 : decode cX11_tells 7 = .ok (.ireturn, 1) := by decide +kernel
theorem dd_X11_times_0 : decode cX11_times 0 = .ok (.aload_n 0, 1) := by decide +kernel
theorem dd_X11_times_1 : decode cX11_times 1 = .ok (.getfield 34, 3) := by decide +kernel
theorem dd_X11_times_4 : decode cX11_times 4 = .ok (.iconst 0, 1) := by decide +kernel
theorem dd_X11_times_5 : decode cX11_times 5 = .ok (.iload_n 1, 1) := by decide +kernel
theorem dd_X11_times_6 : decode cX11_times 6 = .ok (.invokevirtual 138, 3) := by decide +kernel
theorem dd_X11_times_9 : decode cX11_times 9 = .ok (.ifCond .eq 35, 3) := by decide +kernel
theorem dd_X11_times_44 : decode cX11_times 44 = .ok (.iconst (-1), 1) := by decide +kernel
theorem dd_X11_times_45 : decode cX11_times 45 = .ok (.ireturn, 1) := by decide +kernel
theorem dd_X11_told_0 : decode cX11_told 0 = .ok (.iload_n 1, 1) := by decide +kernel
theorem dd_X11_told_1 : decode cX11_told 1 = .ok (.ifCond .lt 26, 3) := by decide +kernel
theorem dd_X11_told_4 : decode cX11_told 4 = .ok (.iload_n 1, 1) := by decide +kernel
theorem dd_X11_told_5 : decode cX11_told 5 = .ok (.aload_n 0, 1) := by decide +kernel
theorem dd_X11_told_6 : decode cX11_told 6 = .ok (.getfield 96, 3) := by decide +kernel
theorem dd_X11_told_9 : decode cX11_told 9 = .ok (.getfield 339, 3) := by decide +kernel
theorem dd_X11_told_12 : decode cX11_told 12 = .ok (.if_icmp .ge 15, 3) := by decide +kernel
theorem dd_X11_told_27 : decode cX11_told 27 = .ok (.iconst (-1), 1) := by decide +kernel
theorem dd_X11_told_28 : decode cX11_told 28 = .ok (.ireturn, 1) := by decide +kernel
theorem dd_X11_triedBetween_0 : decode cX11_triedBetween 0 = .ok (.aload_n 0, 1) := by decide +kernel
theorem dd_X11_triedBetween_1 : decode cX11_triedBetween 1 = .ok (.getfield 34, 3) := by decide +kernel
theorem dd_X11_triedBetween_4 : decode cX11_triedBetween 4 = .ok (.iconst 0, 1) := by decide +kernel
theorem dd_X11_triedBetween_5 : decode cX11_triedBetween 5 = .ok (.iload_n 2, 1) := by decide +kernel
theorem dd_X11_triedBetween_6 : decode cX11_triedBetween 6 = .ok (.invokevirtual 138, 3) := by decide +kernel
theorem dd_X11_triedBetween_9 : decode cX11_triedBetween 9 = .ok (.ifCond .eq 28, 3) := by decide +kernel
theorem dd_X11_triedBetween_37 : decode cX11_triedBetween 37 = .ok (.iconst (-1), 1) := by decide +kernel
theorem dd_X11_triedBetween_38 : decode cX11_triedBetween 38 = .ok (.ireturn, 1) := by decide +kernel
theorem dd_X11_undo_0 : decode cX11_undo 0 = .ok (.aload_n 0, 1) := by decide +kernel
theorem dd_X11_undo_1 : decode cX11_undo 1 = .ok (.getfield 61, 3) := by decide +kernel
theorem dd_X11_undo_4 : decode cX11_undo 4 = .ok (.aload_n 0, 1) := by decide +kernel
theorem dd_X11_undo_5 : decode cX11_undo 5 = .ok (.getfield 34, 3) := by decide +kernel
theorem dd_X11_undo_8 : decode cX11_undo 8 = .ok (.getfield 145, 3) := by decide +kernel
theorem dd_X11_undo_11 : decode cX11_undo 11 = .ok (.invokevirtual 232, 3) := by decide +kernel
theorem dd_X11_undo_14 : decode cX11_undo 14 = .ok (.ireturn, 1) := by decide +kernel
theorem dd_X11_weeks_0 : decode cX11_weeks 0 = .ok (.iload_n 1, 1) := by decide +kernel
theorem dd_X11_weeks_1 : decode cX11_weeks 1 = .ok (.iconst 1, 1) := by decide +kernel
theorem dd_X11_weeks_2 : decode cX11_weeks 2 = .ok (.if_icmp .lt 9, 3) := by decide +kernel
theorem dd_X11_weeks_5 : decode cX11_weeks 5 = .ok (.iload_n 1, 1) := by decide +kernel
theorem dd_X11_weeks_6 : decode cX11_weeks 6 = .ok (.bipush 60, 2) := by decide +kernel
theorem dd_X11_weeks_8 : decode cX11_weeks 8 = .ok (.if_icmp .le 5, 3) := by decide +kernel
theorem dd_X11_weeks_11 : decode cX11_weeks 11 = .ok (.iconst (-1), 1) := by decide +kernel
theorem dd_X11_weeks_12 : decode cX11_weeks 12 = .ok (.ireturn, 1) := by decide +kernel
theorem dd_X11_weeks_13 : decode cX11_weeks 13 = .ok (.aload_n 0, 1) := by decide +kernel
theorem dd_X11_weeks_14 : decode cX11_weeks 14 = .ok (.getfield 34, 3) := by decide +kernel
theorem dd_X11_weeks_17 : decode cX11_weeks 17 = .ok (.getfield 145, 3) := by decide +kernel
theorem dd_X11_weeks_20 : decode cX11_weeks 20 = .ok (.iload_n 1, 1) := by decide +kernel
theorem dd_X11_weeks_21 : decode cX11_weeks 21 = .ok (.invokestatic 222, 3) := by decide +kernel
theorem dd_X11_weeks_24 : decode cX11_weeks 24 = .ok (.istore_n 2, 1) := by decide +kernel
theorem dd_X11_weeks_25 : decode cX11_weeks 25 = .ok (.iload_n 2, 1) := by decide +kernel
theorem dd_X11_weeks_26 : decode cX11_weeks 26 = .ok (.ifCond .le 12, 3) := by decide +kernel
theorem dd_X11_weeks_29 : decode cX11_weeks 29 = .ok (.aload_n 0, 1) := by decide +kernel
theorem dd_X11_weeks_30 : decode cX11_weeks 30 = .ok (.iconst 5, 1) := by decide +kernel
theorem dd_X11_weeks_31 : decode cX11_weeks 31 = .ok (.iconst 0, 1) := by decide +kernel
theorem dd_X11_weeks_32 : decode cX11_weeks 32 = .ok (.iconst 0, 1) := by decide +kernel
theorem dd_X11_weeks_33 : decode cX11_weeks 33 = .ok (.iload_n 2, 1) := by decide +kernel
theorem dd_X11_weeks_34 : decode cX11_weeks 34 = .ok (.invokevirtual 205, 3) := by decide +kernel
theorem dd_X11_weeks_37 : decode cX11_weeks 37 = .ok (.pop, 1) := by decide +kernel
theorem dd_X11_weeks_38 : decode cX11_weeks 38 = .ok (.iload_n 2, 1) := by decide +kernel
theorem dd_X11_weeks_39 : decode cX11_weeks 39 = .ok (.ireturn, 1) := by decide +kernel
theorem dd_X11_weeksToGo_0 : decode cX11_weeksToGo 0 = .ok (.iload_n 1, 1) := by decide +kernel
theorem dd_X11_weeksToGo_1 : decode cX11_weeksToGo 1 = .ok (.sipush 200, 3) := by decide +kernel
theorem dd_X11_weeksToGo_4 : decode cX11_weeksToGo 4 = .ok (.aload_n 0, 1) := by decide +kernel
theorem dd_X11_weeksToGo_5 : decode cX11_weeksToGo 5 = .ok (.getfield 195, 3) := by decide +kernel
theorem dd_X11_weeksToGo_8 : decode cX11_weeksToGo 8 = .ok (.isub, 1) := by decide +kernel
theorem dd_X11_weeksToGo_9 : decode cX11_weeksToGo 9 = .ok (.invokestatic 226, 3) := by decide +kernel
theorem dd_X11_weeksToGo_12 : decode cX11_weeksToGo 12 = .ok (.ireturn, 1) := by decide +kernel
theorem dd_X11_worth_0 : decode cX11_worth 0 = .ok (.aload_n 0, 1) := by decide +kernel
theorem dd_X11_worth_1 : decode cX11_worth 1 = .ok (.getfield 34, 3) := by decide +kernel
theorem dd_X11_worth_4 : decode cX11_worth 4 = .ok (.iconst 0, 1) := by decide +kernel
theorem dd_X11_worth_5 : decode cX11_worth 5 = .ok (.iload_n 1, 1) := by decide +kernel
theorem dd_X11_worth_6 : decode cX11_worth 6 = .ok (.invokevirtual 138, 3) := by decide +kernel
theorem dd_X11_worth_9 : decode cX11_worth 9 = .ok (.ifCond .eq 15, 3) := by decide +kernel
theorem dd_X11_worth_24 : decode cX11_worth 24 = .ok (.iconst (-1), 1) := by decide +kernel
theorem dd_X11_worth_25 : decode cX11_worth 25 = .ok (.ireturn, 1) := by decide +kernel
theorem dd_X12_bad_0 : decode cX12_bad 0 = .ok (.aload_n 0, 1) := by decide +kernel
theorem dd_X12_bad_1 : decode cX12_bad 1 = .ok (.aload_n 0, 1) := by decide +kernel
theorem dd_X12_bad_2 : decode cX12_bad 2 = .ok (.getfield 30, 3) := by decide +kernel
theorem dd_X12_bad_5 : decode cX12_bad 5 = .ok (.iconst 1, 1) := by decide +kernel
theorem dd_X12_bad_6 : decode cX12_bad 6 = .ok (.if_icmp .ne 7, 3) := by decide +kernel
theorem dd_X12_bad_13 : decode cX12_bad 13 = .ok (.iload_n 1, 1) := by decide +kernel
theorem dd_X12_bad_14 : decode cX12_bad 14 = .ok (.putfield 66, 3) := by decide +kernel
theorem dd_X12_bad_17 : decode cX12_bad 17 = .ok (.aload_n 0, 1) := by decide +kernel
theorem dd_X12_bad_18 : decode cX12_bad 18 = .ok (.aload_n 0, 1) := by decide +kernel
theorem dd_X12_bad_19 : decode cX12_bad 19 = .ok (.getfield 24, 3) := by decide +kernel
theorem dd_X12_bad_22 : decode cX12_bad 22 = .ok (.putfield 69, 3) := by decide +kernel
theorem dd_X12_bad_25 : decode cX12_bad 25 = .ok (.iconst 0, 1) := by decide +kernel
theorem dd_X12_bad_26 : decode cX12_bad 26 = .ok (.ireturn, 1) := by decide +kernel
theorem dd_X12_begin_0 : decode cX12_begin 0 = .ok (.aload_n 0, 1) := by decide +kernel
theorem dd_X12_begin_1 : decode cX12_begin 1 = .ok (.iconst 0, 1) := by decide +kernel
theorem dd_X12_begin_2 : decode cX12_begin 2 = .ok (.putfield 1, 3) := by decide +kernel
theorem dd_X12_begin_5 : decode cX12_begin 5 = .ok (.aload_n 0, 1) := by decide +kernel
theorem dd_X12_begin_6 : decode cX12_begin 6 = .ok (.aload_n 0, 1) := by decide +kernel
theorem dd_X12_begin_7 : decode cX12_begin 7 = .ok (.invokevirtual 89, 3) := by decide +kernel
theorem dd_X12_begin_10 : decode cX12_begin 10 = .ok (.putfield 18, 3) := by decide +kernel
theorem dd_X12_begin_13 : decode cX12_begin 13 = .ok (.aload_n 0, 1) := by decide +kernel
theorem dd_X12_begin_14 : decode cX12_begin 14 = .ok (.iload_n 1, 1) := by decide +kernel
theorem dd_X12_begin_15 : decode cX12_begin 15 = .ok (.putfield 27, 3) := by decide +kernel
theorem dd_X12_begin_18 : decode cX12_begin 18 = .ok (.aload_n 0, 1) := by decide +kernel
theorem dd_X12_begin_19 : decode cX12_begin 19 = .ok (.iconst 0, 1) := by decide +kernel
theorem dd_X12_begin_20 : decode cX12_begin 20 = .ok (.putfield 66, 3) := by decide +kernel
theorem dd_X12_begin_23 : decode cX12_begin 23 = .ok (.aload_n 0, 1) := by decide +kernel
theorem dd_X12_begin_24 : decode cX12_begin 24 = .ok (.iconst 0, 1) := by decide +kernel
theorem dd_X12_begin_25 : decode cX12_begin 25 = .ok (.putfield 21, 3) := by decide +kernel
theorem dd_X12_begin_28 : decode cX12_begin 28 = .ok (.aload_n 0, 1) := by decide +kernel
theorem dd_X12_begin_29 : decode cX12_begin 29 = .ok (.invokevirtual 82, 3) := by decide +kernel
theorem dd_X12_begin_32 : decode cX12_begin 32 = .ok (.return_, 1) := by decide +kernel
theorem dd_X12_book_0 : decode cX12_book 0 = .ok (.aload_n 0, 1) := by decide +kernel
theorem dd_X12_book_1 : decode cX12_book 1 = .ok (.iconst 0, 1) := by decide +kernel
theorem dd_X12_book_2 : decode cX12_book 2 = .ok (.putfield 1, 3) := by decide +kernel
theorem dd_X12_book_5 : decode cX12_book 5 = .ok (.iload_n 1, 1) := by decide +kernel
theorem dd_X12_book_6 : decode cX12_book 6 = .ok (.iconst 0, 1) := by decide +kernel
theorem dd_X12_book_7 : decode cX12_book 7 = .ok (.iconst 1, 1) := by decide +kernel
theorem dd_X12_book_8 : decode cX12_book 8 = .ok (.invokestatic 75, 3) := by decide +kernel
theorem dd_X12_book_11 : decode cX12_book 11 = .ok (.ifCond .ne 7, 3) := by decide +kernel
theorem dd_X12_book_14 : decode cX12_book 14 = .ok (.sipush (-1000), 3) := by decide +kernel
theorem dd_X12_book_17 : decode cX12_book 17 = .ok (.ireturn, 1) := by decide +kernel
theorem dd_X12_book_18 : decode cX12_book 18 = .ok (.aload_n 0, 1) := by decide +kernel
theorem dd_X12_book_19 : decode cX12_book 19 = .ok (.sipush 400, 3) := by decide +kernel
theorem dd_X12_book_22 : decode cX12_book 22 = .ok (.invokevirtual 222, 3) := by decide +kernel
theorem dd_X12_book_25 : decode cX12_book 25 = .ok (.aload_n 0, 1) := by decide +kernel
theorem dd_X12_book_26 : decode cX12_book 26 = .ok (.iconst 0, 1) := by decide +kernel
theorem dd_X12_book_27 : decode cX12_book 27 = .ok (.putfield 392, 3) := by decide +kernel
theorem dd_X12_book_30 : decode cX12_book 30 = .ok (.aload_n 0, 1) := by decide +kernel
theorem dd_X12_book_31 : decode cX12_book 31 = .ok (.getfield 30, 3) := by decide +kernel
theorem dd_X12_book_34 : decode cX12_book 34 = .ok (.ifCond .eq 31, 3) := by decide +kernel
theorem dd_X12_book_65 : decode cX12_book 65 = .ok (.aload_n 0, 1) := by decide +kernel
theorem dd_X12_book_66 : decode cX12_book 66 = .ok (.invokevirtual 380, 3) := by decide +kernel
theorem dd_X12_book_69 : decode cX12_book 69 = .ok (.iconst 0, 1) := by decide +kernel
theorem dd_X12_book_70 : decode cX12_book 70 = .ok (.istore_n 2, 1) := by decide +kernel
theorem dd_X12_book_71 : decode cX12_book 71 = .ok (.iconst 0, 1) := by decide +kernel
theorem dd_X12_book_72 : decode cX12_book 72 = .ok (.istore_n 3, 1) := by decide +kernel
theorem dd_X12_book_73 : decode cX12_book 73 = .ok (.iload_n 2, 1) := by decide +kernel
theorem dd_X12_book_74 : decode cX12_book 74 = .ok (.aload_n 0, 1) := by decide +kernel
theorem dd_X12_book_75 : decode cX12_book 75 = .ok (.getfield 392, 3) := by decide +kernel
theorem dd_X12_book_78 : decode cX12_book 78 = .ok (.if_icmp .ge 25, 3) := by decide +kernel
theorem dd_X12_book_103 : decode cX12_book 103 = .ok (.aload_n 0, 1) := by decide +kernel
theorem dd_X12_book_104 : decode cX12_book 104 = .ok (.getfield 166, 3) := by decide +kernel
theorem dd_X12_book_107 : decode cX12_book 107 = .ok (.iconst 0, 1) := by decide +kernel
theorem dd_X12_book_108 : decode cX12_book 108 = .ok (.iload_n 3, 1) := by decide +kernel
theorem dd_X12_book_109 : decode cX12_book 109 = .ok (.iastore, 1) := by decide +kernel
theorem dd_X12_book_110 : decode cX12_book 110 = .ok (.aload_n 0, 1) := by decide +kernel
theorem dd_X12_book_111 : decode cX12_book 111 = .ok (.getfield 166, 3) := by decide +kernel
theorem dd_X12_book_114 : decode cX12_book 114 = .ok (.iconst 1, 1) := by decide +kernel
theorem dd_X12_book_115 : decode cX12_book 115 = .ok (.iload_n 2, 1) := by decide +kernel
theorem dd_X12_book_116 : decode cX12_book 116 = .ok (.iastore, 1) := by decide +kernel
theorem dd_X12_book_117 : decode cX12_book 117 = .ok (.aload_n 0, 1) := by decide +kernel
theorem dd_X12_book_118 : decode cX12_book 118 = .ok (.getfield 166, 3) := by decide +kernel
theorem dd_X12_book_121 : decode cX12_book 121 = .ok (.iconst 2, 1) := by decide +kernel
theorem dd_X12_book_122 : decode cX12_book 122 = .ok (.aload_n 0, 1) := by decide +kernel
theorem dd_X12_book_123 : decode cX12_book 123 = .ok (.getfield 98, 3) := by decide +kernel
theorem dd_X12_book_126 : decode cX12_book 126 = .ok (.bipush 101, 2) := by decide +kernel
theorem dd_X12_book_128 : decode cX12_book 128 = .ok (.iaload, 1) := by decide +kernel
theorem dd_X12_book_129 : decode cX12_book 129 = .ok (.iastore, 1) := by decide +kernel
theorem dd_X12_book_130 : decode cX12_book 130 = .ok (.aload_n 0, 1) := by decide +kernel
theorem dd_X12_book_131 : decode cX12_book 131 = .ok (.getfield 166, 3) := by decide +kernel
theorem dd_X12_book_134 : decode cX12_book 134 = .ok (.iconst 3, 1) := by decide +kernel
theorem dd_X12_book_135 : decode cX12_book 135 = .ok (.aload_n 0, 1) := by decide +kernel
theorem dd_X12_book_136 : decode cX12_book 136 = .ok (.bipush 108, 2) := by decide +kernel
theorem dd_X12_book_138 : decode cX12_book 138 = .ok (.bipush 6, 2) := by decide +kernel
theorem dd_X12_book_140 : decode cX12_book 140 = .ok (.invokevirtual 266, 3) := by decide +kernel
theorem dd_X12_book_143 : decode cX12_book 143 = .ok (.iastore, 1) := by decide +kernel
theorem dd_X12_book_144 : decode cX12_book 144 = .ok (.aload_n 0, 1) := by decide +kernel
theorem dd_X12_book_145 : decode cX12_book 145 = .ok (.iconst 1, 1) := by decide +kernel
theorem dd_X12_book_146 : decode cX12_book 146 = .ok (.putfield 404, 3) := by decide +kernel
theorem dd_X12_book_149 : decode cX12_book 149 = .ok (.aload_n 0, 1) := by decide +kernel
theorem dd_X12_book_150 : decode cX12_book 150 = .ok (.iload_n 1, 1) := by decide +kernel
theorem dd_X12_book_151 : decode cX12_book 151 = .ok (.iconst 1, 1) := by decide +kernel
theorem dd_X12_book_152 : decode cX12_book 152 = .ok (.if_icmp .ne 11, 3) := by decide +kernel
theorem dd_X12_book_155 : decode cX12_book 155 = .ok (.iload_n 2, 1) := by decide +kernel
theorem dd_X12_book_156 : decode cX12_book 156 = .ok (.ifCond .le 7, 3) := by decide +kernel
theorem dd_X12_book_163 : decode cX12_book 163 = .ok (.iconst 0, 1) := by decide +kernel
theorem dd_X12_book_164 : decode cX12_book 164 = .ok (.invokevirtual 407, 3) := by decide +kernel
theorem dd_X12_book_167 : decode cX12_book 167 = .ok (.iload_n 3, 1) := by decide +kernel
theorem dd_X12_book_168 : decode cX12_book 168 = .ok (.ifCond .ne 7, 3) := by decide +kernel
theorem dd_X12_book_171 : decode cX12_book 171 = .ok (.iconst (-1), 1) := by decide +kernel
theorem dd_X12_book_172 : decode cX12_book 172 = .ok (.goto 4, 3) := by decide +kernel
theorem dd_X12_book_176 : decode cX12_book 176 = .ok (.ireturn, 1) := by decide +kernel
theorem dd_X12_bought_0 : decode cX12_bought 0 = .ok (.aload_n 0, 1) := by decide +kernel
theorem dd_X12_bought_1 : decode cX12_bought 1 = .ok (.iconst 0, 1) := by decide +kernel
theorem dd_X12_bought_2 : decode cX12_bought 2 = .ok (.putfield 1, 3) := by decide +kernel
theorem dd_X12_bought_5 : decode cX12_bought 5 = .ok (.aload_n 0, 1) := by decide +kernel
theorem dd_X12_bought_6 : decode cX12_bought 6 = .ok (.iload_n 1, 1) := by decide +kernel
theorem dd_X12_bought_7 : decode cX12_bought 7 = .ok (.invokevirtual 251, 3) := by decide +kernel
theorem dd_X12_bought_10 : decode cX12_bought 10 = .ok (.ifCond .eq 29, 3) := by decide +kernel
theorem dd_X12_bought_39 : decode cX12_bought 39 = .ok (.iconst (-1), 1) := by decide +kernel
theorem dd_X12_bought_40 : decode cX12_bought 40 = .ok (.ireturn, 1) := by decide +kernel
theorem dd_X12_buy_0 : decode cX12_buy 0 = .ok (.aload_n 0, 1) := by decide +kernel
theorem dd_X12_buy_1 : decode cX12_buy 1 = .ok (.iconst 0, 1) := by decide +kernel
theorem dd_X12_buy_2 : decode cX12_buy 2 = .ok (.putfield 1, 3) := by decide +kernel
theorem dd_X12_buy_5 : decode cX12_buy 5 = .ok (.aload_n 0, 1) := by decide +kernel
theorem dd_X12_buy_6 : decode cX12_buy 6 = .ok (.iload_n 1, 1) := by decide +kernel
theorem dd_X12_buy_7 : decode cX12_buy 7 = .ok (.invokevirtual 251, 3) := by decide +kernel
theorem dd_X12_buy_10 : decode cX12_buy 10 = .ok (.ifCond .eq 22, 3) := by decide +kernel
theorem dd_X12_buy_32 : decode cX12_buy 32 = .ok (.iconst (-1), 1) := by decide +kernel
theorem dd_X12_buy_33 : decode cX12_buy 33 = .ok (.ireturn, 1) := by decide +kernel
theorem dd_X12_byteAt_0 : decode cX12_byteAt 0 = .ok (.aload_n 0, 1) := by decide +kernel
theorem dd_X12_byteAt_1 : decode cX12_byteAt 1 = .ok (.iconst 0, 1) := by decide +kernel
theorem dd_X12_byteAt_2 : decode cX12_byteAt 2 = .ok (.putfield 1, 3) := by decide +kernel
theorem dd_X12_byteAt_5 : decode cX12_byteAt 5 = .ok (.iload_n 1, 1) := by decide +kernel
theorem dd_X12_byteAt_6 : decode cX12_byteAt 6 = .ok (.iconst 0, 1) := by decide +kernel
theorem dd_X12_byteAt_7 : decode cX12_byteAt 7 = .ok (.aload_n 0, 1) := by decide +kernel
theorem dd_X12_byteAt_8 : decode cX12_byteAt 8 = .ok (.getfield 351, 3) := by decide +kernel
theorem dd_X12_byteAt_11 : decode cX12_byteAt 11 = .ok (.iconst 1, 1) := by decide +kernel
theorem dd_X12_byteAt_12 : decode cX12_byteAt 12 = .ok (.isub, 1) := by decide +kernel
theorem dd_X12_byteAt_13 : decode cX12_byteAt 13 = .ok (.invokestatic 75, 3) := by decide +kernel
theorem dd_X12_byteAt_16 : decode cX12_byteAt 16 = .ok (.ifCond .eq 12, 3) := by decide +kernel
theorem dd_X12_byteAt_28 : decode cX12_byteAt 28 = .ok (.iconst (-1), 1) := by decide +kernel
theorem dd_X12_byteAt_29 : decode cX12_byteAt 29 = .ok (.ireturn, 1) := by decide +kernel
theorem dd_X12_come_0 : decode cX12_come 0 = .ok (.bipush 24, 2) := by decide +kernel
theorem dd_X12_come_2 : decode cX12_come 2 = .ok (.istore_n 2, 1) := by decide +kernel
theorem dd_X12_come_3 : decode cX12_come 3 = .ok (.iload_n 2, 1) := by decide +kernel
theorem dd_X12_come_4 : decode cX12_come 4 = .ok (.ifCond .lt 35, 3) := by decide +kernel
theorem dd_X12_come_7 : decode cX12_come 7 = .ok (.aload_n 0, 1) := by decide +kernel
theorem dd_X12_come_8 : decode cX12_come 8 = .ok (.getfield 7, 3) := by decide +kernel
theorem dd_X12_come_11 : decode cX12_come 11 = .ok (.aload_n 0, 1) := by decide +kernel
theorem dd_X12_come_12 : decode cX12_come 12 = .ok (.getfield 11, 3) := by decide +kernel
theorem dd_X12_come_15 : decode cX12_come 15 = .ok (.iload_n 1, 1) := by decide +kernel
theorem dd_X12_come_16 : decode cX12_come 16 = .ok (.iload_n 2, 1) := by decide +kernel
theorem dd_X12_come_17 : decode cX12_come 17 = .ok (.iushr, 1) := by decide +kernel
theorem dd_X12_come_18 : decode cX12_come 18 = .ok (.sipush 255, 3) := by decide +kernel
theorem dd_X12_come_21 : decode cX12_come 21 = .ok (.iand, 1) := by decide +kernel
theorem dd_X12_come_22 : decode cX12_come 22 = .ok (.iastore, 1) := by decide +kernel
theorem dd_X12_come_23 : decode cX12_come 23 = .ok (.aload_n 0, 1) := by decide +kernel
theorem dd_X12_come_24 : decode cX12_come 24 = .ok (.dup, 1) := by decide +kernel
theorem dd_X12_come_25 : decode cX12_come 25 = .ok (.getfield 11, 3) := by decide +kernel
theorem dd_X12_come_28 : decode cX12_come 28 = .ok (.iconst 1, 1) := by decide +kernel
theorem dd_X12_come_29 : decode cX12_come 29 = .ok (.iadd, 1) := by decide +kernel
theorem dd_X12_come_30 : decode cX12_come 30 = .ok (.putfield 11, 3) := by decide +kernel
theorem dd_X12_come_33 : decode cX12_come 33 = .ok (.iinc 2 (-8), 3) := by decide +kernel
theorem dd_X12_come_36 : decode cX12_come 36 = .ok (.goto (-33), 3) := by decide +kernel
theorem dd_X12_come_39 : decode cX12_come 39 = .ok (.return_, 1) := by decide +kernel
theorem dd_X12_cost_0 : decode cX12_cost 0 = .ok (.aload_n 0, 1) := by decide +kernel
theorem dd_X12_cost_1 : decode cX12_cost 1 = .ok (.iconst 0, 1) := by decide +kernel
theorem dd_X12_cost_2 : decode cX12_cost 2 = .ok (.putfield 1, 3) := by decide +kernel
theorem dd_X12_cost_5 : decode cX12_cost 5 = .ok (.aload_n 0, 1) := by decide +kernel
theorem dd_X12_cost_6 : decode cX12_cost 6 = .ok (.iload_n 1, 1) := by decide +kernel
theorem dd_X12_cost_7 : decode cX12_cost 7 = .ok (.invokevirtual 251, 3) := by decide +kernel
theorem dd_X12_cost_10 : decode cX12_cost 10 = .ok (.ifCond .eq 20, 3) := by decide +kernel
theorem dd_X12_cost_30 : decode cX12_cost 30 = .ok (.iconst (-1), 1) := by decide +kernel
theorem dd_X12_cost_31 : decode cX12_cost 31 = .ok (.ireturn, 1) := by decide +kernel
theorem dd_X12_count_0 : decode cX12_count 0 = .ok (.aload_n 0, 1) := by decide +kernel
theorem dd_X12_count_1 : decode cX12_count 1 = .ok (.iconst 0, 1) := by decide +kernel
theorem dd_X12_count_2 : decode cX12_count 2 = .ok (.putfield 1, 3) := by decide +kernel
theorem dd_X12_count_5 : decode cX12_count 5 = .ok (.iload_n 1, 1) := by decide +kernel
theorem dd_X12_count_6 : decode cX12_count 6 = .ok (.tableswitch 78 0 5 #[38, 45, 52, 59, 66, 73], 38) := by decide +kernel
theorem dd_X12_count_44 : decode cX12_count 44 = .ok (.aload_n 0, 1) := by decide +kernel
theorem dd_X12_count_45 : decode cX12_count 45 = .ok (.getfield 98, 3) := by decide +kernel
theorem dd_X12_count_48 : decode cX12_count 48 = .ok (.iconst 0, 1) := by decide +kernel
theorem dd_X12_count_49 : decode cX12_count 49 = .ok (.iaload, 1) := by decide +kernel
theorem dd_X12_count_50 : decode cX12_count 50 = .ok (.ireturn, 1) := by decide +kernel
theorem dd_X12_count_51 : decode cX12_count 51 = .ok (.aload_n 0, 1) := by decide +kernel
theorem dd_X12_count_52 : decode cX12_count 52 = .ok (.getfield 98, 3) := by decide +kernel
theorem dd_X12_count_55 : decode cX12_count 55 = .ok (.iconst 1, 1) := by decide +kernel
theorem dd_X12_count_56 : decode cX12_count 56 = .ok (.iaload, 1) := by decide +kernel
theorem dd_X12_count_57 : decode cX12_count 57 = .ok (.ireturn, 1) := by decide +kernel
theorem dd_X12_count_58 : decode cX12_count 58 = .ok (.aload_n 0, 1) := by decide +kernel
theorem dd_X12_count_59 : decode cX12_count 59 = .ok (.getfield 98, 3) := by decide +kernel
theorem dd_X12_count_62 : decode cX12_count 62 = .ok (.iconst 2, 1) := by decide +kernel
theorem dd_X12_count_63 : decode cX12_count 63 = .ok (.iaload, 1) := by decide +kernel
theorem dd_X12_count_64 : decode cX12_count 64 = .ok (.ireturn, 1) := by decide +kernel
theorem dd_X12_count_65 : decode cX12_count 65 = .ok (.aload_n 0, 1) := by decide +kernel
theorem dd_X12_count_66 : decode cX12_count 66 = .ok (.getfield 98, 3) := by decide +kernel
theorem dd_X12_count_69 : decode cX12_count 69 = .ok (.iconst 3, 1) := by decide +kernel
theorem dd_X12_count_70 : decode cX12_count 70 = .ok (.iaload, 1) := by decide +kernel
theorem dd_X12_count_71 : decode cX12_count 71 = .ok (.ireturn, 1) := by decide +kernel
theorem dd_X12_count_72 : decode cX12_count 72 = .ok (.aload_n 0, 1) := by decide +kernel
theorem dd_X12_count_73 : decode cX12_count 73 = .ok (.getfield 98, 3) := by decide +kernel
theorem dd_X12_count_76 : decode cX12_count 76 = .ok (.iconst 4, 1) := by decide +kernel
theorem dd_X12_count_77 : decode cX12_count 77 = .ok (.iaload, 1) := by decide +kernel
theorem dd_X12_count_78 : decode cX12_count 78 = .ok (.ireturn, 1) := by decide +kernel
theorem dd_X12_count_79 : decode cX12_count 79 = .ok (.aload_n 0, 1) := by decide +kernel
theorem dd_X12_count_80 : decode cX12_count 80 = .ok (.getfield 11, 3) := by decide +kernel
theorem dd_X12_count_83 : decode cX12_count 83 = .ok (.ireturn, 1) := by decide +kernel
theorem dd_X12_count_84 : decode cX12_count 84 = .ok (.iconst (-1), 1) := by decide +kernel
theorem dd_X12_count_85 : decode cX12_count 85 = .ok (.ireturn, 1) := by decide +kernel
theorem dd_X12_drawn_0 : decode cX12_drawn 0 = .ok (.aload_n 0, 1) := by decide +kernel
theorem dd_X12_drawn_1 : decode cX12_drawn 1 = .ok (.iconst 0, 1) := by decide +kernel
theorem dd_X12_drawn_2 : decode cX12_drawn 2 = .ok (.putfield 1, 3) := by decide +kernel
theorem dd_X12_drawn_5 : decode cX12_drawn 5 = .ok (.iload_n 1, 1) := by decide +kernel
theorem dd_X12_drawn_6 : decode cX12_drawn 6 = .ok (.iconst 1, 1) := by decide +kernel
theorem dd_X12_drawn_7 : decode cX12_drawn 7 = .ok (.bipush 60, 2) := by decide +kernel
theorem dd_X12_drawn_9 : decode cX12_drawn 9 = .ok (.invokestatic 75, 3) := by decide +kernel
theorem dd_X12_drawn_12 : decode cX12_drawn 12 = .ok (.ifCond .eq 12, 3) := by decide +kernel
theorem dd_X12_drawn_15 : decode cX12_drawn 15 = .ok (.aload_n 0, 1) := by decide +kernel
theorem dd_X12_drawn_16 : decode cX12_drawn 16 = .ok (.getfield 98, 3) := by decide +kernel
theorem dd_X12_drawn_19 : decode cX12_drawn 19 = .ok (.iconst 0, 1) := by decide +kernel
theorem dd_X12_drawn_20 : decode cX12_drawn 20 = .ok (.iaload, 1) := by decide +kernel
theorem dd_X12_drawn_21 : decode cX12_drawn 21 = .ok (.ifCond .ne 5, 3) := by decide +kernel
theorem dd_X12_drawn_24 : decode cX12_drawn 24 = .ok (.iconst (-1), 1) := by decide +kernel
theorem dd_X12_drawn_25 : decode cX12_drawn 25 = .ok (.ireturn, 1) := by decide +kernel
theorem dd_X12_duchy_0 : decode cX12_duchy 0 = .ok (.aload_n 0, 1) := by decide +kernel
theorem dd_X12_duchy_1 : decode cX12_duchy 1 = .ok (.sipush 900, 3) := by decide +kernel
theorem dd_X12_duchy_4 : decode cX12_duchy 4 = .ok (.invokevirtual 222, 3) := by decide +kernel
theorem dd_X12_duchy_7 : decode cX12_duchy 7 = .ok (.iconst 0, 1) := by decide +kernel
theorem dd_X12_duchy_8 : decode cX12_duchy 8 = .ok (.istore_n 1, 1) := by decide +kernel
theorem dd_X12_duchy_9 : decode cX12_duchy 9 = .ok (.iload_n 1, 1) := by decide +kernel
theorem dd_X12_duchy_10 : decode cX12_duchy 10 = .ok (.bipush 101, 2) := by decide +kernel
theorem dd_X12_duchy_12 : decode cX12_duchy 12 = .ok (.if_icmp .ge 16, 3) := by decide +kernel
theorem dd_X12_duchy_15 : decode cX12_duchy 15 = .ok (.aload_n 0, 1) := by decide +kernel
theorem dd_X12_duchy_16 : decode cX12_duchy 16 = .ok (.getfield 101, 3) := by decide +kernel
theorem dd_X12_duchy_19 : decode cX12_duchy 19 = .ok (.iload_n 1, 1) := by decide +kernel
theorem dd_X12_duchy_20 : decode cX12_duchy 20 = .ok (.iconst 0, 1) := by decide +kernel
theorem dd_X12_duchy_21 : decode cX12_duchy 21 = .ok (.iastore, 1) := by decide +kernel
theorem dd_X12_duchy_22 : decode cX12_duchy 22 = .ok (.iinc 1 1, 3) := by decide +kernel
theorem dd_X12_duchy_25 : decode cX12_duchy 25 = .ok (.goto (-16), 3) := by decide +kernel
theorem dd_X12_duchy_28 : decode cX12_duchy 28 = .ok (.iconst 0, 1) := by decide +kernel
theorem dd_X12_duchy_29 : decode cX12_duchy 29 = .ok (.istore_n 1, 1) := by decide +kernel
theorem dd_X12_duchy_30 : decode cX12_duchy 30 = .ok (.iload_n 1, 1) := by decide +kernel
theorem dd_X12_duchy_31 : decode cX12_duchy 31 = .ok (.bipush 36, 2) := by decide +kernel
theorem dd_X12_duchy_33 : decode cX12_duchy 33 = .ok (.if_icmp .ge 19, 3) := by decide +kernel
theorem dd_X12_duchy_36 : decode cX12_duchy 36 = .ok (.aload_n 0, 1) := by decide +kernel
theorem dd_X12_duchy_37 : decode cX12_duchy 37 = .ok (.getfield 101, 3) := by decide +kernel
theorem dd_X12_duchy_40 : decode cX12_duchy 40 = .ok (.bipush 17, 2) := by decide +kernel
theorem dd_X12_duchy_42 : decode cX12_duchy 42 = .ok (.iload_n 1, 1) := by decide +kernel
theorem dd_X12_duchy_43 : decode cX12_duchy 43 = .ok (.iadd, 1) := by decide +kernel
theorem dd_X12_duchy_44 : decode cX12_duchy 44 = .ok (.iconst (-1), 1) := by decide +kernel
theorem dd_X12_duchy_45 : decode cX12_duchy 45 = .ok (.iastore, 1) := by decide +kernel
theorem dd_X12_duchy_46 : decode cX12_duchy 46 = .ok (.iinc 1 1, 3) := by decide +kernel
theorem dd_X12_duchy_49 : decode cX12_duchy 49 = .ok (.goto (-19), 3) := by decide +kernel
theorem dd_X12_duchy_52 : decode cX12_duchy 52 = .ok (.aload_n 0, 1) := by decide +kernel
theorem dd_X12_duchy_53 : decode cX12_duchy 53 = .ok (.getfield 101, 3) := by decide +kernel
theorem dd_X12_duchy_56 : decode cX12_duchy 56 = .ok (.iconst 3, 1) := by decide +kernel
theorem dd_X12_duchy_57 : decode cX12_duchy 57 = .ok (.iconst 1, 1) := by decide +kernel
theorem dd_X12_duchy_58 : decode cX12_duchy 58 = .ok (.iastore, 1) := by decide +kernel
theorem dd_X12_duchy_59 : decode cX12_duchy 59 = .ok (.aload_n 0, 1) := by decide +kernel
theorem dd_X12_duchy_60 : decode cX12_duchy 60 = .ok (.getfield 101, 3) := by decide +kernel
theorem dd_X12_duchy_63 : decode cX12_duchy 63 = .ok (.iconst 4, 1) := by decide +kernel
theorem dd_X12_duchy_64 : decode cX12_duchy 64 = .ok (.iconst 1, 1) := by decide +kernel
theorem dd_X12_duchy_65 : decode cX12_duchy 65 = .ok (.iastore, 1) := by decide +kernel
theorem dd_X12_duchy_66 : decode cX12_duchy 66 = .ok (.aload_n 0, 1) := by decide +kernel
theorem dd_X12_duchy_67 : decode cX12_duchy 67 = .ok (.iconst 0, 1) := by decide +kernel
theorem dd_X12_duchy_68 : decode cX12_duchy 68 = .ok (.putfield 215, 3) := by decide +kernel
theorem dd_X12_duchy_71 : decode cX12_duchy 71 = .ok (.aload_n 0, 1) := by decide +kernel
theorem dd_X12_duchy_72 : decode cX12_duchy 72 = .ok (.iconst 0, 1) := by decide +kernel
theorem dd_X12_duchy_73 : decode cX12_duchy 73 = .ok (.putfield 219, 3) := by decide +kernel
theorem dd_X12_duchy_76 : decode cX12_duchy 76 = .ok (.iconst 0, 1) := by decide +kernel
theorem dd_X12_duchy_77 : decode cX12_duchy 77 = .ok (.istore_n 1, 1) := by decide +kernel
theorem dd_X12_duchy_78 : decode cX12_duchy 78 = .ok (.aload_n 0, 1) := by decide +kernel
theorem dd_X12_duchy_79 : decode cX12_duchy 79 = .ok (.getfield 30, 3) := by decide +kernel
theorem dd_X12_duchy_82 : decode cX12_duchy 82 = .ok (.ifCond .eq 30, 3) := by decide +kernel
theorem dd_X12_duchy_112 : decode cX12_duchy 112 = .ok (.iconst 0, 1) := by decide +kernel
theorem dd_X12_duchy_113 : decode cX12_duchy 113 = .ok (.istore_n 2, 1) := by decide +kernel
theorem dd_X12_duchy_114 : decode cX12_duchy 114 = .ok (.iload_n 2, 1) := by decide +kernel
theorem dd_X12_duchy_115 : decode cX12_duchy 115 = .ok (.bipush 36, 2) := by decide +kernel
theorem dd_X12_duchy_117 : decode cX12_duchy 117 = .ok (.if_icmp .ge 43, 3) := by decide +kernel
theorem dd_X12_duchy_120 : decode cX12_duchy 120 = .ok (.aload_n 0, 1) := by decide +kernel
theorem dd_X12_duchy_121 : decode cX12_duchy 121 = .ok (.getfield 101, 3) := by decide +kernel
theorem dd_X12_duchy_124 : decode cX12_duchy 124 = .ok (.bipush 17, 2) := by decide +kernel
theorem dd_X12_duchy_126 : decode cX12_duchy 126 = .ok (.iload_n 2, 1) := by decide +kernel
theorem dd_X12_duchy_127 : decode cX12_duchy 127 = .ok (.iadd, 1) := by decide +kernel
theorem dd_X12_duchy_128 : decode cX12_duchy 128 = .ok (.iaload, 1) := by decide +kernel
theorem dd_X12_duchy_129 : decode cX12_duchy 129 = .ok (.iconst (-1), 1) := by decide +kernel
theorem dd_X12_duchy_130 : decode cX12_duchy 130 = .ok (.if_icmp .ne 24, 3) := by decide +kernel
theorem dd_X12_duchy_133 : decode cX12_duchy 133 = .ok (.aload_n 0, 1) := by decide +kernel
theorem dd_X12_duchy_134 : decode cX12_duchy 134 = .ok (.getfield 101, 3) := by decide +kernel
theorem dd_X12_duchy_137 : decode cX12_duchy 137 = .ok (.bipush 17, 2) := by decide +kernel
theorem dd_X12_duchy_139 : decode cX12_duchy 139 = .ok (.iload_n 2, 1) := by decide +kernel
theorem dd_X12_duchy_140 : decode cX12_duchy 140 = .ok (.iadd, 1) := by decide +kernel
theorem dd_X12_duchy_141 : decode cX12_duchy 141 = .ok (.aload_n 0, 1) := by decide +kernel
theorem dd_X12_duchy_142 : decode cX12_duchy 142 = .ok (.getfield 101, 3) := by decide +kernel
theorem dd_X12_duchy_145 : decode cX12_duchy 145 = .ok (.bipush 11, 2) := by decide +kernel
theorem dd_X12_duchy_147 : decode cX12_duchy 147 = .ok (.iload_n 2, 1) := by decide +kernel
theorem dd_X12_duchy_148 : decode cX12_duchy 148 = .ok (.bipush 6, 2) := by decide +kernel
theorem dd_X12_duchy_150 : decode cX12_duchy 150 = .ok (.irem, 1) := by decide +kernel
theorem dd_X12_duchy_151 : decode cX12_duchy 151 = .ok (.iadd, 1) := by decide +kernel
theorem dd_X12_duchy_152 : decode cX12_duchy 152 = .ok (.iaload, 1) := by decide +kernel
theorem dd_X12_duchy_153 : decode cX12_duchy 153 = .ok (.iastore, 1) := by decide +kernel
theorem dd_X12_duchy_154 : decode cX12_duchy 154 = .ok (.iinc 2 1, 3) := by decide +kernel
theorem dd_X12_duchy_157 : decode cX12_duchy 157 = .ok (.goto (-43), 3) := by decide +kernel
theorem dd_X12_duchy_160 : decode cX12_duchy 160 = .ok (.iconst 0, 1) := by decide +kernel
theorem dd_X12_duchy_161 : decode cX12_duchy 161 = .ok (.istore_n 2, 1) := by decide +kernel
theorem dd_X12_duchy_162 : decode cX12_duchy 162 = .ok (.iload_n 2, 1) := by decide +kernel
theorem dd_X12_duchy_163 : decode cX12_duchy 163 = .ok (.bipush 101, 2) := by decide +kernel
theorem dd_X12_duchy_165 : decode cX12_duchy 165 = .ok (.if_icmp .ge 21, 3) := by decide +kernel
theorem dd_X12_duchy_168 : decode cX12_duchy 168 = .ok (.aload_n 0, 1) := by decide +kernel
theorem dd_X12_duchy_169 : decode cX12_duchy 169 = .ok (.getfield 98, 3) := by decide +kernel
theorem dd_X12_duchy_172 : decode cX12_duchy 172 = .ok (.iload_n 2, 1) := by decide +kernel
theorem dd_X12_duchy_173 : decode cX12_duchy 173 = .ok (.aload_n 0, 1) := by decide +kernel
theorem dd_X12_duchy_174 : decode cX12_duchy 174 = .ok (.getfield 101, 3) := by decide +kernel
theorem dd_X12_duchy_177 : decode cX12_duchy 177 = .ok (.iload_n 2, 1) := by decide +kernel
theorem dd_X12_duchy_178 : decode cX12_duchy 178 = .ok (.iaload, 1) := by decide +kernel
theorem dd_X12_duchy_179 : decode cX12_duchy 179 = .ok (.iastore, 1) := by decide +kernel
theorem dd_X12_duchy_180 : decode cX12_duchy 180 = .ok (.iinc 2 1, 3) := by decide +kernel
theorem dd_X12_duchy_183 : decode cX12_duchy 183 = .ok (.goto (-21), 3) := by decide +kernel
theorem dd_X12_duchy_186 : decode cX12_duchy 186 = .ok (.iconst 0, 1) := by decide +kernel
theorem dd_X12_duchy_187 : decode cX12_duchy 187 = .ok (.istore_n 2, 1) := by decide +kernel
theorem dd_X12_duchy_188 : decode cX12_duchy 188 = .ok (.iload_n 2, 1) := by decide +kernel
theorem dd_X12_duchy_189 : decode cX12_duchy 189 = .ok (.bipush 18, 2) := by decide +kernel
theorem dd_X12_duchy_191 : decode cX12_duchy 191 = .ok (.if_icmp .ge 21, 3) := by decide +kernel
theorem dd_X12_duchy_194 : decode cX12_duchy 194 = .ok (.aload_n 0, 1) := by decide +kernel
theorem dd_X12_duchy_195 : decode cX12_duchy 195 = .ok (.getfield 113, 3) := by decide +kernel
theorem dd_X12_duchy_198 : decode cX12_duchy 198 = .ok (.iload_n 2, 1) := by decide +kernel
theorem dd_X12_duchy_199 : decode cX12_duchy 199 = .ok (.aload_n 0, 1) := by decide +kernel
theorem dd_X12_duchy_200 : decode cX12_duchy 200 = .ok (.getfield 117, 3) := by decide +kernel
theorem dd_X12_duchy_203 : decode cX12_duchy 203 = .ok (.iload_n 2, 1) := by decide +kernel
theorem dd_X12_duchy_204 : decode cX12_duchy 204 = .ok (.laload, 1) := by decide +kernel
theorem dd_X12_duchy_205 : decode cX12_duchy 205 = .ok (.lastore, 1) := by decide +kernel
theorem dd_X12_duchy_206 : decode cX12_duchy 206 = .ok (.iinc 2 1, 3) := by decide +kernel
theorem dd_X12_duchy_209 : decode cX12_duchy 209 = .ok (.goto (-21), 3) := by decide +kernel
theorem dd_X12_duchy_212 : decode cX12_duchy 212 = .ok (.aload_n 0, 1) := by decide +kernel
theorem dd_X12_duchy_213 : decode cX12_duchy 213 = .ok (.invokevirtual 231, 3) := by decide +kernel
theorem dd_X12_duchy_216 : decode cX12_duchy 216 = .ok (.aload_n 0, 1) := by decide +kernel
theorem dd_X12_duchy_217 : decode cX12_duchy 217 = .ok (.iconst 0, 1) := by decide +kernel
theorem dd_X12_duchy_218 : decode cX12_duchy 218 = .ok (.putfield 234, 3) := by decide +kernel
theorem dd_X12_duchy_221 : decode cX12_duchy 221 = .ok (.iload_n 1, 1) := by decide +kernel
theorem dd_X12_duchy_222 : decode cX12_duchy 222 = .ok (.ireturn, 1) := by decide +kernel
theorem dd_X12_end_0 : decode cX12_end 0 = .ok (.aload_n 0, 1) := by decide +kernel
theorem dd_X12_end_1 : decode cX12_end 1 = .ok (.iconst 0, 1) := by decide +kernel
theorem dd_X12_end_2 : decode cX12_end 2 = .ok (.putfield 1, 3) := by decide +kernel
theorem dd_X12_end_5 : decode cX12_end 5 = .ok (.iload_n 1, 1) := by decide +kernel
theorem dd_X12_end_6 : decode cX12_end 6 = .ok (.ifCond .lt 11, 3) := by decide +kernel
theorem dd_X12_end_9 : decode cX12_end 9 = .ok (.iload_n 1, 1) := by decide +kernel
theorem dd_X12_end_10 : decode cX12_end 10 = .ok (.aload_n 0, 1) := by decide +kernel
theorem dd_X12_end_11 : decode cX12_end 11 = .ok (.getfield 11, 3) := by decide +kernel
theorem dd_X12_end_14 : decode cX12_end 14 = .ok (.if_icmp .le 5, 3) := by decide +kernel
theorem dd_X12_end_17 : decode cX12_end 17 = .ok (.iconst 0, 1) := by decide +kernel
theorem dd_X12_end_18 : decode cX12_end 18 = .ok (.ireturn, 1) := by decide +kernel
theorem dd_X12_end_19 : decode cX12_end 19 = .ok (.aload_n 0, 1) := by decide +kernel
theorem dd_X12_end_20 : decode cX12_end 20 = .ok (.iload_n 1, 1) := by decide +kernel
theorem dd_X12_end_21 : decode cX12_end 21 = .ok (.putfield 11, 3) := by decide +kernel
theorem dd_X12_end_24 : decode cX12_end 24 = .ok (.iconst 1, 1) := by decide +kernel
theorem dd_X12_end_25 : decode cX12_end 25 = .ok (.ireturn, 1) := by decide +kernel
theorem dd_X12_even_0 : decode cX12_even 0 = .ok (.aload_n 0, 1) := by decide +kernel
theorem dd_X12_even_1 : decode cX12_even 1 = .ok (.iconst 0, 1) := by decide +kernel
theorem dd_X12_even_2 : decode cX12_even 2 = .ok (.putfield 1, 3) := by decide +kernel
theorem dd_X12_even_5 : decode cX12_even 5 = .ok (.iconst 0, 1) := by decide +kernel
theorem dd_X12_even_6 : decode cX12_even 6 = .ok (.istore_n 1, 1) := by decide +kernel
theorem dd_X12_even_7 : decode cX12_even 7 = .ok (.iconst 0, 1) := by decide +kernel
theorem dd_X12_even_8 : decode cX12_even 8 = .ok (.istore_n 2, 1) := by decide +kernel
theorem dd_X12_even_9 : decode cX12_even 9 = .ok (.iload_n 2, 1) := by decide +kernel
theorem dd_X12_even_10 : decode cX12_even 10 = .ok (.aload_n 0, 1) := by decide +kernel
theorem dd_X12_even_11 : decode cX12_even 11 = .ok (.getfield 98, 3) := by decide +kernel
theorem dd_X12_even_14 : decode cX12_even 14 = .ok (.iconst 0, 1) := by decide +kernel
theorem dd_X12_even_15 : decode cX12_even 15 = .ok (.iaload, 1) := by decide +kernel
theorem dd_X12_even_16 : decode cX12_even 16 = .ok (.if_icmp .ge 38, 3) := by decide +kernel
theorem dd_X12_even_54 : decode cX12_even 54 = .ok (.aload_n 0, 1) := by decide +kernel
theorem dd_X12_even_55 : decode cX12_even 55 = .ok (.getfield 139, 3) := by decide +kernel
theorem dd_X12_even_58 : decode cX12_even 58 = .ok (.iconst 0, 1) := by decide +kernel
theorem dd_X12_even_59 : decode cX12_even 59 = .ok (.iconst 0, 1) := by decide +kernel
theorem dd_X12_even_60 : decode cX12_even 60 = .ok (.iastore, 1) := by decide +kernel
theorem dd_X12_even_61 : decode cX12_even 61 = .ok (.iconst 1, 1) := by decide +kernel
theorem dd_X12_even_62 : decode cX12_even 62 = .ok (.istore_n 2, 1) := by decide +kernel
theorem dd_X12_even_63 : decode cX12_even 63 = .ok (.iload_n 2, 1) := by decide +kernel
theorem dd_X12_even_64 : decode cX12_even 64 = .ok (.iconst 1, 1) := by decide +kernel
theorem dd_X12_even_65 : decode cX12_even 65 = .ok (.iload_n 1, 1) := by decide +kernel
theorem dd_X12_even_66 : decode cX12_even 66 = .ok (.ishl, 1) := by decide +kernel
theorem dd_X12_even_67 : decode cX12_even 67 = .ok (.if_icmp .ge 103, 3) := by decide +kernel
theorem dd_X12_even_170 : decode cX12_even 170 = .ok (.iload_n 1, 1) := by decide +kernel
theorem dd_X12_even_171 : decode cX12_even 171 = .ok (.aload_n 0, 1) := by decide +kernel
theorem dd_X12_even_172 : decode cX12_even 172 = .ok (.getfield 139, 3) := by decide +kernel
theorem dd_X12_even_175 : decode cX12_even 175 = .ok (.iconst 1, 1) := by decide +kernel
theorem dd_X12_even_176 : decode cX12_even 176 = .ok (.iload_n 1, 1) := by decide +kernel
theorem dd_X12_even_177 : decode cX12_even 177 = .ok (.ishl, 1) := by decide +kernel
theorem dd_X12_even_178 : decode cX12_even 178 = .ok (.iconst 1, 1) := by decide +kernel
theorem dd_X12_even_179 : decode cX12_even 179 = .ok (.isub, 1) := by decide +kernel
theorem dd_X12_even_180 : decode cX12_even 180 = .ok (.iaload, 1) := by decide +kernel
theorem dd_X12_even_181 : decode cX12_even 181 = .ok (.isub, 1) := by decide +kernel
theorem dd_X12_even_182 : decode cX12_even 182 = .ok (.ireturn, 1) := by decide +kernel
theorem dd_X12_fault_0 : decode cX12_fault 0 = .ok (.aload_n 0, 1) := by decide +kernel
theorem dd_X12_fault_1 : decode cX12_fault 1 = .ok (.iconst 0, 1) := by decide +kernel
theorem dd_X12_fault_2 : decode cX12_fault 2 = .ok (.putfield 1, 3) := by decide +kernel
theorem dd_X12_fault_5 : decode cX12_fault 5 = .ok (.aload_n 0, 1) := by decide +kernel
theorem dd_X12_fault_6 : decode cX12_fault 6 = .ok (.getfield 66, 3) := by decide +kernel
theorem dd_X12_fault_9 : decode cX12_fault 9 = .ok (.ireturn, 1) := by decide +kernel
theorem dd_X12_feed_0 : decode cX12_feed 0 = .ok (.aload_n 0, 1) := by decide +kernel
theorem dd_X12_feed_1 : decode cX12_feed 1 = .ok (.iconst 0, 1) := by decide +kernel
theorem dd_X12_feed_2 : decode cX12_feed 2 = .ok (.putfield 1, 3) := by decide +kernel
theorem dd_X12_feed_5 : decode cX12_feed 5 = .ok (.aload_n 0, 1) := by decide +kernel
theorem dd_X12_feed_6 : decode cX12_feed 6 = .ok (.getfield 11, 3) := by decide +kernel
theorem dd_X12_feed_9 : decode cX12_feed 9 = .ok (.bipush 20, 2) := by decide +kernel
theorem dd_X12_feed_11 : decode cX12_feed 11 = .ok (.iadd, 1) := by decide +kernel
theorem dd_X12_feed_12 : decode cX12_feed 12 = .ok (.sipush 940, 3) := by decide +kernel
theorem dd_X12_feed_15 : decode cX12_feed 15 = .ok (.if_icmp .le 5, 3) := by decide +kernel
theorem dd_X12_feed_20 : decode cX12_feed 20 = .ok (.aload_n 0, 1) := by decide +kernel
theorem dd_X12_feed_21 : decode cX12_feed 21 = .ok (.iload_n 1, 1) := by decide +kernel
theorem dd_X12_feed_22 : decode cX12_feed 22 = .ok (.invokevirtual 14, 3) := by decide +kernel
theorem dd_X12_feed_25 : decode cX12_feed 25 = .ok (.aload_n 0, 1) := by decide +kernel
theorem dd_X12_feed_26 : decode cX12_feed 26 = .ok (.iload_n 2, 1) := by decide +kernel
theorem dd_X12_feed_27 : decode cX12_feed 27 = .ok (.invokevirtual 14, 3) := by decide +kernel
theorem dd_X12_feed_30 : decode cX12_feed 30 = .ok (.aload_n 0, 1) := by decide +kernel
theorem dd_X12_feed_31 : decode cX12_feed 31 = .ok (.iload_n 3, 1) := by decide +kernel
theorem dd_X12_feed_32 : decode cX12_feed 32 = .ok (.invokevirtual 14, 3) := by decide +kernel
theorem dd_X12_feed_35 : decode cX12_feed 35 = .ok (.aload_n 0, 1) := by decide +kernel
theorem dd_X12_feed_36 : decode cX12_feed 36 = .ok (.iload 4, 2) := by decide +kernel
theorem dd_X12_feed_38 : decode cX12_feed 38 = .ok (.invokevirtual 14, 3) := by decide +kernel
theorem dd_X12_feed_41 : decode cX12_feed 41 = .ok (.aload_n 0, 1) := by decide +kernel
theorem dd_X12_feed_42 : decode cX12_feed 42 = .ok (.iload 5, 2) := by decide +kernel
theorem dd_X12_feed_44 : decode cX12_feed 44 = .ok (.invokevirtual 14, 3) := by decide +kernel
theorem dd_X12_feed_47 : decode cX12_feed 47 = .ok (.aload_n 0, 1) := by decide +kernel
theorem dd_X12_feed_48 : decode cX12_feed 48 = .ok (.getfield 11, 3) := by decide +kernel
theorem dd_X12_feed_51 : decode cX12_feed 51 = .ok (.ireturn, 1) := by decide +kernel
theorem dd_X12_fits_0 : decode cX12_fits 0 = .ok (.aload_n 0, 1) := by decide +kernel
theorem dd_X12_fits_1 : decode cX12_fits 1 = .ok (.iconst 0, 1) := by decide +kernel
theorem dd_X12_fits_2 : decode cX12_fits 2 = .ok (.putfield 1, 3) := by decide +kernel
theorem dd_X12_fits_5 : decode cX12_fits 5 = .ok (.aload_n 0, 1) := by decide +kernel
theorem dd_X12_fits_6 : decode cX12_fits 6 = .ok (.invokevirtual 89, 3) := by decide +kernel
theorem dd_X12_fits_9 : decode cX12_fits 9 = .ok (.istore_n 1, 1) := by decide +kernel
theorem dd_X12_fits_10 : decode cX12_fits 10 = .ok (.iload_n 1, 1) := by decide +kernel
theorem dd_X12_fits_11 : decode cX12_fits 11 = .ok (.iconst 2, 1) := by decide +kernel
theorem dd_X12_fits_12 : decode cX12_fits 12 = .ok (.irem, 1) := by decide +kernel
theorem dd_X12_fits_13 : decode cX12_fits 13 = .ok (.ifCond .ne 15, 3) := by decide +kernel
theorem dd_X12_fits_16 : decode cX12_fits 16 = .ok (.iload_n 1, 1) := by decide +kernel
theorem dd_X12_fits_17 : decode cX12_fits 17 = .ok (.iconst 2, 1) := by decide +kernel
theorem dd_X12_fits_18 : decode cX12_fits 18 = .ok (.idiv, 1) := by decide +kernel
theorem dd_X12_fits_19 : decode cX12_fits 19 = .ok (.iconst 1, 1) := by decide +kernel
theorem dd_X12_fits_20 : decode cX12_fits 20 = .ok (.bipush 10, 2) := by decide +kernel
theorem dd_X12_fits_22 : decode cX12_fits 22 = .ok (.invokestatic 75, 3) := by decide +kernel
theorem dd_X12_fits_25 : decode cX12_fits 25 = .ok (.ifCond .ne 5, 3) := by decide +kernel
theorem dd_X12_fits_28 : decode cX12_fits 28 = .ok (.iconst (-1), 1) := by decide +kernel
theorem dd_X12_fits_29 : decode cX12_fits 29 = .ok (.ireturn, 1) := by decide +kernel
theorem dd_X12_forfeit_0 : decode cX12_forfeit 0 = .ok (.aload_n 0, 1) := by decide +kernel
theorem dd_X12_forfeit_1 : decode cX12_forfeit 1 = .ok (.iconst 0, 1) := by decide +kernel
theorem dd_X12_forfeit_2 : decode cX12_forfeit 2 = .ok (.putfield 1, 3) := by decide +kernel
theorem dd_X12_forfeit_5 : decode cX12_forfeit 5 = .ok (.aload_n 0, 1) := by decide +kernel
theorem dd_X12_forfeit_6 : decode cX12_forfeit 6 = .ok (.iload_n 1, 1) := by decide +kernel
theorem dd_X12_forfeit_7 : decode cX12_forfeit 7 = .ok (.invokevirtual 251, 3) := by decide +kernel
theorem dd_X12_forfeit_10 : decode cX12_forfeit 10 = .ok (.ifCond .eq 11, 3) := by decide +kernel
theorem dd_X12_forfeit_21 : decode cX12_forfeit 21 = .ok (.iconst (-1), 1) := by decide +kernel
theorem dd_X12_forfeit_22 : decode cX12_forfeit 22 = .ok (.ireturn, 1) := by decide +kernel
theorem dd_X12_go_0 : decode cX12_go 0 = .ok (.aload_n 0, 1) := by decide +kernel
theorem dd_X12_go_1 : decode cX12_go 1 = .ok (.getfield 21, 3) := by decide +kernel
theorem dd_X12_go_4 : decode cX12_go 4 = .ok (.aload_n 0, 1) := by decide +kernel
theorem dd_X12_go_5 : decode cX12_go 5 = .ok (.getfield 18, 3) := by decide +kernel
theorem dd_X12_go_8 : decode cX12_go 8 = .ok (.if_icmp .ge 44, 3) := by decide +kernel
theorem dd_X12_go_52 : decode cX12_go 52 = .ok (.aload_n 0, 1) := by decide +kernel
theorem dd_X12_go_53 : decode cX12_go 53 = .ok (.aload_n 0, 1) := by decide +kernel
theorem dd_X12_go_54 : decode cX12_go 54 = .ok (.getfield 21, 3) := by decide +kernel
theorem dd_X12_go_57 : decode cX12_go 57 = .ok (.putfield 24, 3) := by decide +kernel
theorem dd_X12_go_60 : decode cX12_go 60 = .ok (.aload_n 0, 1) := by decide +kernel
theorem dd_X12_go_61 : decode cX12_go 61 = .ok (.getfield 18, 3) := by decide +kernel
theorem dd_X12_go_64 : decode cX12_go 64 = .ok (.aload_n 0, 1) := by decide +kernel
theorem dd_X12_go_65 : decode cX12_go 65 = .ok (.getfield 27, 3) := by decide +kernel
theorem dd_X12_go_68 : decode cX12_go 68 = .ok (.if_icmp .le 28, 3) := by decide +kernel
theorem dd_X12_go_96 : decode cX12_go 96 = .ok (.aload_n 0, 1) := by decide +kernel
theorem dd_X12_go_97 : decode cX12_go 97 = .ok (.getfield 21, 3) := by decide +kernel
theorem dd_X12_go_100 : decode cX12_go 100 = .ok (.aload_n 0, 1) := by decide +kernel
theorem dd_X12_go_101 : decode cX12_go 101 = .ok (.getfield 18, 3) := by decide +kernel
theorem dd_X12_go_104 : decode cX12_go 104 = .ok (.if_icmp .lt 9, 3) := by decide +kernel
theorem dd_X12_go_107 : decode cX12_go 107 = .ok (.aload_n 0, 1) := by decide +kernel
theorem dd_X12_go_108 : decode cX12_go 108 = .ok (.iconst 0, 1) := by decide +kernel
theorem dd_X12_go_109 : decode cX12_go 109 = .ok (.putfield 30, 3) := by decide +kernel
theorem dd_X12_go_112 : decode cX12_go 112 = .ok (.return_, 1) := by decide +kernel
theorem dd_X12_good_0 : decode cX12_good 0 = .ok (.aload_n 0, 1) := by decide +kernel
theorem dd_X12_good_1 : decode cX12_good 1 = .ok (.iconst 0, 1) := by decide +kernel
theorem dd_X12_good_2 : decode cX12_good 2 = .ok (.putfield 1, 3) := by decide +kernel
theorem dd_X12_good_5 : decode cX12_good 5 = .ok (.aload_n 0, 1) := by decide +kernel
theorem dd_X12_good_6 : decode cX12_good 6 = .ok (.iload_n 1, 1) := by decide +kernel
theorem dd_X12_good_7 : decode cX12_good 7 = .ok (.invokevirtual 275, 3) := by decide +kernel
theorem dd_X12_good_10 : decode cX12_good 10 = .ok (.ifCond .ne 5, 3) := by decide +kernel
theorem dd_X12_good_13 : decode cX12_good 13 = .ok (.iconst (-1), 1) := by decide +kernel
theorem dd_X12_good_14 : decode cX12_good 14 = .ok (.ireturn, 1) := by decide +kernel
theorem dd_X12_image_0 : decode cX12_image 0 = .ok (.aload_n 0, 1) := by decide +kernel
theorem dd_X12_image_1 : decode cX12_image 1 = .ok (.iconst 0, 1) := by decide +kernel
theorem dd_X12_image_2 : decode cX12_image 2 = .ok (.putfield 1, 3) := by decide +kernel
theorem dd_X12_image_5 : decode cX12_image 5 = .ok (.iload_n 1, 1) := by decide +kernel
theorem dd_X12_image_6 : decode cX12_image 6 = .ok (.iconst 0, 1) := by decide +kernel
theorem dd_X12_image_7 : decode cX12_image 7 = .ok (.iconst 1, 1) := by decide +kernel
theorem dd_X12_image_8 : decode cX12_image 8 = .ok (.invokestatic 75, 3) := by decide +kernel
theorem dd_X12_image_11 : decode cX12_image 11 = .ok (.ifCond .ne 5, 3) := by decide +kernel
theorem dd_X12_image_14 : decode cX12_image 14 = .ok (.iconst 0, 1) := by decide +kernel
theorem dd_X12_image_15 : decode cX12_image 15 = .ok (.ireturn, 1) := by decide +kernel
theorem dd_X12_image_16 : decode cX12_image 16 = .ok (.iconst 0, 1) := by decide +kernel
theorem dd_X12_image_17 : decode cX12_image 17 = .ok (.istore_n 2, 1) := by decide +kernel
theorem dd_X12_image_18 : decode cX12_image 18 = .ok (.iload_n 2, 1) := by decide +kernel
theorem dd_X12_image_19 : decode cX12_image 19 = .ok (.sipush 476, 3) := by decide +kernel
theorem dd_X12_image_22 : decode cX12_image 22 = .ok (.if_icmp .ge 27, 3) := by decide +kernel
theorem dd_X12_image_25 : decode cX12_image 25 = .ok (.aload_n 0, 1) := by decide +kernel
theorem dd_X12_image_26 : decode cX12_image 26 = .ok (.getfield 104, 3) := by decide +kernel
theorem dd_X12_image_29 : decode cX12_image 29 = .ok (.sipush 476, 3) := by decide +kernel
theorem dd_X12_image_32 : decode cX12_image 32 = .ok (.iload_n 1, 1) := by decide +kernel
theorem dd_X12_image_33 : decode cX12_image 33 = .ok (.imul, 1) := by decide +kernel
theorem dd_X12_image_34 : decode cX12_image 34 = .ok (.iload_n 2, 1) := by decide +kernel
theorem dd_X12_image_35 : decode cX12_image 35 = .ok (.iadd, 1) := by decide +kernel
theorem dd_X12_image_36 : decode cX12_image 36 = .ok (.aload_n 0, 1) := by decide +kernel
theorem dd_X12_image_37 : decode cX12_image 37 = .ok (.getfield 98, 3) := by decide +kernel
theorem dd_X12_image_40 : decode cX12_image 40 = .ok (.iload_n 2, 1) := by decide +kernel
theorem dd_X12_image_41 : decode cX12_image 41 = .ok (.iaload, 1) := by decide +kernel
theorem dd_X12_image_42 : decode cX12_image 42 = .ok (.iastore, 1) := by decide +kernel
theorem dd_X12_image_43 : decode cX12_image 43 = .ok (.iinc 2 1, 3) := by decide +kernel
theorem dd_X12_image_46 : decode cX12_image 46 = .ok (.goto (-28), 3) := by decide +kernel
theorem dd_X12_image_49 : decode cX12_image 49 = .ok (.iconst 0, 1) := by decide +kernel
theorem dd_X12_image_50 : decode cX12_image 50 = .ok (.istore_n 2, 1) := by decide +kernel
theorem dd_X12_image_51 : decode cX12_image 51 = .ok (.iload_n 2, 1) := by decide +kernel
theorem dd_X12_image_52 : decode cX12_image 52 = .ok (.bipush 18, 2) := by decide +kernel
theorem dd_X12_image_54 : decode cX12_image 54 = .ok (.if_icmp .ge 26, 3) := by decide +kernel
theorem dd_X12_image_57 : decode cX12_image 57 = .ok (.aload_n 0, 1) := by decide +kernel
theorem dd_X12_image_58 : decode cX12_image 58 = .ok (.getfield 120, 3) := by decide +kernel
theorem dd_X12_image_61 : decode cX12_image 61 = .ok (.bipush 18, 2) := by decide +kernel
theorem dd_X12_image_63 : decode cX12_image 63 = .ok (.iload_n 1, 1) := by decide +kernel
theorem dd_X12_image_64 : decode cX12_image 64 = .ok (.imul, 1) := by decide +kernel
theorem dd_X12_image_65 : decode cX12_image 65 = .ok (.iload_n 2, 1) := by decide +kernel
theorem dd_X12_image_66 : decode cX12_image 66 = .ok (.iadd, 1) := by decide +kernel
theorem dd_X12_image_67 : decode cX12_image 67 = .ok (.aload_n 0, 1) := by decide +kernel
theorem dd_X12_image_68 : decode cX12_image 68 = .ok (.getfield 113, 3) := by decide +kernel
theorem dd_X12_image_71 : decode cX12_image 71 = .ok (.iload_n 2, 1) := by decide +kernel
theorem dd_X12_image_72 : decode cX12_image 72 = .ok (.laload, 1) := by decide +kernel
theorem dd_X12_image_73 : decode cX12_image 73 = .ok (.lastore, 1) := by decide +kernel
theorem dd_X12_image_74 : decode cX12_image 74 = .ok (.iinc 2 1, 3) := by decide +kernel
theorem dd_X12_image_77 : decode cX12_image 77 = .ok (.goto (-26), 3) := by decide +kernel
theorem dd_X12_image_80 : decode cX12_image 80 = .ok (.aload_n 0, 1) := by decide +kernel
theorem dd_X12_image_81 : decode cX12_image 81 = .ok (.getfield 123, 3) := by decide +kernel
theorem dd_X12_image_84 : decode cX12_image 84 = .ok (.iload_n 1, 1) := by decide +kernel
theorem dd_X12_image_85 : decode cX12_image 85 = .ok (.iconst 1, 1) := by decide +kernel
theorem dd_X12_image_86 : decode cX12_image 86 = .ok (.bastore, 1) := by decide +kernel
theorem dd_X12_image_87 : decode cX12_image 87 = .ok (.iconst 1, 1) := by decide +kernel
theorem dd_X12_image_88 : decode cX12_image 88 = .ok (.ireturn, 1) := by decide +kernel
theorem dd_X12_init_0 : decode cX12_init 0 = .ok (.aload_n 0, 1) := by decide +kernel
theorem dd_X12_init_1 : decode cX12_init 1 = .ok (.invokespecial 93, 3) := by decide +kernel
theorem dd_X12_init_4 : decode cX12_init 4 = .ok (.aload_n 0, 1) := by decide +kernel
theorem dd_X12_init_5 : decode cX12_init 5 = .ok (.sipush 940, 3) := by decide +kernel
theorem dd_X12_init_8 : decode cX12_init 8 = .ok (.newarray .int, 2) := by decide +kernel
theorem dd_X12_init_10 : decode cX12_init 10 = .ok (.putfield 7, 3) := by decide +kernel
theorem dd_X12_init_13 : decode cX12_init 13 = .ok (.aload_n 0, 1) := by decide +kernel
theorem dd_X12_init_14 : decode cX12_init 14 = .ok (.sipush 476, 3) := by decide +kernel
theorem dd_X12_init_17 : decode cX12_init 17 = .ok (.newarray .int, 2) := by decide +kernel
theorem dd_X12_init_19 : decode cX12_init 19 = .ok (.putfield 98, 3) := by decide +kernel
theorem dd_X12_init_22 : decode cX12_init 22 = .ok (.aload_n 0, 1) := by decide +kernel
theorem dd_X12_init_23 : decode cX12_init 23 = .ok (.bipush 101, 2) := by decide +kernel
theorem dd_X12_init_25 : decode cX12_init 25 = .ok (.newarray .int, 2) := by decide +kernel
theorem dd_X12_init_27 : decode cX12_init 27 = .ok (.putfield 101, 3) := by decide +kernel
theorem dd_X12_init_30 : decode cX12_init 30 = .ok (.aload_n 0, 1) := by decide +kernel
theorem dd_X12_init_31 : decode cX12_init 31 = .ok (.sipush 952, 3) := by decide +kernel
theorem dd_X12_init_34 : decode cX12_init 34 = .ok (.newarray .int, 2) := by decide +kernel
theorem dd_X12_init_36 : decode cX12_init 36 = .ok (.putfield 104, 3) := by decide +kernel
theorem dd_X12_init_39 : decode cX12_init 39 = .ok (.aload_n 0, 1) := by decide +kernel
theorem dd_X12_init_40 : decode cX12_init 40 = .ok (.sipush 1064, 3) := by decide +kernel
theorem dd_X12_init_43 : decode cX12_init 43 = .ok (.newarray .int, 2) := by decide +kernel
theorem dd_X12_init_45 : decode cX12_init 45 = .ok (.putfield 107, 3) := by decide +kernel
theorem dd_X12_init_48 : decode cX12_init 48 = .ok (.aload_n 0, 1) := by decide +kernel
theorem dd_X12_init_49 : decode cX12_init 49 = .ok (.sipush 133, 3) := by decide +kernel
theorem dd_X12_init_52 : decode cX12_init 52 = .ok (.newarray .int, 2) := by decide +kernel
theorem dd_X12_init_54 : decode cX12_init 54 = .ok (.putfield 110, 3) := by decide +kernel
theorem dd_X12_init_57 : decode cX12_init 57 = .ok (.aload_n 0, 1) := by decide +kernel
theorem dd_X12_init_58 : decode cX12_init 58 = .ok (.bipush 18, 2) := by decide +kernel
theorem dd_X12_init_60 : decode cX12_init 60 = .ok (.newarray .long, 2) := by decide +kernel
theorem dd_X12_init_62 : decode cX12_init 62 = .ok (.putfield 113, 3) := by decide +kernel
theorem dd_X12_init_65 : decode cX12_init 65 = .ok (.aload_n 0, 1) := by decide +kernel
theorem dd_X12_init_66 : decode cX12_init 66 = .ok (.bipush 18, 2) := by decide +kernel
theorem dd_X12_init_68 : decode cX12_init 68 = .ok (.newarray .long, 2) := by decide +kernel
theorem dd_X12_init_70 : decode cX12_init 70 = .ok (.putfield 117, 3) := by decide +kernel
theorem dd_X12_init_73 : decode cX12_init 73 = .ok (.aload_n 0, 1) := by decide +kernel
theorem dd_X12_init_74 : decode cX12_init 74 = .ok (.bipush 36, 2) := by decide +kernel
theorem dd_X12_init_76 : decode cX12_init 76 = .ok (.newarray .long, 2) := by decide +kernel
theorem dd_X12_init_78 : decode cX12_init 78 = .ok (.putfield 120, 3) := by decide +kernel
theorem dd_X12_init_81 : decode cX12_init 81 = .ok (.aload_n 0, 1) := by decide +kernel
theorem dd_X12_init_82 : decode cX12_init 82 = .ok (.iconst 2, 1) := by decide +kernel
theorem dd_X12_init_83 : decode cX12_init 83 = .ok (.newarray .boolean, 2) := by decide +kernel
theorem dd_X12_init_85 : decode cX12_init 85 = .ok (.putfield 123, 3) := by decide +kernel
theorem dd_X12_init_88 : decode cX12_init 88 = .ok (.aload_n 0, 1) := by decide +kernel
theorem dd_X12_init_89 : decode cX12_init 89 = .ok (.bipush 6, 2) := by decide +kernel
theorem dd_X12_init_91 : decode cX12_init 91 = .ok (.newarray .int, 2) := by decide +kernel
theorem dd_X12_init_93 : decode cX12_init 93 = .ok (.putfield 127, 3) := by decide +kernel
theorem dd_X12_init_96 : decode cX12_init 96 = .ok (.aload_n 0, 1) := by decide +kernel
theorem dd_X12_init_97 : decode cX12_init 97 = .ok (.bipush 6, 2) := by decide +kernel
theorem dd_X12_init_99 : decode cX12_init 99 = .ok (.newarray .int, 2) := by decide +kernel
theorem dd_X12_init_101 : decode cX12_init 101 = .ok (.putfield 130, 3) := by decide +kernel
theorem dd_X12_init_104 : decode cX12_init 104 = .ok (.aload_n 0, 1) := by decide +kernel
theorem dd_X12_init_105 : decode cX12_init 105 = .ok (.sipush 700, 3) := by decide +kernel
theorem dd_X12_init_108 : decode cX12_init 108 = .ok (.newarray .int, 2) := by decide +kernel
theorem dd_X12_init_110 : decode cX12_init 110 = .ok (.putfield 133, 3) := by decide +kernel
theorem dd_X12_init_113 : decode cX12_init 113 = .ok (.aload_n 0, 1) := by decide +kernel
theorem dd_X12_init_114 : decode cX12_init 114 = .ok (.bipush 6, 2) := by decide +kernel
theorem dd_X12_init_116 : decode cX12_init 116 = .ok (.newarray .int, 2) := by decide +kernel
theorem dd_X12_init_118 : decode cX12_init 118 = .ok (.putfield 136, 3) := by decide +kernel
theorem dd_X12_init_121 : decode cX12_init 121 = .ok (.aload_n 0, 1) := by decide +kernel
theorem dd_X12_init_122 : decode cX12_init 122 = .ok (.bipush 64, 2) := by decide +kernel
theorem dd_X12_init_124 : decode cX12_init 124 = .ok (.newarray .int, 2) := by decide +kernel
theorem dd_X12_init_126 : decode cX12_init 126 = .ok (.putfield 139, 3) := by decide +kernel
theorem dd_X12_init_129 : decode cX12_init 129 = .ok (.aload_n 0, 1) := by decide +kernel
theorem dd_X12_init_130 : decode cX12_init 130 = .ok (.bipush 6, 2) := by decide +kernel
theorem dd_X12_init_132 : decode cX12_init 132 = .ok (.newarray .int, 2) := by decide +kernel
theorem dd_X12_init_134 : decode cX12_init 134 = .ok (.putfield 142, 3) := by decide +kernel
theorem dd_X12_init_137 : decode cX12_init 137 = .ok (.aload_n 0, 1) := by decide +kernel
theorem dd_X12_init_138 : decode cX12_init 138 = .ok (.iconst (-1), 1) := by decide +kernel
theorem dd_X12_init_139 : decode cX12_init 139 = .ok (.putfield 145, 3) := by decide +kernel
theorem dd_X12_init_142 : decode cX12_init 142 = .ok (.aload_n 0, 1) := by decide +kernel
theorem dd_X12_init_143 : decode cX12_init 143 = .ok (.bipush 6, 2) := by decide +kernel
theorem dd_X12_init_145 : decode cX12_init 145 = .ok (.newarray .int, 2) := by decide +kernel
theorem dd_X12_init_147 : decode cX12_init 147 = .ok (.putfield 148, 3) := by decide +kernel
theorem dd_X12_init_150 : decode cX12_init 150 = .ok (.aload_n 0, 1) := by decide +kernel
theorem dd_X12_init_151 : decode cX12_init 151 = .ok (.bipush 36, 2) := by decide +kernel
theorem dd_X12_init_153 : decode cX12_init 153 = .ok (.newarray .int, 2) := by decide +kernel
theorem dd_X12_init_155 : decode cX12_init 155 = .ok (.putfield 151, 3) := by decide +kernel
theorem dd_X12_init_158 : decode cX12_init 158 = .ok (.aload_n 0, 1) := by decide +kernel
theorem dd_X12_init_159 : decode cX12_init 159 = .ok (.sipush 847, 3) := by decide +kernel
theorem dd_X12_init_162 : decode cX12_init 162 = .ok (.newarray .boolean, 2) := by decide +kernel
theorem dd_X12_init_164 : decode cX12_init 164 = .ok (.putfield 154, 3) := by decide +kernel
theorem dd_X12_init_167 : decode cX12_init 167 = .ok (.aload_n 0, 1) := by decide +kernel
theorem dd_X12_init_168 : decode cX12_init 168 = .ok (.bipush 6, 2) := by decide +kernel
theorem dd_X12_init_170 : decode cX12_init 170 = .ok (.newarray .int, 2) := by decide +kernel
theorem dd_X12_init_172 : decode cX12_init 172 = .ok (.putfield 157, 3) := by decide +kernel
theorem dd_X12_init_175 : decode cX12_init 175 = .ok (.aload_n 0, 1) := by decide +kernel
theorem dd_X12_init_176 : decode cX12_init 176 = .ok (.bipush 64, 2) := by decide +kernel
theorem dd_X12_init_178 : decode cX12_init 178 = .ok (.newarray .int, 2) := by decide +kernel
theorem dd_X12_init_180 : decode cX12_init 180 = .ok (.putfield 160, 3) := by decide +kernel
theorem dd_X12_init_183 : decode cX12_init 183 = .ok (.aload_n 0, 1) := by decide +kernel
theorem dd_X12_init_184 : decode cX12_init 184 = .ok (.sipush 160, 3) := by decide +kernel
theorem dd_X12_init_187 : decode cX12_init 187 = .ok (.newarray .int, 2) := by decide +kernel
theorem dd_X12_init_189 : decode cX12_init 189 = .ok (.putfield 163, 3) := by decide +kernel
theorem dd_X12_init_192 : decode cX12_init 192 = .ok (.aload_n 0, 1) := by decide +kernel
theorem dd_X12_init_193 : decode cX12_init 193 = .ok (.iconst 4, 1) := by decide +kernel
theorem dd_X12_init_194 : decode cX12_init 194 = .ok (.newarray .int, 2) := by decide +kernel
theorem dd_X12_init_196 : decode cX12_init 196 = .ok (.putfield 166, 3) := by decide +kernel
theorem dd_X12_init_199 : decode cX12_init 199 = .ok (.aload_n 0, 1) := by decide +kernel
theorem dd_X12_init_200 : decode cX12_init 200 = .ok (.sipush 240, 3) := by decide +kernel
theorem dd_X12_init_203 : decode cX12_init 203 = .ok (.newarray .int, 2) := by decide +kernel
theorem dd_X12_init_205 : decode cX12_init 205 = .ok (.putfield 169, 3) := by decide +kernel
theorem dd_X12_init_208 : decode cX12_init 208 = .ok (.aload_n 0, 1) := by decide +kernel
theorem dd_X12_init_209 : decode cX12_init 209 = .ok (.getfield 98, 3) := by decide +kernel
theorem dd_X12_init_212 : decode cX12_init 212 = .ok (.iconst 3, 1) := by decide +kernel
theorem dd_X12_init_213 : decode cX12_init 213 = .ok (.iconst 1, 1) := by decide +kernel
theorem dd_X12_init_214 : decode cX12_init 214 = .ok (.iastore, 1) := by decide +kernel
theorem dd_X12_init_215 : decode cX12_init 215 = .ok (.aload_n 0, 1) := by decide +kernel
theorem dd_X12_init_216 : decode cX12_init 216 = .ok (.getfield 98, 3) := by decide +kernel
theorem dd_X12_init_219 : decode cX12_init 219 = .ok (.iconst 4, 1) := by decide +kernel
theorem dd_X12_init_220 : decode cX12_init 220 = .ok (.iconst 1, 1) := by decide +kernel
theorem dd_X12_init_221 : decode cX12_init 221 = .ok (.iastore, 1) := by decide +kernel
theorem dd_X12_init_222 : decode cX12_init 222 = .ok (.return_, 1) := by decide +kernel
theorem dd_X12_isGood_0 : decode cX12_isGood 0 = .ok (.iload_n 1, 1) := by decide +kernel
theorem dd_X12_isGood_1 : decode cX12_isGood 1 = .ok (.iconst 0, 1) := by decide +kernel
theorem dd_X12_isGood_2 : decode cX12_isGood 2 = .ok (.aload_n 0, 1) := by decide +kernel
theorem dd_X12_isGood_3 : decode cX12_isGood 3 = .ok (.getfield 98, 3) := by decide +kernel
theorem dd_X12_isGood_6 : decode cX12_isGood 6 = .ok (.iconst 2, 1) := by decide +kernel
theorem dd_X12_isGood_7 : decode cX12_isGood 7 = .ok (.iaload, 1) := by decide +kernel
theorem dd_X12_isGood_8 : decode cX12_isGood 8 = .ok (.iconst 1, 1) := by decide +kernel
theorem dd_X12_isGood_9 : decode cX12_isGood 9 = .ok (.isub, 1) := by decide +kernel
theorem dd_X12_isGood_10 : decode cX12_isGood 10 = .ok (.invokestatic 75, 3) := by decide +kernel
theorem dd_X12_isGood_13 : decode cX12_isGood 13 = .ok (.ireturn, 1) := by decide +kernel
theorem dd_X12_isIn_0 : decode cX12_isIn 0 = .ok (.iload_n 0, 1) := by decide +kernel
theorem dd_X12_isIn_1 : decode cX12_isIn 1 = .ok (.iload_n 1, 1) := by decide +kernel
theorem dd_X12_isIn_2 : decode cX12_isIn 2 = .ok (.if_icmp .lt 12, 3) := by decide +kernel
theorem dd_X12_isIn_5 : decode cX12_isIn 5 = .ok (.iload_n 0, 1) := by decide +kernel
theorem dd_X12_isIn_6 : decode cX12_isIn 6 = .ok (.iload_n 2, 1) := by decide +kernel
theorem dd_X12_isIn_7 : decode cX12_isIn 7 = .ok (.if_icmp .gt 7, 3) := by decide +kernel
theorem dd_X12_isIn_10 : decode cX12_isIn 10 = .ok (.iconst 1, 1) := by decide +kernel
theorem dd_X12_isIn_11 : decode cX12_isIn 11 = .ok (.goto 4, 3) := by decide +kernel
theorem dd_X12_isIn_14 : decode cX12_isIn 14 = .ok (.iconst 0, 1) := by decide +kernel
theorem dd_X12_isIn_15 : decode cX12_isIn 15 = .ok (.ireturn, 1) := by decide +kernel
theorem dd_X12_isMan_0 : decode cX12_isMan 0 = .ok (.iload_n 1, 1) := by decide +kernel
theorem dd_X12_isMan_1 : decode cX12_isMan 1 = .ok (.iconst 0, 1) := by decide +kernel
theorem dd_X12_isMan_2 : decode cX12_isMan 2 = .ok (.aload_n 0, 1) := by decide +kernel
theorem dd_X12_isMan_3 : decode cX12_isMan 3 = .ok (.getfield 98, 3) := by decide +kernel
theorem dd_X12_isMan_6 : decode cX12_isMan 6 = .ok (.iconst 0, 1) := by decide +kernel
theorem dd_X12_isMan_7 : decode cX12_isMan 7 = .ok (.iaload, 1) := by decide +kernel
theorem dd_X12_isMan_8 : decode cX12_isMan 8 = .ok (.iconst 1, 1) := by decide +kernel
theorem dd_X12_isMan_9 : decode cX12_isMan 9 = .ok (.isub, 1) := by decide +kernel
theorem dd_X12_isMan_10 : decode cX12_isMan 10 = .ok (.invokestatic 75, 3) := by decide +kernel
theorem dd_X12_isMan_13 : decode cX12_isMan 13 = .ok (.ireturn, 1) := by decide +kernel
theorem dd_X12_isSign_0 : decode cX12_isSign 0 = .ok (.aload_n 0, 1) := by decide +kernel
theorem dd_X12_isSign_1 : decode cX12_isSign 1 = .ok (.getfield 30, 3) := by decide +kernel
theorem dd_X12_isSign_4 : decode cX12_isSign 4 = .ok (.iconst 4, 1) := by decide +kernel
theorem dd_X12_isSign_5 : decode cX12_isSign 5 = .ok (.if_icmp .ne 15, 3) := by decide +kernel
theorem dd_X12_isSign_20 : decode cX12_isSign 20 = .ok (.iconst 0, 1) := by decide +kernel
theorem dd_X12_isSign_21 : decode cX12_isSign 21 = .ok (.ireturn, 1) := by decide +kernel
theorem dd_X12_isWord_0 : decode cX12_isWord 0 = .ok (.aload_n 0, 1) := by decide +kernel
theorem dd_X12_isWord_1 : decode cX12_isWord 1 = .ok (.getfield 30, 3) := by decide +kernel
theorem dd_X12_isWord_4 : decode cX12_isWord 4 = .ok (.iconst 2, 1) := by decide +kernel
theorem dd_X12_isWord_5 : decode cX12_isWord 5 = .ok (.if_icmp .ne 19, 3) := by decide +kernel
theorem dd_X12_isWord_24 : decode cX12_isWord 24 = .ok (.iconst 0, 1) := by decide +kernel
theorem dd_X12_isWord_25 : decode cX12_isWord 25 = .ok (.ireturn, 1) := by decide +kernel
theorem dd_X12_lasts_0 : decode cX12_lasts 0 = .ok (.aload_n 0, 1) := by decide +kernel
theorem dd_X12_lasts_1 : decode cX12_lasts 1 = .ok (.iconst 0, 1) := by decide +kernel
theorem dd_X12_lasts_2 : decode cX12_lasts 2 = .ok (.putfield 1, 3) := by decide +kernel
theorem dd_X12_lasts_5 : decode cX12_lasts 5 = .ok (.aload_n 0, 1) := by decide +kernel
theorem dd_X12_lasts_6 : decode cX12_lasts 6 = .ok (.iload_n 1, 1) := by decide +kernel
theorem dd_X12_lasts_7 : decode cX12_lasts 7 = .ok (.invokevirtual 251, 3) := by decide +kernel
theorem dd_X12_lasts_10 : decode cX12_lasts 10 = .ok (.ifCond .eq 20, 3) := by decide +kernel
theorem dd_X12_lasts_30 : decode cX12_lasts 30 = .ok (.iconst (-1), 1) := by decide +kernel
end
section
theorem dd_X12_lasts_31 : decode cX12_lasts 31 = .ok (.ireturn, 1) := by decide +kernel
theorem dd_X12_layAside_0 : decode cX12_layAside 0 = .ok (.iconst 0, 1) := by decide +kernel
theorem dd_X12_layAside_1 : decode cX12_layAside 1 = .ok (.istore_n 1, 1) := by decide +kernel
theorem dd_X12_layAside_2 : decode cX12_layAside 2 = .ok (.iload_n 1, 1) := by decide +kernel
theorem dd_X12_layAside_3 : decode cX12_layAside 3 = .ok (.sipush 133, 3) := by decide +kernel
theorem dd_X12_layAside_6 : decode cX12_layAside 6 = .ok (.if_icmp .ge 24, 3) := by decide +kernel
theorem dd_X12_layAside_9 : decode cX12_layAside 9 = .ok (.aload_n 0, 1) := by decide +kernel
theorem dd_X12_layAside_10 : decode cX12_layAside 10 = .ok (.getfield 110, 3) := by decide +kernel
theorem dd_X12_layAside_13 : decode cX12_layAside 13 = .ok (.iload_n 1, 1) := by decide +kernel
theorem dd_X12_layAside_14 : decode cX12_layAside 14 = .ok (.aload_n 0, 1) := by decide +kernel
theorem dd_X12_layAside_15 : decode cX12_layAside 15 = .ok (.getfield 98, 3) := by decide +kernel
theorem dd_X12_layAside_18 : decode cX12_layAside 18 = .ok (.bipush 101, 2) := by decide +kernel
theorem dd_X12_layAside_20 : decode cX12_layAside 20 = .ok (.iload_n 1, 1) := by decide +kernel
theorem dd_X12_layAside_21 : decode cX12_layAside 21 = .ok (.iadd, 1) := by decide +kernel
theorem dd_X12_layAside_22 : decode cX12_layAside 22 = .ok (.iaload, 1) := by decide +kernel
theorem dd_X12_layAside_23 : decode cX12_layAside 23 = .ok (.iastore, 1) := by decide +kernel
theorem dd_X12_layAside_24 : decode cX12_layAside 24 = .ok (.iinc 1 1, 3) := by decide +kernel
theorem dd_X12_layAside_27 : decode cX12_layAside 27 = .ok (.goto (-25), 3) := by decide +kernel
theorem dd_X12_layAside_30 : decode cX12_layAside 30 = .ok (.return_, 1) := by decide +kernel
theorem dd_X12_layReach_0 : decode cX12_layReach 0 = .ok (.aload_n 0, 1) := by decide +kernel
theorem dd_X12_layReach_1 : decode cX12_layReach 1 = .ok (.getfield 98, 3) := by decide +kernel
theorem dd_X12_layReach_4 : decode cX12_layReach 4 = .ok (.iconst 0, 1) := by decide +kernel
theorem dd_X12_layReach_5 : decode cX12_layReach 5 = .ok (.iaload, 1) := by decide +kernel
theorem dd_X12_layReach_6 : decode cX12_layReach 6 = .ok (.istore_n 2, 1) := by decide +kernel
theorem dd_X12_layReach_7 : decode cX12_layReach 7 = .ok (.iconst 0, 1) := by decide +kernel
theorem dd_X12_layReach_8 : decode cX12_layReach 8 = .ok (.istore_n 3, 1) := by decide +kernel
theorem dd_X12_layReach_9 : decode cX12_layReach 9 = .ok (.iload_n 3, 1) := by decide +kernel
theorem dd_X12_layReach_10 : decode cX12_layReach 10 = .ok (.bipush 120, 2) := by decide +kernel
theorem dd_X12_layReach_12 : decode cX12_layReach 12 = .ok (.if_icmp .gt 29, 3) := by decide +kernel
theorem dd_X12_layReach_15 : decode cX12_layReach 15 = .ok (.aload_n 0, 1) := by decide +kernel
theorem dd_X12_layReach_16 : decode cX12_layReach 16 = .ok (.getfield 154, 3) := by decide +kernel
theorem dd_X12_layReach_19 : decode cX12_layReach 19 = .ok (.bipush 121, 2) := by decide +kernel
theorem dd_X12_layReach_21 : decode cX12_layReach 21 = .ok (.iload_n 2, 1) := by decide +kernel
theorem dd_X12_layReach_22 : decode cX12_layReach 22 = .ok (.imul, 1) := by decide +kernel
theorem dd_X12_layReach_23 : decode cX12_layReach 23 = .ok (.iload_n 3, 1) := by decide +kernel
theorem dd_X12_layReach_24 : decode cX12_layReach 24 = .ok (.iadd, 1) := by decide +kernel
theorem dd_X12_layReach_25 : decode cX12_layReach 25 = .ok (.iload_n 3, 1) := by decide +kernel
theorem dd_X12_layReach_26 : decode cX12_layReach 26 = .ok (.ifCond .ne 7, 3) := by decide +kernel
theorem dd_X12_layReach_29 : decode cX12_layReach 29 = .ok (.iconst 1, 1) := by decide +kernel
theorem dd_X12_layReach_30 : decode cX12_layReach 30 = .ok (.goto 4, 3) := by decide +kernel
theorem dd_X12_layReach_33 : decode cX12_layReach 33 = .ok (.iconst 0, 1) := by decide +kernel
theorem dd_X12_layReach_34 : decode cX12_layReach 34 = .ok (.bastore, 1) := by decide +kernel
theorem dd_X12_layReach_35 : decode cX12_layReach 35 = .ok (.iinc 3 1, 3) := by decide +kernel
theorem dd_X12_layReach_38 : decode cX12_layReach 38 = .ok (.goto (-29), 3) := by decide +kernel
theorem dd_X12_layReach_41 : decode cX12_layReach 41 = .ok (.iload_n 2, 1) := by decide +kernel
theorem dd_X12_layReach_42 : decode cX12_layReach 42 = .ok (.iconst 1, 1) := by decide +kernel
theorem dd_X12_layReach_43 : decode cX12_layReach 43 = .ok (.isub, 1) := by decide +kernel
theorem dd_X12_layReach_44 : decode cX12_layReach 44 = .ok (.istore_n 3, 1) := by decide +kernel
theorem dd_X12_layReach_45 : decode cX12_layReach 45 = .ok (.iload_n 3, 1) := by decide +kernel
theorem dd_X12_layReach_46 : decode cX12_layReach 46 = .ok (.ifCond .lt 135, 3) := by decide +kernel
theorem dd_X12_layReach_181 : decode cX12_layReach 181 = .ok (.return_, 1) := by decide +kernel
theorem dd_X12_layRing_0 : decode cX12_layRing 0 = .ok (.iconst 2, 1) := by decide +kernel
theorem dd_X12_layRing_1 : decode cX12_layRing 1 = .ok (.istore_n 1, 1) := by decide +kernel
theorem dd_X12_layRing_2 : decode cX12_layRing 2 = .ok (.iload_n 1, 1) := by decide +kernel
theorem dd_X12_layRing_3 : decode cX12_layRing 3 = .ok (.aload_n 0, 1) := by decide +kernel
theorem dd_X12_layRing_4 : decode cX12_layRing 4 = .ok (.getfield 98, 3) := by decide +kernel
theorem dd_X12_layRing_7 : decode cX12_layRing 7 = .ok (.iconst 0, 1) := by decide +kernel
theorem dd_X12_layRing_8 : decode cX12_layRing 8 = .ok (.iaload, 1) := by decide +kernel
theorem dd_X12_layRing_9 : decode cX12_layRing 9 = .ok (.if_icmp .gt 45, 3) := by decide +kernel
theorem dd_X12_layRing_54 : decode cX12_layRing 54 = .ok (.iconst 0, 1) := by decide +kernel
theorem dd_X12_layRing_55 : decode cX12_layRing 55 = .ok (.ireturn, 1) := by decide +kernel
theorem dd_X12_least_0 : decode cX12_least 0 = .ok (.iload_n 0, 1) := by decide +kernel
theorem dd_X12_least_1 : decode cX12_least 1 = .ok (.iload_n 1, 1) := by decide +kernel
theorem dd_X12_least_2 : decode cX12_least 2 = .ok (.if_icmp .ge 7, 3) := by decide +kernel
theorem dd_X12_least_5 : decode cX12_least 5 = .ok (.iload_n 0, 1) := by decide +kernel
theorem dd_X12_least_6 : decode cX12_least 6 = .ok (.goto 4, 3) := by decide +kernel
theorem dd_X12_least_10 : decode cX12_least 10 = .ok (.ireturn, 1) := by decide +kernel
theorem dd_X12_lend_0 : decode cX12_lend 0 = .ok (.aload_n 0, 1) := by decide +kernel
theorem dd_X12_lend_1 : decode cX12_lend 1 = .ok (.iconst 0, 1) := by decide +kernel
theorem dd_X12_lend_2 : decode cX12_lend 2 = .ok (.putfield 1, 3) := by decide +kernel
theorem dd_X12_lend_5 : decode cX12_lend 5 = .ok (.aload_n 0, 1) := by decide +kernel
theorem dd_X12_lend_6 : decode cX12_lend 6 = .ok (.iload_n 1, 1) := by decide +kernel
theorem dd_X12_lend_7 : decode cX12_lend 7 = .ok (.invokevirtual 251, 3) := by decide +kernel
theorem dd_X12_lend_10 : decode cX12_lend 10 = .ok (.ifCond .eq 32, 3) := by decide +kernel
theorem dd_X12_lend_42 : decode cX12_lend 42 = .ok (.iconst (-1), 1) := by decide +kernel
theorem dd_X12_lend_43 : decode cX12_lend 43 = .ok (.ireturn, 1) := by decide +kernel
theorem dd_X12_list_0 : decode cX12_list 0 = .ok (.aload_n 0, 1) := by decide +kernel
theorem dd_X12_list_1 : decode cX12_list 1 = .ok (.iconst 0, 1) := by decide +kernel
theorem dd_X12_list_2 : decode cX12_list 2 = .ok (.putfield 1, 3) := by decide +kernel
theorem dd_X12_list_5 : decode cX12_list 5 = .ok (.aload_n 0, 1) := by decide +kernel
theorem dd_X12_list_6 : decode cX12_list 6 = .ok (.iload_n 1, 1) := by decide +kernel
theorem dd_X12_list_7 : decode cX12_list 7 = .ok (.invokevirtual 251, 3) := by decide +kernel
theorem dd_X12_list_10 : decode cX12_list 10 = .ok (.ifCond .ne 5, 3) := by decide +kernel
theorem dd_X12_list_13 : decode cX12_list 13 = .ok (.iconst (-1), 1) := by decide +kernel
theorem dd_X12_list_14 : decode cX12_list 14 = .ok (.ireturn, 1) := by decide +kernel
theorem dd_X12_now_0 : decode cX12_now 0 = .ok (.aload_n 0, 1) := by decide +kernel
theorem dd_X12_now_1 : decode cX12_now 1 = .ok (.iconst 0, 1) := by decide +kernel
theorem dd_X12_now_2 : decode cX12_now 2 = .ok (.putfield 1, 3) := by decide +kernel
theorem dd_X12_now_5 : decode cX12_now 5 = .ok (.iload_n 1, 1) := by decide +kernel
theorem dd_X12_now_6 : decode cX12_now 6 = .ok (.tableswitch 93 0 5 #[38, 46, 55, 64, 73, 83], 38) := by decide +kernel
theorem dd_X12_now_44 : decode cX12_now 44 = .ok (.aload_n 0, 1) := by decide +kernel
theorem dd_X12_now_45 : decode cX12_now 45 = .ok (.getfield 98, 3) := by decide +kernel
theorem dd_X12_now_48 : decode cX12_now 48 = .ok (.bipush 101, 2) := by decide +kernel
theorem dd_X12_now_50 : decode cX12_now 50 = .ok (.iaload, 1) := by decide +kernel
theorem dd_X12_now_51 : decode cX12_now 51 = .ok (.ireturn, 1) := by decide +kernel
theorem dd_X12_now_52 : decode cX12_now 52 = .ok (.aload_n 0, 1) := by decide +kernel
theorem dd_X12_now_53 : decode cX12_now 53 = .ok (.bipush 102, 2) := by decide +kernel
theorem dd_X12_now_55 : decode cX12_now 55 = .ok (.bipush 6, 2) := by decide +kernel
theorem dd_X12_now_57 : decode cX12_now 57 = .ok (.invokevirtual 266, 3) := by decide +kernel
theorem dd_X12_now_60 : decode cX12_now 60 = .ok (.ireturn, 1) := by decide +kernel
theorem dd_X12_now_61 : decode cX12_now 61 = .ok (.aload_n 0, 1) := by decide +kernel
theorem dd_X12_now_62 : decode cX12_now 62 = .ok (.bipush 108, 2) := by decide +kernel
theorem dd_X12_now_64 : decode cX12_now 64 = .ok (.bipush 6, 2) := by decide +kernel
theorem dd_X12_now_66 : decode cX12_now 66 = .ok (.invokevirtual 266, 3) := by decide +kernel
theorem dd_X12_now_69 : decode cX12_now 69 = .ok (.ireturn, 1) := by decide +kernel
theorem dd_X12_now_70 : decode cX12_now 70 = .ok (.aload_n 0, 1) := by decide +kernel
theorem dd_X12_now_71 : decode cX12_now 71 = .ok (.bipush 120, 2) := by decide +kernel
theorem dd_X12_now_73 : decode cX12_now 73 = .ok (.bipush 36, 2) := by decide +kernel
theorem dd_X12_now_75 : decode cX12_now 75 = .ok (.invokevirtual 266, 3) := by decide +kernel
theorem dd_X12_now_78 : decode cX12_now 78 = .ok (.ireturn, 1) := by decide +kernel
theorem dd_X12_now_79 : decode cX12_now 79 = .ok (.aload_n 0, 1) := by decide +kernel
theorem dd_X12_now_80 : decode cX12_now 80 = .ok (.sipush 156, 3) := by decide +kernel
theorem dd_X12_now_83 : decode cX12_now 83 = .ok (.bipush 36, 2) := by decide +kernel
theorem dd_X12_now_85 : decode cX12_now 85 = .ok (.invokevirtual 266, 3) := by decide +kernel
theorem dd_X12_now_88 : decode cX12_now 88 = .ok (.ireturn, 1) := by decide +kernel
theorem dd_X12_now_89 : decode cX12_now 89 = .ok (.aload_n 0, 1) := by decide +kernel
theorem dd_X12_now_90 : decode cX12_now 90 = .ok (.sipush 192, 3) := by decide +kernel
theorem dd_X12_now_93 : decode cX12_now 93 = .ok (.bipush 36, 2) := by decide +kernel
theorem dd_X12_now_95 : decode cX12_now 95 = .ok (.invokevirtual 266, 3) := by decide +kernel
theorem dd_X12_now_98 : decode cX12_now 98 = .ok (.ireturn, 1) := by decide +kernel
theorem dd_X12_now_99 : decode cX12_now 99 = .ok (.iconst (-1), 1) := by decide +kernel
theorem dd_X12_now_100 : decode cX12_now 100 = .ok (.ireturn, 1) := by decide +kernel
theorem dd_X12_odds_0 : decode cX12_odds 0 = .ok (.aload_n 0, 1) := by decide +kernel
theorem dd_X12_odds_1 : decode cX12_odds 1 = .ok (.iconst 0, 1) := by decide +kernel
theorem dd_X12_odds_2 : decode cX12_odds 2 = .ok (.putfield 1, 3) := by decide +kernel
theorem dd_X12_odds_5 : decode cX12_odds 5 = .ok (.aload_n 0, 1) := by decide +kernel
theorem dd_X12_odds_6 : decode cX12_odds 6 = .ok (.iload_n 1, 1) := by decide +kernel
theorem dd_X12_odds_7 : decode cX12_odds 7 = .ok (.invokevirtual 251, 3) := by decide +kernel
theorem dd_X12_odds_10 : decode cX12_odds 10 = .ok (.ifCond .eq 13, 3) := by decide +kernel
theorem dd_X12_odds_23 : decode cX12_odds 23 = .ok (.iconst (-1), 1) := by decide +kernel
theorem dd_X12_odds_24 : decode cX12_odds 24 = .ok (.ireturn, 1) := by decide +kernel
theorem dd_X12_oneWeek_0 : decode cX12_oneWeek 0 = .ok (.iconst 0, 1) := by decide +kernel
theorem dd_X12_oneWeek_1 : decode cX12_oneWeek 1 = .ok (.istore_n 1, 1) := by decide +kernel
theorem dd_X12_oneWeek_2 : decode cX12_oneWeek 2 = .ok (.iload_n 1, 1) := by decide +kernel
theorem dd_X12_oneWeek_3 : decode cX12_oneWeek 3 = .ok (.bipush 6, 2) := by decide +kernel
theorem dd_X12_oneWeek_5 : decode cX12_oneWeek 5 = .ok (.if_icmp .ge 45, 3) := by decide +kernel
theorem dd_X12_oneWeek_8 : decode cX12_oneWeek 8 = .ok (.aload_n 0, 1) := by decide +kernel
theorem dd_X12_oneWeek_9 : decode cX12_oneWeek 9 = .ok (.getfield 98, 3) := by decide +kernel
theorem dd_X12_oneWeek_12 : decode cX12_oneWeek 12 = .ok (.bipush 102, 2) := by decide +kernel
theorem dd_X12_oneWeek_14 : decode cX12_oneWeek 14 = .ok (.iload_n 1, 1) := by decide +kernel
theorem dd_X12_oneWeek_15 : decode cX12_oneWeek 15 = .ok (.iadd, 1) := by decide +kernel
theorem dd_X12_oneWeek_16 : decode cX12_oneWeek 16 = .ok (.aload_n 0, 1) := by decide +kernel
theorem dd_X12_oneWeek_17 : decode cX12_oneWeek 17 = .ok (.getfield 98, 3) := by decide +kernel
theorem dd_X12_oneWeek_20 : decode cX12_oneWeek 20 = .ok (.iconst 5, 1) := by decide +kernel
theorem dd_X12_oneWeek_21 : decode cX12_oneWeek 21 = .ok (.iload_n 1, 1) := by decide +kernel
theorem dd_X12_oneWeek_22 : decode cX12_oneWeek 22 = .ok (.iadd, 1) := by decide +kernel
theorem dd_X12_oneWeek_23 : decode cX12_oneWeek 23 = .ok (.iaload, 1) := by decide +kernel
theorem dd_X12_oneWeek_24 : decode cX12_oneWeek 24 = .ok (.aload_n 0, 1) := by decide +kernel
theorem dd_X12_oneWeek_25 : decode cX12_oneWeek 25 = .ok (.getfield 98, 3) := by decide +kernel
theorem dd_X12_oneWeek_28 : decode cX12_oneWeek 28 = .ok (.bipush 102, 2) := by decide +kernel
theorem dd_X12_oneWeek_30 : decode cX12_oneWeek 30 = .ok (.iload_n 1, 1) := by decide +kernel
theorem dd_X12_oneWeek_31 : decode cX12_oneWeek 31 = .ok (.iadd, 1) := by decide +kernel
theorem dd_X12_oneWeek_32 : decode cX12_oneWeek 32 = .ok (.iaload, 1) := by decide +kernel
theorem dd_X12_oneWeek_33 : decode cX12_oneWeek 33 = .ok (.aload_n 0, 1) := by decide +kernel
theorem dd_X12_oneWeek_34 : decode cX12_oneWeek 34 = .ok (.getfield 98, 3) := by decide +kernel
theorem dd_X12_oneWeek_37 : decode cX12_oneWeek 37 = .ok (.iconst 4, 1) := by decide +kernel
theorem dd_X12_oneWeek_38 : decode cX12_oneWeek 38 = .ok (.iaload, 1) := by decide +kernel
theorem dd_X12_oneWeek_39 : decode cX12_oneWeek 39 = .ok (.iadd, 1) := by decide +kernel
theorem dd_X12_oneWeek_40 : decode cX12_oneWeek 40 = .ok (.invokestatic 237, 3) := by decide +kernel
theorem dd_X12_oneWeek_43 : decode cX12_oneWeek 43 = .ok (.iastore, 1) := by decide +kernel
theorem dd_X12_oneWeek_44 : decode cX12_oneWeek 44 = .ok (.iinc 1 1, 3) := by decide +kernel
theorem dd_X12_oneWeek_47 : decode cX12_oneWeek 47 = .ok (.goto (-45), 3) := by decide +kernel
theorem dd_X12_oneWeek_50 : decode cX12_oneWeek 50 = .ok (.aload_n 0, 1) := by decide +kernel
theorem dd_X12_oneWeek_51 : decode cX12_oneWeek 51 = .ok (.getfield 98, 3) := by decide +kernel
theorem dd_X12_oneWeek_54 : decode cX12_oneWeek 54 = .ok (.bipush 101, 2) := by decide +kernel
theorem dd_X12_oneWeek_56 : decode cX12_oneWeek 56 = .ok (.dup2, 1) := by decide +kernel
theorem dd_X12_oneWeek_57 : decode cX12_oneWeek 57 = .ok (.iaload, 1) := by decide +kernel
theorem dd_X12_oneWeek_58 : decode cX12_oneWeek 58 = .ok (.iconst 1, 1) := by decide +kernel
theorem dd_X12_oneWeek_59 : decode cX12_oneWeek 59 = .ok (.iadd, 1) := by decide +kernel
theorem dd_X12_oneWeek_60 : decode cX12_oneWeek 60 = .ok (.iastore, 1) := by decide +kernel
theorem dd_X12_oneWeek_61 : decode cX12_oneWeek 61 = .ok (.return_, 1) := by decide +kernel
theorem dd_X12_owes_0 : decode cX12_owes 0 = .ok (.aload_n 0, 1) := by decide +kernel
theorem dd_X12_owes_1 : decode cX12_owes 1 = .ok (.iconst 0, 1) := by decide +kernel
theorem dd_X12_owes_2 : decode cX12_owes 2 = .ok (.putfield 1, 3) := by decide +kernel
theorem dd_X12_owes_5 : decode cX12_owes 5 = .ok (.aload_n 0, 1) := by decide +kernel
theorem dd_X12_owes_6 : decode cX12_owes 6 = .ok (.iload_n 1, 1) := by decide +kernel
theorem dd_X12_owes_7 : decode cX12_owes 7 = .ok (.invokevirtual 251, 3) := by decide +kernel
theorem dd_X12_owes_10 : decode cX12_owes 10 = .ok (.ifCond .eq 20, 3) := by decide +kernel
theorem dd_X12_owes_30 : decode cX12_owes 30 = .ok (.iconst (-1), 1) := by decide +kernel
theorem dd_X12_owes_31 : decode cX12_owes 31 = .ok (.ireturn, 1) := by decide +kernel
theorem dd_X12_passWeeks_0 : decode cX12_passWeeks 0 = .ok (.iload_n 1, 1) := by decide +kernel
theorem dd_X12_passWeeks_1 : decode cX12_passWeeks 1 = .ok (.sipush 200, 3) := by decide +kernel
theorem dd_X12_passWeeks_4 : decode cX12_passWeeks 4 = .ok (.aload_n 0, 1) := by decide +kernel
theorem dd_X12_passWeeks_5 : decode cX12_passWeeks 5 = .ok (.getfield 98, 3) := by decide +kernel
theorem dd_X12_passWeeks_8 : decode cX12_passWeeks 8 = .ok (.bipush 101, 2) := by decide +kernel
theorem dd_X12_passWeeks_10 : decode cX12_passWeeks 10 = .ok (.iaload, 1) := by decide +kernel
theorem dd_X12_passWeeks_11 : decode cX12_passWeeks 11 = .ok (.isub, 1) := by decide +kernel
theorem dd_X12_passWeeks_12 : decode cX12_passWeeks 12 = .ok (.invokestatic 237, 3) := by decide +kernel
theorem dd_X12_passWeeks_15 : decode cX12_passWeeks 15 = .ok (.istore_n 2, 1) := by decide +kernel
theorem dd_X12_passWeeks_16 : decode cX12_passWeeks 16 = .ok (.iconst 0, 1) := by decide +kernel
theorem dd_X12_passWeeks_17 : decode cX12_passWeeks 17 = .ok (.istore_n 3, 1) := by decide +kernel
theorem dd_X12_passWeeks_18 : decode cX12_passWeeks 18 = .ok (.iload_n 3, 1) := by decide +kernel
theorem dd_X12_passWeeks_19 : decode cX12_passWeeks 19 = .ok (.iload_n 2, 1) := by decide +kernel
theorem dd_X12_passWeeks_20 : decode cX12_passWeeks 20 = .ok (.if_icmp .ge 13, 3) := by decide +kernel
theorem dd_X12_passWeeks_23 : decode cX12_passWeeks 23 = .ok (.aload_n 0, 1) := by decide +kernel
theorem dd_X12_passWeeks_24 : decode cX12_passWeeks 24 = .ok (.invokevirtual 311, 3) := by decide +kernel
theorem dd_X12_passWeeks_27 : decode cX12_passWeeks 27 = .ok (.iinc 3 1, 3) := by decide +kernel
theorem dd_X12_passWeeks_30 : decode cX12_passWeeks 30 = .ok (.goto (-12), 3) := by decide +kernel
theorem dd_X12_passWeeks_33 : decode cX12_passWeeks 33 = .ok (.iload_n 2, 1) := by decide +kernel
theorem dd_X12_passWeeks_34 : decode cX12_passWeeks 34 = .ok (.ireturn, 1) := by decide +kernel
theorem dd_X12_plan_0 : decode cX12_plan 0 = .ok (.aload_n 0, 1) := by decide +kernel
theorem dd_X12_plan_1 : decode cX12_plan 1 = .ok (.iconst 0, 1) := by decide +kernel
theorem dd_X12_plan_2 : decode cX12_plan 2 = .ok (.putfield 1, 3) := by decide +kernel
theorem dd_X12_plan_5 : decode cX12_plan 5 = .ok (.aload_n 0, 1) := by decide +kernel
theorem dd_X12_plan_6 : decode cX12_plan 6 = .ok (.iload_n 1, 1) := by decide +kernel
theorem dd_X12_plan_7 : decode cX12_plan 7 = .ok (.invokevirtual 251, 3) := by decide +kernel
theorem dd_X12_plan_10 : decode cX12_plan 10 = .ok (.ifCond .eq 14, 3) := by decide +kernel
theorem dd_X12_plan_24 : decode cX12_plan 24 = .ok (.iconst (-1), 1) := by decide +kernel
theorem dd_X12_plan_25 : decode cX12_plan 25 = .ok (.ireturn, 1) := by decide +kernel
theorem dd_X12_planned_0 : decode cX12_planned 0 = .ok (.aload_n 0, 1) := by decide +kernel
theorem dd_X12_planned_1 : decode cX12_planned 1 = .ok (.iconst 0, 1) := by decide +kernel
theorem dd_X12_planned_2 : decode cX12_planned 2 = .ok (.putfield 1, 3) := by decide +kernel
theorem dd_X12_planned_5 : decode cX12_planned 5 = .ok (.aload_n 0, 1) := by decide +kernel
theorem dd_X12_planned_6 : decode cX12_planned 6 = .ok (.getfield 330, 3) := by decide +kernel
theorem dd_X12_planned_9 : decode cX12_planned 9 = .ok (.ifCond .eq 26, 3) := by decide +kernel
theorem dd_X12_planned_35 : decode cX12_planned 35 = .ok (.iconst (-1), 1) := by decide +kernel
theorem dd_X12_planned_36 : decode cX12_planned 36 = .ok (.ireturn, 1) := by decide +kernel
theorem dd_X12_proudest_0 : decode cX12_proudest 0 = .ok (.aload_n 0, 1) := by decide +kernel
theorem dd_X12_proudest_1 : decode cX12_proudest 1 = .ok (.iconst 0, 1) := by decide +kernel
theorem dd_X12_proudest_2 : decode cX12_proudest 2 = .ok (.putfield 1, 3) := by decide +kernel
theorem dd_X12_proudest_5 : decode cX12_proudest 5 = .ok (.iconst (-1), 1) := by decide +kernel
theorem dd_X12_proudest_6 : decode cX12_proudest 6 = .ok (.istore_n 1, 1) := by decide +kernel
theorem dd_X12_proudest_7 : decode cX12_proudest 7 = .ok (.iconst 0, 1) := by decide +kernel
theorem dd_X12_proudest_8 : decode cX12_proudest 8 = .ok (.istore_n 2, 1) := by decide +kernel
theorem dd_X12_proudest_9 : decode cX12_proudest 9 = .ok (.iload_n 2, 1) := by decide +kernel
theorem dd_X12_proudest_10 : decode cX12_proudest 10 = .ok (.aload_n 0, 1) := by decide +kernel
theorem dd_X12_proudest_11 : decode cX12_proudest 11 = .ok (.getfield 98, 3) := by decide +kernel
theorem dd_X12_proudest_14 : decode cX12_proudest 14 = .ok (.iconst 0, 1) := by decide +kernel
theorem dd_X12_proudest_15 : decode cX12_proudest 15 = .ok (.iaload, 1) := by decide +kernel
theorem dd_X12_proudest_16 : decode cX12_proudest 16 = .ok (.if_icmp .ge 37, 3) := by decide +kernel
theorem dd_X12_proudest_53 : decode cX12_proudest 53 = .ok (.iload_n 1, 1) := by decide +kernel
theorem dd_X12_proudest_54 : decode cX12_proudest 54 = .ok (.ireturn, 1) := by decide +kernel
theorem dd_X12_readAnd_0 : decode cX12_readAnd 0 = .ok (.aload_n 0, 1) := by decide +kernel
theorem dd_X12_readAnd_1 : decode cX12_readAnd 1 = .ok (.invokevirtual 423, 3) := by decide +kernel
theorem dd_X12_readAnd_4 : decode cX12_readAnd 4 = .ok (.ifCond .ne 5, 3) := by decide +kernel
theorem dd_X12_readAnd_7 : decode cX12_readAnd 7 = .ok (.iconst 0, 1) := by decide +kernel
theorem dd_X12_readAnd_8 : decode cX12_readAnd 8 = .ok (.ireturn, 1) := by decide +kernel
theorem dd_X12_readOr_0 : decode cX12_readOr 0 = .ok (.aload_n 0, 1) := by decide +kernel
theorem dd_X12_readOr_1 : decode cX12_readOr 1 = .ok (.invokevirtual 414, 3) := by decide +kernel
theorem dd_X12_readOr_4 : decode cX12_readOr 4 = .ok (.ifCond .ne 5, 3) := by decide +kernel
theorem dd_X12_readOr_7 : decode cX12_readOr 7 = .ok (.iconst 0, 1) := by decide +kernel
theorem dd_X12_readOr_8 : decode cX12_readOr 8 = .ok (.ireturn, 1) := by decide +kernel
theorem dd_X12_readSaid_0 : decode cX12_readSaid 0 = .ok (.aload_n 0, 1) := by decide +kernel
theorem dd_X12_readSaid_1 : decode cX12_readSaid 1 = .ok (.bipush 40, 2) := by decide +kernel
theorem dd_X12_readSaid_3 : decode cX12_readSaid 3 = .ok (.invokevirtual 86, 3) := by decide +kernel
theorem dd_X12_readSaid_6 : decode cX12_readSaid 6 = .ok (.istore_n 1, 1) := by decide +kernel
theorem dd_X12_readSaid_7 : decode cX12_readSaid 7 = .ok (.bipush 15, 2) := by decide +kernel
theorem dd_X12_readSaid_9 : decode cX12_readSaid 9 = .ok (.istore_n 2, 1) := by decide +kernel
theorem dd_X12_readSaid_10 : decode cX12_readSaid 10 = .ok (.iload_n 2, 1) := by decide +kernel
theorem dd_X12_readSaid_11 : decode cX12_readSaid 11 = .ok (.bipush 23, 2) := by decide +kernel
theorem dd_X12_readSaid_13 : decode cX12_readSaid 13 = .ok (.if_icmp .gt 17, 3) := by decide +kernel
theorem dd_X12_readSaid_16 : decode cX12_readSaid 16 = .ok (.aload_n 0, 1) := by decide +kernel
theorem dd_X12_readSaid_17 : decode cX12_readSaid 17 = .ok (.iload_n 2, 1) := by decide +kernel
theorem dd_X12_readSaid_18 : decode cX12_readSaid 18 = .ok (.invokevirtual 197, 3) := by decide +kernel
theorem dd_X12_readSaid_21 : decode cX12_readSaid 21 = .ok (.ifCond .ne 9, 3) := by decide +kernel
theorem dd_X12_readSaid_24 : decode cX12_readSaid 24 = .ok (.iinc 2 1, 3) := by decide +kernel
theorem dd_X12_readSaid_27 : decode cX12_readSaid 27 = .ok (.goto (-17), 3) := by decide +kernel
theorem dd_X12_readSaid_30 : decode cX12_readSaid 30 = .ok (.iload_n 1, 1) := by decide +kernel
theorem dd_X12_readSaid_31 : decode cX12_readSaid 31 = .ok (.ifCond .ne 15, 3) := by decide +kernel
theorem dd_X12_readSaid_34 : decode cX12_readSaid 34 = .ok (.iload_n 2, 1) := by decide +kernel
theorem dd_X12_readSaid_35 : decode cX12_readSaid 35 = .ok (.bipush 23, 2) := by decide +kernel
theorem dd_X12_readSaid_37 : decode cX12_readSaid 37 = .ok (.if_icmp .le 9, 3) := by decide +kernel
theorem dd_X12_readSaid_40 : decode cX12_readSaid 40 = .ok (.aload_n 0, 1) := by decide +kernel
theorem dd_X12_readSaid_41 : decode cX12_readSaid 41 = .ok (.iconst 1, 1) := by decide +kernel
theorem dd_X12_readSaid_42 : decode cX12_readSaid 42 = .ok (.invokevirtual 72, 3) := by decide +kernel
theorem dd_X12_readSaid_45 : decode cX12_readSaid 45 = .ok (.ireturn, 1) := by decide +kernel
theorem dd_X12_repay_0 : decode cX12_repay 0 = .ok (.aload_n 0, 1) := by decide +kernel
theorem dd_X12_repay_1 : decode cX12_repay 1 = .ok (.iconst 0, 1) := by decide +kernel
theorem dd_X12_repay_2 : decode cX12_repay 2 = .ok (.putfield 1, 3) := by decide +kernel
theorem dd_X12_repay_5 : decode cX12_repay 5 = .ok (.aload_n 0, 1) := by decide +kernel
theorem dd_X12_repay_6 : decode cX12_repay 6 = .ok (.iload_n 1, 1) := by decide +kernel
theorem dd_X12_repay_7 : decode cX12_repay 7 = .ok (.invokevirtual 251, 3) := by decide +kernel
theorem dd_X12_repay_10 : decode cX12_repay 10 = .ok (.ifCond .eq 32, 3) := by decide +kernel
theorem dd_X12_repay_42 : decode cX12_repay 42 = .ok (.iconst (-1), 1) := by decide +kernel
theorem dd_X12_repay_43 : decode cX12_repay 43 = .ok (.ireturn, 1) := by decide +kernel
theorem dd_X12_restore_0 : decode cX12_restore 0 = .ok (.aload_n 0, 1) := by decide +kernel
theorem dd_X12_restore_1 : decode cX12_restore 1 = .ok (.iconst 0, 1) := by decide +kernel
theorem dd_X12_restore_2 : decode cX12_restore 2 = .ok (.putfield 1, 3) := by decide +kernel
theorem dd_X12_restore_5 : decode cX12_restore 5 = .ok (.iload_n 1, 1) := by decide +kernel
theorem dd_X12_restore_6 : decode cX12_restore 6 = .ok (.iconst 0, 1) := by decide +kernel
theorem dd_X12_restore_7 : decode cX12_restore 7 = .ok (.iconst 1, 1) := by decide +kernel
theorem dd_X12_restore_8 : decode cX12_restore 8 = .ok (.invokestatic 75, 3) := by decide +kernel
theorem dd_X12_restore_11 : decode cX12_restore 11 = .ok (.ifCond .eq 12, 3) := by decide +kernel
theorem dd_X12_restore_14 : decode cX12_restore 14 = .ok (.aload_n 0, 1) := by decide +kernel
theorem dd_X12_restore_15 : decode cX12_restore 15 = .ok (.getfield 123, 3) := by decide +kernel
theorem dd_X12_restore_18 : decode cX12_restore 18 = .ok (.iload_n 1, 1) := by decide +kernel
theorem dd_X12_restore_19 : decode cX12_restore 19 = .ok (.baload, 1) := by decide +kernel
theorem dd_X12_restore_20 : decode cX12_restore 20 = .ok (.ifCond .ne 5, 3) := by decide +kernel
theorem dd_X12_restore_23 : decode cX12_restore 23 = .ok (.iconst 0, 1) := by decide +kernel
theorem dd_X12_restore_24 : decode cX12_restore 24 = .ok (.ireturn, 1) := by decide +kernel
theorem dd_X12_ring_0 : decode cX12_ring 0 = .ok (.aload_n 0, 1) := by decide +kernel
theorem dd_X12_ring_1 : decode cX12_ring 1 = .ok (.iconst 0, 1) := by decide +kernel
theorem dd_X12_ring_2 : decode cX12_ring 2 = .ok (.putfield 1, 3) := by decide +kernel
theorem dd_X12_ring_5 : decode cX12_ring 5 = .ok (.aload_n 0, 1) := by decide +kernel
theorem dd_X12_ring_6 : decode cX12_ring 6 = .ok (.invokevirtual 281, 3) := by decide +kernel
theorem dd_X12_ring_9 : decode cX12_ring 9 = .ok (.istore_n 1, 1) := by decide +kernel
theorem dd_X12_ring_10 : decode cX12_ring 10 = .ok (.iload_n 1, 1) := by decide +kernel
theorem dd_X12_ring_11 : decode cX12_ring 11 = .ok (.ifCond .ne 5, 3) := by decide +kernel
theorem dd_X12_ring_14 : decode cX12_ring 14 = .ok (.iconst (-1), 1) := by decide +kernel
theorem dd_X12_ring_15 : decode cX12_ring 15 = .ok (.ireturn, 1) := by decide +kernel
theorem dd_X12_ringAt_0 : decode cX12_ringAt 0 = .ok (.aload_n 0, 1) := by decide +kernel
theorem dd_X12_ringAt_1 : decode cX12_ringAt 1 = .ok (.iconst 0, 1) := by decide +kernel
theorem dd_X12_ringAt_2 : decode cX12_ringAt 2 = .ok (.putfield 1, 3) := by decide +kernel
theorem dd_X12_ringAt_5 : decode cX12_ringAt 5 = .ok (.iload_n 1, 1) := by decide +kernel
theorem dd_X12_ringAt_6 : decode cX12_ringAt 6 = .ok (.iconst 0, 1) := by decide +kernel
theorem dd_X12_ringAt_7 : decode cX12_ringAt 7 = .ok (.aload_n 0, 1) := by decide +kernel
theorem dd_X12_ringAt_8 : decode cX12_ringAt 8 = .ok (.getfield 284, 3) := by decide +kernel
theorem dd_X12_ringAt_11 : decode cX12_ringAt 11 = .ok (.iconst 1, 1) := by decide +kernel
theorem dd_X12_ringAt_12 : decode cX12_ringAt 12 = .ok (.isub, 1) := by decide +kernel
theorem dd_X12_ringAt_13 : decode cX12_ringAt 13 = .ok (.invokestatic 75, 3) := by decide +kernel
theorem dd_X12_ringAt_16 : decode cX12_ringAt 16 = .ok (.ifCond .eq 12, 3) := by decide +kernel
theorem dd_X12_ringAt_28 : decode cX12_ringAt 28 = .ok (.iconst (-1), 1) := by decide +kernel
theorem dd_X12_ringAt_29 : decode cX12_ringAt 29 = .ok (.ireturn, 1) := by decide +kernel
theorem dd_X12_said_0 : decode cX12_said 0 = .ok (.aload_n 0, 1) := by decide +kernel
theorem dd_X12_said_1 : decode cX12_said 1 = .ok (.iconst 0, 1) := by decide +kernel
theorem dd_X12_said_2 : decode cX12_said 2 = .ok (.putfield 1, 3) := by decide +kernel
theorem dd_X12_said_5 : decode cX12_said 5 = .ok (.aload_n 0, 1) := by decide +kernel
theorem dd_X12_said_6 : decode cX12_said 6 = .ok (.getfield 98, 3) := by decide +kernel
theorem dd_X12_said_9 : decode cX12_said 9 = .ok (.sipush 234, 3) := by decide +kernel
theorem dd_X12_said_12 : decode cX12_said 12 = .ok (.iaload, 1) := by decide +kernel
theorem dd_X12_said_13 : decode cX12_said 13 = .ok (.ifCond .ne 5, 3) := by decide +kernel
theorem dd_X12_said_16 : decode cX12_said 16 = .ok (.iconst (-1), 1) := by decide +kernel
theorem dd_X12_said_17 : decode cX12_said 17 = .ok (.ireturn, 1) := by decide +kernel
theorem dd_X12_sentence_0 : decode cX12_sentence 0 = .ok (.aload_n 0, 1) := by decide +kernel
theorem dd_X12_sentence_1 : decode cX12_sentence 1 = .ok (.sipush 200, 3) := by decide +kernel
theorem dd_X12_sentence_4 : decode cX12_sentence 4 = .ok (.invokevirtual 222, 3) := by decide +kernel
theorem dd_X12_sentence_7 : decode cX12_sentence 7 = .ok (.aload_n 0, 1) := by decide +kernel
theorem dd_X12_sentence_8 : decode cX12_sentence 8 = .ok (.iconst 0, 1) := by decide +kernel
theorem dd_X12_sentence_9 : decode cX12_sentence 9 = .ok (.putfield 411, 3) := by decide +kernel
theorem dd_X12_sentence_12 : decode cX12_sentence 12 = .ok (.aload_n 0, 1) := by decide +kernel
theorem dd_X12_sentence_13 : decode cX12_sentence 13 = .ok (.iconst 0, 1) := by decide +kernel
theorem dd_X12_sentence_14 : decode cX12_sentence 14 = .ok (.putfield 426, 3) := by decide +kernel
theorem dd_X12_sentence_17 : decode cX12_sentence 17 = .ok (.aload_n 0, 1) := by decide +kernel
theorem dd_X12_sentence_18 : decode cX12_sentence 18 = .ok (.iconst 0, 1) := by decide +kernel
theorem dd_X12_sentence_19 : decode cX12_sentence 19 = .ok (.putfield 429, 3) := by decide +kernel
theorem dd_X12_sentence_22 : decode cX12_sentence 22 = .ok (.aload_n 0, 1) := by decide +kernel
theorem dd_X12_sentence_23 : decode cX12_sentence 23 = .ok (.invokevirtual 444, 3) := by decide +kernel
theorem dd_X12_sentence_26 : decode cX12_sentence 26 = .ok (.ifCond .ne 10, 3) := by decide +kernel
theorem dd_X12_sentence_29 : decode cX12_sentence 29 = .ok (.iconst (-1), 1) := by decide +kernel
theorem dd_X12_sentence_30 : decode cX12_sentence 30 = .ok (.aload_n 0, 1) := by decide +kernel
theorem dd_X12_sentence_31 : decode cX12_sentence 31 = .ok (.getfield 69, 3) := by decide +kernel
theorem dd_X12_sentence_34 : decode cX12_sentence 34 = .ok (.isub, 1) := by decide +kernel
theorem dd_X12_sentence_35 : decode cX12_sentence 35 = .ok (.ireturn, 1) := by decide +kernel
theorem dd_X12_share_0 : decode cX12_share 0 = .ok (.aload_n 0, 1) := by decide +kernel
theorem dd_X12_share_1 : decode cX12_share 1 = .ok (.iconst 0, 1) := by decide +kernel
theorem dd_X12_share_2 : decode cX12_share 2 = .ok (.putfield 1, 3) := by decide +kernel
theorem dd_X12_share_5 : decode cX12_share 5 = .ok (.iload_n 1, 1) := by decide +kernel
theorem dd_X12_share_6 : decode cX12_share 6 = .ok (.iconst 0, 1) := by decide +kernel
theorem dd_X12_share_7 : decode cX12_share 7 = .ok (.sipush 999, 3) := by decide +kernel
theorem dd_X12_share_10 : decode cX12_share 10 = .ok (.invokestatic 75, 3) := by decide +kernel
theorem dd_X12_share_13 : decode cX12_share 13 = .ok (.ifCond .eq 35, 3) := by decide +kernel
theorem dd_X12_share_16 : decode cX12_share 16 = .ok (.iload_n 2, 1) := by decide +kernel
theorem dd_X12_share_17 : decode cX12_share 17 = .ok (.ifCond .lt 31, 3) := by decide +kernel
theorem dd_X12_share_20 : decode cX12_share 20 = .ok (.iload_n 2, 1) := by decide +kernel
theorem dd_X12_share_21 : decode cX12_share 21 = .ok (.iconst 1, 1) := by decide +kernel
theorem dd_X12_share_22 : decode cX12_share 22 = .ok (.aload_n 0, 1) := by decide +kernel
theorem dd_X12_share_23 : decode cX12_share 23 = .ok (.getfield 98, 3) := by decide +kernel
theorem dd_X12_share_26 : decode cX12_share 26 = .ok (.iconst 0, 1) := by decide +kernel
theorem dd_X12_share_27 : decode cX12_share 27 = .ok (.iaload, 1) := by decide +kernel
theorem dd_X12_share_28 : decode cX12_share 28 = .ok (.ishl, 1) := by decide +kernel
theorem dd_X12_share_29 : decode cX12_share 29 = .ok (.if_icmp .ge 19, 3) := by decide +kernel
theorem dd_X12_share_32 : decode cX12_share 32 = .ok (.aload_n 0, 1) := by decide +kernel
theorem dd_X12_share_33 : decode cX12_share 33 = .ok (.iload_n 3, 1) := by decide +kernel
theorem dd_X12_share_34 : decode cX12_share 34 = .ok (.invokevirtual 251, 3) := by decide +kernel
theorem dd_X12_share_37 : decode cX12_share 37 = .ok (.ifCond .eq 11, 3) := by decide +kernel
theorem dd_X12_share_48 : decode cX12_share 48 = .ok (.iconst (-1), 1) := by decide +kernel
theorem dd_X12_share_49 : decode cX12_share 49 = .ok (.ireturn, 1) := by decide +kernel
theorem dd_X12_snap_0 : decode cX12_snap 0 = .ok (.aload_n 0, 1) := by decide +kernel
theorem dd_X12_snap_1 : decode cX12_snap 1 = .ok (.getfield 234, 3) := by decide +kernel
theorem dd_X12_snap_4 : decode cX12_snap 4 = .ok (.bipush 8, 2) := by decide +kernel
theorem dd_X12_snap_6 : decode cX12_snap 6 = .ok (.if_icmp .ne 44, 3) := by decide +kernel
theorem dd_X12_snap_50 : decode cX12_snap 50 = .ok (.iconst 0, 1) := by decide +kernel
theorem dd_X12_snap_51 : decode cX12_snap 51 = .ok (.istore_n 1, 1) := by decide +kernel
theorem dd_X12_snap_52 : decode cX12_snap 52 = .ok (.iload_n 1, 1) := by decide +kernel
theorem dd_X12_snap_53 : decode cX12_snap 53 = .ok (.sipush 133, 3) := by decide +kernel
theorem dd_X12_snap_56 : decode cX12_snap 56 = .ok (.if_icmp .ge 33, 3) := by decide +kernel
theorem dd_X12_snap_59 : decode cX12_snap 59 = .ok (.aload_n 0, 1) := by decide +kernel
theorem dd_X12_snap_60 : decode cX12_snap 60 = .ok (.getfield 107, 3) := by decide +kernel
theorem dd_X12_snap_63 : decode cX12_snap 63 = .ok (.sipush 133, 3) := by decide +kernel
theorem dd_X12_snap_66 : decode cX12_snap 66 = .ok (.aload_n 0, 1) := by decide +kernel
theorem dd_X12_snap_67 : decode cX12_snap 67 = .ok (.getfield 234, 3) := by decide +kernel
theorem dd_X12_snap_70 : decode cX12_snap 70 = .ok (.imul, 1) := by decide +kernel
theorem dd_X12_snap_71 : decode cX12_snap 71 = .ok (.iload_n 1, 1) := by decide +kernel
theorem dd_X12_snap_72 : decode cX12_snap 72 = .ok (.iadd, 1) := by decide +kernel
theorem dd_X12_snap_73 : decode cX12_snap 73 = .ok (.aload_n 0, 1) := by decide +kernel
theorem dd_X12_snap_74 : decode cX12_snap 74 = .ok (.getfield 98, 3) := by decide +kernel
theorem dd_X12_snap_77 : decode cX12_snap 77 = .ok (.bipush 101, 2) := by decide +kernel
theorem dd_X12_snap_79 : decode cX12_snap 79 = .ok (.iload_n 1, 1) := by decide +kernel
theorem dd_X12_snap_80 : decode cX12_snap 80 = .ok (.iadd, 1) := by decide +kernel
theorem dd_X12_snap_81 : decode cX12_snap 81 = .ok (.iaload, 1) := by decide +kernel
theorem dd_X12_snap_82 : decode cX12_snap 82 = .ok (.iastore, 1) := by decide +kernel
theorem dd_X12_snap_83 : decode cX12_snap 83 = .ok (.iinc 1 1, 3) := by decide +kernel
theorem dd_X12_snap_86 : decode cX12_snap 86 = .ok (.goto (-34), 3) := by decide +kernel
theorem dd_X12_snap_89 : decode cX12_snap 89 = .ok (.aload_n 0, 1) := by decide +kernel
theorem dd_X12_snap_90 : decode cX12_snap 90 = .ok (.dup, 1) := by decide +kernel
theorem dd_X12_snap_91 : decode cX12_snap 91 = .ok (.getfield 234, 3) := by decide +kernel
theorem dd_X12_snap_94 : decode cX12_snap 94 = .ok (.iconst 1, 1) := by decide +kernel
theorem dd_X12_snap_95 : decode cX12_snap 95 = .ok (.iadd, 1) := by decide +kernel
theorem dd_X12_snap_96 : decode cX12_snap 96 = .ok (.putfield 234, 3) := by decide +kernel
theorem dd_X12_snap_99 : decode cX12_snap 99 = .ok (.return_, 1) := by decide +kernel
theorem dd_X12_startSo_0 : decode cX12_startSo 0 = .ok (.bipush 101, 2) := by decide +kernel
theorem dd_X12_startSo_2 : decode cX12_startSo 2 = .ok (.istore_n 1, 1) := by decide +kernel
theorem dd_X12_startSo_3 : decode cX12_startSo 3 = .ok (.iload_n 1, 1) := by decide +kernel
theorem dd_X12_startSo_4 : decode cX12_startSo 4 = .ok (.sipush 476, 3) := by decide +kernel
theorem dd_X12_startSo_7 : decode cX12_startSo 7 = .ok (.if_icmp .ge 16, 3) := by decide +kernel
theorem dd_X12_startSo_10 : decode cX12_startSo 10 = .ok (.aload_n 0, 1) := by decide +kernel
theorem dd_X12_startSo_11 : decode cX12_startSo 11 = .ok (.getfield 98, 3) := by decide +kernel
theorem dd_X12_startSo_14 : decode cX12_startSo 14 = .ok (.iload_n 1, 1) := by decide +kernel
theorem dd_X12_startSo_15 : decode cX12_startSo 15 = .ok (.iconst 0, 1) := by decide +kernel
theorem dd_X12_startSo_16 : decode cX12_startSo 16 = .ok (.iastore, 1) := by decide +kernel
theorem dd_X12_startSo_17 : decode cX12_startSo 17 = .ok (.iinc 1 1, 3) := by decide +kernel
theorem dd_X12_startSo_20 : decode cX12_startSo 20 = .ok (.goto (-17), 3) := by decide +kernel
theorem dd_X12_startSo_23 : decode cX12_startSo 23 = .ok (.iconst 0, 1) := by decide +kernel
theorem dd_X12_startSo_24 : decode cX12_startSo 24 = .ok (.istore_n 1, 1) := by decide +kernel
theorem dd_X12_startSo_25 : decode cX12_startSo 25 = .ok (.iload_n 1, 1) := by decide +kernel
theorem dd_X12_startSo_26 : decode cX12_startSo 26 = .ok (.bipush 6, 2) := by decide +kernel
theorem dd_X12_startSo_28 : decode cX12_startSo 28 = .ok (.if_icmp .ge 44, 3) := by decide +kernel
theorem dd_X12_startSo_31 : decode cX12_startSo 31 = .ok (.aload_n 0, 1) := by decide +kernel
theorem dd_X12_startSo_32 : decode cX12_startSo 32 = .ok (.getfield 98, 3) := by decide +kernel
theorem dd_X12_startSo_35 : decode cX12_startSo 35 = .ok (.bipush 102, 2) := by decide +kernel
theorem dd_X12_startSo_37 : decode cX12_startSo 37 = .ok (.iload_n 1, 1) := by decide +kernel
theorem dd_X12_startSo_38 : decode cX12_startSo 38 = .ok (.iadd, 1) := by decide +kernel
theorem dd_X12_startSo_39 : decode cX12_startSo 39 = .ok (.aload_n 0, 1) := by decide +kernel
theorem dd_X12_startSo_40 : decode cX12_startSo 40 = .ok (.getfield 98, 3) := by decide +kernel
theorem dd_X12_startSo_43 : decode cX12_startSo 43 = .ok (.iconst 5, 1) := by decide +kernel
theorem dd_X12_startSo_44 : decode cX12_startSo 44 = .ok (.iload_n 1, 1) := by decide +kernel
theorem dd_X12_startSo_45 : decode cX12_startSo 45 = .ok (.iadd, 1) := by decide +kernel
theorem dd_X12_startSo_46 : decode cX12_startSo 46 = .ok (.iaload, 1) := by decide +kernel
theorem dd_X12_startSo_47 : decode cX12_startSo 47 = .ok (.iastore, 1) := by decide +kernel
theorem dd_X12_startSo_48 : decode cX12_startSo 48 = .ok (.aload_n 0, 1) := by decide +kernel
theorem dd_X12_startSo_49 : decode cX12_startSo 49 = .ok (.getfield 98, 3) := by decide +kernel
theorem dd_X12_startSo_52 : decode cX12_startSo 52 = .ok (.bipush 114, 2) := by decide +kernel
theorem dd_X12_startSo_54 : decode cX12_startSo 54 = .ok (.iload_n 1, 1) := by decide +kernel
theorem dd_X12_startSo_55 : decode cX12_startSo 55 = .ok (.iadd, 1) := by decide +kernel
theorem dd_X12_startSo_56 : decode cX12_startSo 56 = .ok (.aload_n 0, 1) := by decide +kernel
theorem dd_X12_startSo_57 : decode cX12_startSo 57 = .ok (.getfield 98, 3) := by decide +kernel
theorem dd_X12_startSo_60 : decode cX12_startSo 60 = .ok (.bipush 59, 2) := by decide +kernel
theorem dd_X12_startSo_62 : decode cX12_startSo 62 = .ok (.iload_n 1, 1) := by decide +kernel
theorem dd_X12_startSo_63 : decode cX12_startSo 63 = .ok (.iadd, 1) := by decide +kernel
theorem dd_X12_startSo_64 : decode cX12_startSo 64 = .ok (.iaload, 1) := by decide +kernel
theorem dd_X12_startSo_65 : decode cX12_startSo 65 = .ok (.iastore, 1) := by decide +kernel
theorem dd_X12_startSo_66 : decode cX12_startSo 66 = .ok (.iinc 1 1, 3) := by decide +kernel
theorem dd_X12_startSo_69 : decode cX12_startSo 69 = .ok (.goto (-44), 3) := by decide +kernel
theorem dd_X12_startSo_72 : decode cX12_startSo 72 = .ok (.iconst 0, 1) := by decide +kernel
theorem dd_X12_startSo_73 : decode cX12_startSo 73 = .ok (.istore_n 1, 1) := by decide +kernel
theorem dd_X12_startSo_74 : decode cX12_startSo 74 = .ok (.iload_n 1, 1) := by decide +kernel
theorem dd_X12_startSo_75 : decode cX12_startSo 75 = .ok (.bipush 36, 2) := by decide +kernel
theorem dd_X12_startSo_77 : decode cX12_startSo 77 = .ok (.if_icmp .ge 27, 3) := by decide +kernel
theorem dd_X12_startSo_80 : decode cX12_startSo 80 = .ok (.aload_n 0, 1) := by decide +kernel
theorem dd_X12_startSo_81 : decode cX12_startSo 81 = .ok (.getfield 98, 3) := by decide +kernel
theorem dd_X12_startSo_84 : decode cX12_startSo 84 = .ok (.bipush 120, 2) := by decide +kernel
theorem dd_X12_startSo_86 : decode cX12_startSo 86 = .ok (.iload_n 1, 1) := by decide +kernel
theorem dd_X12_startSo_87 : decode cX12_startSo 87 = .ok (.iadd, 1) := by decide +kernel
theorem dd_X12_startSo_88 : decode cX12_startSo 88 = .ok (.aload_n 0, 1) := by decide +kernel
theorem dd_X12_startSo_89 : decode cX12_startSo 89 = .ok (.getfield 98, 3) := by decide +kernel
theorem dd_X12_startSo_92 : decode cX12_startSo 92 = .ok (.bipush 65, 2) := by decide +kernel
theorem dd_X12_startSo_94 : decode cX12_startSo 94 = .ok (.iload_n 1, 1) := by decide +kernel
theorem dd_X12_startSo_95 : decode cX12_startSo 95 = .ok (.iadd, 1) := by decide +kernel
theorem dd_X12_startSo_96 : decode cX12_startSo 96 = .ok (.iaload, 1) := by decide +kernel
theorem dd_X12_startSo_97 : decode cX12_startSo 97 = .ok (.iastore, 1) := by decide +kernel
theorem dd_X12_startSo_98 : decode cX12_startSo 98 = .ok (.iinc 1 1, 3) := by decide +kernel
theorem dd_X12_startSo_101 : decode cX12_startSo 101 = .ok (.goto (-27), 3) := by decide +kernel
theorem dd_X12_startSo_104 : decode cX12_startSo 104 = .ok (.return_, 1) := by decide +kernel
theorem dd_X12_stay_0 : decode cX12_stay 0 = .ok (.iconst 0, 1) := by decide +kernel
theorem dd_X12_stay_1 : decode cX12_stay 1 = .ok (.istore_n 2, 1) := by decide +kernel
theorem dd_X12_stay_2 : decode cX12_stay 2 = .ok (.iload_n 2, 1) := by decide +kernel
theorem dd_X12_stay_3 : decode cX12_stay 3 = .ok (.sipush 133, 3) := by decide +kernel
theorem dd_X12_stay_6 : decode cX12_stay 6 = .ok (.if_icmp .ge 41, 3) := by decide +kernel
theorem dd_X12_stay_9 : decode cX12_stay 9 = .ok (.aload_n 0, 1) := by decide +kernel
theorem dd_X12_stay_10 : decode cX12_stay 10 = .ok (.getfield 98, 3) := by decide +kernel
theorem dd_X12_stay_13 : decode cX12_stay 13 = .ok (.bipush 101, 2) := by decide +kernel
theorem dd_X12_stay_15 : decode cX12_stay 15 = .ok (.iload_n 2, 1) := by decide +kernel
theorem dd_X12_stay_16 : decode cX12_stay 16 = .ok (.iadd, 1) := by decide +kernel
theorem dd_X12_stay_17 : decode cX12_stay 17 = .ok (.iaload, 1) := by decide +kernel
theorem dd_X12_stay_18 : decode cX12_stay 18 = .ok (.istore_n 3, 1) := by decide +kernel
theorem dd_X12_stay_19 : decode cX12_stay 19 = .ok (.aload_n 0, 1) := by decide +kernel
theorem dd_X12_stay_20 : decode cX12_stay 20 = .ok (.getfield 98, 3) := by decide +kernel
theorem dd_X12_stay_23 : decode cX12_stay 23 = .ok (.bipush 101, 2) := by decide +kernel
theorem dd_X12_stay_25 : decode cX12_stay 25 = .ok (.iload_n 2, 1) := by decide +kernel
theorem dd_X12_stay_26 : decode cX12_stay 26 = .ok (.iadd, 1) := by decide +kernel
theorem dd_X12_stay_27 : decode cX12_stay 27 = .ok (.aload_n 0, 1) := by decide +kernel
theorem dd_X12_stay_28 : decode cX12_stay 28 = .ok (.getfield 110, 3) := by decide +kernel
theorem dd_X12_stay_31 : decode cX12_stay 31 = .ok (.iload_n 2, 1) := by decide +kernel
theorem dd_X12_stay_32 : decode cX12_stay 32 = .ok (.iaload, 1) := by decide +kernel
theorem dd_X12_stay_33 : decode cX12_stay 33 = .ok (.iastore, 1) := by decide +kernel
theorem dd_X12_stay_34 : decode cX12_stay 34 = .ok (.aload_n 0, 1) := by decide +kernel
theorem dd_X12_stay_35 : decode cX12_stay 35 = .ok (.getfield 110, 3) := by decide +kernel
theorem dd_X12_stay_38 : decode cX12_stay 38 = .ok (.iload_n 2, 1) := by decide +kernel
theorem dd_X12_stay_39 : decode cX12_stay 39 = .ok (.iload_n 3, 1) := by decide +kernel
theorem dd_X12_stay_40 : decode cX12_stay 40 = .ok (.iastore, 1) := by decide +kernel
theorem dd_X12_stay_41 : decode cX12_stay 41 = .ok (.iinc 2 1, 3) := by decide +kernel
theorem dd_X12_stay_44 : decode cX12_stay 44 = .ok (.goto (-42), 3) := by decide +kernel
theorem dd_X12_stay_47 : decode cX12_stay 47 = .ok (.iload_n 1, 1) := by decide +kernel
theorem dd_X12_stay_48 : decode cX12_stay 48 = .ok (.ifCond .ne 4, 3) := by decide +kernel
theorem dd_X12_stay_51 : decode cX12_stay 51 = .ok (.return_, 1) := by decide +kernel
theorem dd_X12_strike_0 : decode cX12_strike 0 = .ok (.aload_n 0, 1) := by decide +kernel
theorem dd_X12_strike_1 : decode cX12_strike 1 = .ok (.iconst 0, 1) := by decide +kernel
theorem dd_X12_strike_2 : decode cX12_strike 2 = .ok (.putfield 1, 3) := by decide +kernel
theorem dd_X12_strike_5 : decode cX12_strike 5 = .ok (.aload_n 0, 1) := by decide +kernel
theorem dd_X12_strike_6 : decode cX12_strike 6 = .ok (.invokevirtual 281, 3) := by decide +kernel
theorem dd_X12_strike_9 : decode cX12_strike 9 = .ok (.ifCond .ne 5, 3) := by decide +kernel
theorem dd_X12_strike_12 : decode cX12_strike 12 = .ok (.iconst (-1), 1) := by decide +kernel
theorem dd_X12_strike_13 : decode cX12_strike 13 = .ok (.ireturn, 1) := by decide +kernel
theorem dd_X12_sumOf_0 : decode cX12_sumOf 0 = .ok (.iconst 0, 1) := by decide +kernel
theorem dd_X12_sumOf_1 : decode cX12_sumOf 1 = .ok (.istore_n 3, 1) := by decide +kernel
theorem dd_X12_sumOf_2 : decode cX12_sumOf 2 = .ok (.iconst 0, 1) := by decide +kernel
theorem dd_X12_sumOf_3 : decode cX12_sumOf 3 = .ok (.istore 4, 2) := by decide +kernel
theorem dd_X12_sumOf_5 : decode cX12_sumOf 5 = .ok (.iload 4, 2) := by decide +kernel
theorem dd_X12_sumOf_7 : decode cX12_sumOf 7 = .ok (.iload_n 2, 1) := by decide +kernel
theorem dd_X12_sumOf_8 : decode cX12_sumOf 8 = .ok (.if_icmp .ge 21, 3) := by decide +kernel
theorem dd_X12_sumOf_11 : decode cX12_sumOf 11 = .ok (.iload_n 3, 1) := by decide +kernel
theorem dd_X12_sumOf_12 : decode cX12_sumOf 12 = .ok (.aload_n 0, 1) := by decide +kernel
theorem dd_X12_sumOf_13 : decode cX12_sumOf 13 = .ok (.getfield 98, 3) := by decide +kernel
theorem dd_X12_sumOf_16 : decode cX12_sumOf 16 = .ok (.iload_n 1, 1) := by decide +kernel
theorem dd_X12_sumOf_17 : decode cX12_sumOf 17 = .ok (.iload 4, 2) := by decide +kernel
theorem dd_X12_sumOf_19 : decode cX12_sumOf 19 = .ok (.iadd, 1) := by decide +kernel
theorem dd_X12_sumOf_20 : decode cX12_sumOf 20 = .ok (.iaload, 1) := by decide +kernel
theorem dd_X12_sumOf_21 : decode cX12_sumOf 21 = .ok (.iadd, 1) := by decide +kernel
theorem dd_X12_sumOf_22 : decode cX12_sumOf 22 = .ok (.istore_n 3, 1) := by decide +kernel
theorem dd_X12_sumOf_23 : decode cX12_sumOf 23 = .ok (.iinc 4 1, 3) := by decide +kernel
theorem dd_X12_sumOf_26 : decode cX12_sumOf 26 = .ok (.goto (-21), 3) := by decide +kernel
theorem dd_X12_sumOf_29 : decode cX12_sumOf 29 = .ok (.iload_n 3, 1) := by decide +kernel
theorem dd_X12_sumOf_30 : decode cX12_sumOf 30 = .ok (.ireturn, 1) := by decide +kernel
theorem dd_X12_take_0 : decode cX12_take 0 = .ok (.aload_n 0, 1) := by decide +kernel
theorem dd_X12_take_1 : decode cX12_take 1 = .ok (.getfield 11, 3) := by decide +kernel
theorem dd_X12_take_4 : decode cX12_take 4 = .ok (.istore_n 1, 1) := by decide +kernel
theorem dd_X12_take_5 : decode cX12_take 5 = .ok (.aload_n 0, 1) := by decide +kernel
theorem dd_X12_take_6 : decode cX12_take 6 = .ok (.iconst 0, 1) := by decide +kernel
theorem dd_X12_take_7 : decode cX12_take 7 = .ok (.putfield 11, 3) := by decide +kernel
theorem dd_X12_take_10 : decode cX12_take 10 = .ok (.iload_n 1, 1) := by decide +kernel
theorem dd_X12_take_11 : decode cX12_take 11 = .ok (.ireturn, 1) := by decide +kernel
theorem dd_X12_tax_0 : decode cX12_tax 0 = .ok (.aload_n 0, 1) := by decide +kernel
theorem dd_X12_tax_1 : decode cX12_tax 1 = .ok (.iconst 0, 1) := by decide +kernel
theorem dd_X12_tax_2 : decode cX12_tax 2 = .ok (.putfield 1, 3) := by decide +kernel
theorem dd_X12_tax_5 : decode cX12_tax 5 = .ok (.iload_n 1, 1) := by decide +kernel
theorem dd_X12_tax_6 : decode cX12_tax 6 = .ok (.iconst 0, 1) := by decide +kernel
theorem dd_X12_tax_7 : decode cX12_tax 7 = .ok (.sipush 200, 3) := by decide +kernel
theorem dd_X12_tax_10 : decode cX12_tax 10 = .ok (.invokestatic 75, 3) := by decide +kernel
theorem dd_X12_tax_13 : decode cX12_tax 13 = .ok (.ifCond .ne 5, 3) := by decide +kernel
theorem dd_X12_tax_16 : decode cX12_tax 16 = .ok (.iconst (-1), 1) := by decide +kernel
theorem dd_X12_tax_17 : decode cX12_tax 17 = .ok (.ireturn, 1) := by decide +kernel
theorem dd_X12_tax_18 : decode cX12_tax 18 = .ok (.iconst (-1), 1) := by decide +kernel
theorem dd_X12_tax_19 : decode cX12_tax 19 = .ok (.istore_n 2, 1) := by decide +kernel
theorem dd_X12_tax_20 : decode cX12_tax 20 = .ok (.bipush 121, 2) := by decide +kernel
theorem dd_X12_tax_22 : decode cX12_tax 22 = .ok (.istore_n 3, 1) := by decide +kernel
theorem dd_X12_tax_23 : decode cX12_tax 23 = .ok (.iload_n 3, 1) := by decide +kernel
theorem dd_X12_tax_24 : decode cX12_tax 24 = .ok (.bipush 120, 2) := by decide +kernel
theorem dd_X12_tax_26 : decode cX12_tax 26 = .ok (.if_icmp .le 40, 3) := by decide +kernel
theorem dd_X12_tax_29 : decode cX12_tax 29 = .ok (.iload_n 2, 1) := by decide +kernel
theorem dd_X12_tax_30 : decode cX12_tax 30 = .ok (.bipush 20, 2) := by decide +kernel
theorem dd_X12_tax_32 : decode cX12_tax 32 = .ok (.if_icmp .ge 34, 3) := by decide +kernel
theorem dd_X12_tax_35 : decode cX12_tax 35 = .ok (.iinc 2 1, 3) := by decide +kernel
theorem dd_X12_tax_38 : decode cX12_tax 38 = .ok (.aload_n 0, 1) := by decide +kernel
theorem dd_X12_tax_39 : decode cX12_tax 39 = .ok (.iload_n 2, 1) := by decide +kernel
theorem dd_X12_tax_40 : decode cX12_tax 40 = .ok (.invokevirtual 345, 3) := by decide +kernel
theorem dd_X12_tax_43 : decode cX12_tax 43 = .ok (.iload_n 1, 1) := by decide +kernel
theorem dd_X12_tax_44 : decode cX12_tax 44 = .ok (.istore_n 3, 1) := by decide +kernel
theorem dd_X12_tax_45 : decode cX12_tax 45 = .ok (.iload_n 3, 1) := by decide +kernel
theorem dd_X12_tax_46 : decode cX12_tax 46 = .ok (.bipush 120, 2) := by decide +kernel
theorem dd_X12_tax_48 : decode cX12_tax 48 = .ok (.if_icmp .gt (-25), 3) := by decide +kernel
theorem dd_X12_tax_51 : decode cX12_tax 51 = .ok (.aload_n 0, 1) := by decide +kernel
theorem dd_X12_tax_52 : decode cX12_tax 52 = .ok (.getfield 154, 3) := by decide +kernel
theorem dd_X12_tax_55 : decode cX12_tax 55 = .ok (.iload_n 3, 1) := by decide +kernel
theorem dd_X12_tax_56 : decode cX12_tax 56 = .ok (.baload, 1) := by decide +kernel
theorem dd_X12_tax_57 : decode cX12_tax 57 = .ok (.ifCond .ne (-34), 3) := by decide +kernel
theorem dd_X12_tax_60 : decode cX12_tax 60 = .ok (.iinc 3 1, 3) := by decide +kernel
theorem dd_X12_tax_63 : decode cX12_tax 63 = .ok (.goto (-18), 3) := by decide +kernel
theorem dd_X12_tax_66 : decode cX12_tax 66 = .ok (.iload_n 3, 1) := by decide +kernel
theorem dd_X12_tax_67 : decode cX12_tax 67 = .ok (.bipush 120, 2) := by decide +kernel
theorem dd_X12_tax_69 : decode cX12_tax 69 = .ok (.if_icmp .le 5, 3) := by decide +kernel
theorem dd_X12_tax_72 : decode cX12_tax 72 = .ok (.iconst (-1), 1) := by decide +kernel
theorem dd_X12_tax_73 : decode cX12_tax 73 = .ok (.ireturn, 1) := by decide +kernel
theorem dd_X12_tax_74 : decode cX12_tax 74 = .ok (.iload_n 3, 1) := by decide +kernel
theorem dd_X12_tax_75 : decode cX12_tax 75 = .ok (.istore 4, 2) := by decide +kernel
theorem dd_X12_tax_77 : decode cX12_tax 77 = .ok (.iconst 0, 1) := by decide +kernel
theorem dd_X12_tax_78 : decode cX12_tax 78 = .ok (.istore 5, 2) := by decide +kernel
theorem dd_X12_tax_80 : decode cX12_tax 80 = .ok (.iload 5, 2) := by decide +kernel
theorem dd_X12_tax_82 : decode cX12_tax 82 = .ok (.bipush 6, 2) := by decide +kernel
theorem dd_X12_tax_84 : decode cX12_tax 84 = .ok (.if_icmp .ge 17, 3) := by decide +kernel
theorem dd_X12_tax_87 : decode cX12_tax 87 = .ok (.aload_n 0, 1) := by decide +kernel
theorem dd_X12_tax_88 : decode cX12_tax 88 = .ok (.getfield 157, 3) := by decide +kernel
theorem dd_X12_tax_91 : decode cX12_tax 91 = .ok (.iload 5, 2) := by decide +kernel
theorem dd_X12_tax_93 : decode cX12_tax 93 = .ok (.iconst (-1), 1) := by decide +kernel
theorem dd_X12_tax_94 : decode cX12_tax 94 = .ok (.iastore, 1) := by decide +kernel
theorem dd_X12_tax_95 : decode cX12_tax 95 = .ok (.iinc 5 1, 3) := by decide +kernel
theorem dd_X12_tax_98 : decode cX12_tax 98 = .ok (.goto (-18), 3) := by decide +kernel
theorem dd_X12_tax_101 : decode cX12_tax 101 = .ok (.iconst 0, 1) := by decide +kernel
theorem dd_X12_tax_102 : decode cX12_tax 102 = .ok (.istore 5, 2) := by decide +kernel
theorem dd_X12_tax_104 : decode cX12_tax 104 = .ok (.iload 5, 2) := by decide +kernel
theorem dd_X12_tax_106 : decode cX12_tax 106 = .ok (.aload_n 0, 1) := by decide +kernel
theorem dd_X12_tax_107 : decode cX12_tax 107 = .ok (.getfield 98, 3) := by decide +kernel
theorem dd_X12_tax_110 : decode cX12_tax 110 = .ok (.iconst 0, 1) := by decide +kernel
theorem dd_X12_tax_111 : decode cX12_tax 111 = .ok (.iaload, 1) := by decide +kernel
theorem dd_X12_tax_112 : decode cX12_tax 112 = .ok (.if_icmp .ge 117, 3) := by decide +kernel
theorem dd_X12_tax_229 : decode cX12_tax 229 = .ok (.aload_n 0, 1) := by decide +kernel
theorem dd_X12_tax_230 : decode cX12_tax 230 = .ok (.iconst 1, 1) := by decide +kernel
theorem dd_X12_tax_231 : decode cX12_tax 231 = .ok (.putfield 348, 3) := by decide +kernel
theorem dd_X12_tax_234 : decode cX12_tax 234 = .ok (.iload_n 2, 1) := by decide +kernel
theorem dd_X12_tax_235 : decode cX12_tax 235 = .ok (.ireturn, 1) := by decide +kernel
theorem dd_X12_taxOf_0 : decode cX12_taxOf 0 = .ok (.aload_n 0, 1) := by decide +kernel
theorem dd_X12_taxOf_1 : decode cX12_taxOf 1 = .ok (.iconst 0, 1) := by decide +kernel
theorem dd_X12_taxOf_2 : decode cX12_taxOf 2 = .ok (.putfield 1, 3) := by decide +kernel
theorem dd_X12_taxOf_5 : decode cX12_taxOf 5 = .ok (.aload_n 0, 1) := by decide +kernel
theorem dd_X12_taxOf_6 : decode cX12_taxOf 6 = .ok (.getfield 348, 3) := by decide +kernel
theorem dd_X12_taxOf_9 : decode cX12_taxOf 9 = .ok (.ifCond .eq 21, 3) := by decide +kernel
theorem dd_X12_taxOf_30 : decode cX12_taxOf 30 = .ok (.iconst (-1), 1) := by decide +kernel
theorem dd_X12_taxOf_31 : decode cX12_taxOf 31 = .ok (.ireturn, 1) := by decide +kernel
theorem dd_X12_tells_0 : decode cX12_tells 0 = .ok (.aload_n 0, 1) := by decide +kernel
theorem dd_X12_tells_1 : decode cX12_tells 1 = .ok (.iconst 0, 1) := by decide +kernel
theorem dd_X12_tells_2 : decode cX12_tells 2 = .ok (.putfield 1, 3) := by decide +kernel
theorem dd_X12_tells_5 : decode cX12_tells 5 = .ok (.aload_n 0, 1) := by decide +kernel
theorem dd_X12_tells_6 : decode cX12_tells 6 = .ok (.getfield 145, 3) := by decide +kernel
theorem dd_X12_tells_9 : decode cX12_tells 9 = .ok (.ireturn, 1) := by decide +kernel
theorem dd_X12_times_0 : decode cX12_times 0 = .ok (.aload_n 0, 1) := by decide +kernel
theorem dd_X12_times_1 : decode cX12_times 1 = .ok (.iconst 0, 1) := by decide +kernel
theorem dd_X12_times_2 : decode cX12_times 2 = .ok (.putfield 1, 3) := by decide +kernel
theorem dd_X12_times_5 : decode cX12_times 5 = .ok (.aload_n 0, 1) := by decide +kernel
theorem dd_X12_times_6 : decode cX12_times 6 = .ok (.iload_n 1, 1) := by decide +kernel
theorem dd_X12_times_7 : decode cX12_times 7 = .ok (.invokevirtual 251, 3) := by decide +kernel
theorem dd_X12_times_10 : decode cX12_times 10 = .ok (.ifCond .eq 20, 3) := by decide +kernel
theorem dd_X12_times_30 : decode cX12_times 30 = .ok (.iconst (-1), 1) := by decide +kernel
theorem dd_X12_times_31 : decode cX12_times 31 = .ok (.ireturn, 1) := by decide +kernel
theorem dd_X12_told_0 : decode cX12_told 0 = .ok (.aload_n 0, 1) := by decide +kernel
theorem dd_X12_told_1 : decode cX12_told 1 = .ok (.iconst 0, 1) := by decide +kernel
theorem dd_X12_told_2 : decode cX12_told 2 = .ok (.putfield 1, 3) := by decide +kernel
theorem dd_X12_told_5 : decode cX12_told 5 = .ok (.aload_n 0, 1) := by decide +kernel
theorem dd_X12_told_6 : decode cX12_told 6 = .ok (.getfield 404, 3) := by decide +kernel
theorem dd_X12_told_9 : decode cX12_told 9 = .ok (.ifCond .eq 21, 3) := by decide +kernel
theorem dd_X12_told_30 : decode cX12_told 30 = .ok (.iconst (-1), 1) := by decide +kernel
theorem dd_X12_told_31 : decode cX12_told 31 = .ok (.ireturn, 1) := by decide +kernel
theorem dd_X12_undo_0 : decode cX12_undo 0 = .ok (.aload_n 0, 1) := by decide +kernel
theorem dd_X12_undo_1 : decode cX12_undo 1 = .ok (.iconst 0, 1) := by decide +kernel
theorem dd_X12_undo_2 : decode cX12_undo 2 = .ok (.putfield 1, 3) := by decide +kernel
theorem dd_X12_undo_5 : decode cX12_undo 5 = .ok (.aload_n 0, 1) := by decide +kernel
theorem dd_X12_undo_6 : decode cX12_undo 6 = .ok (.getfield 234, 3) := by decide +kernel
theorem dd_X12_undo_9 : decode cX12_undo 9 = .ok (.ifCond .ne 5, 3) := by decide +kernel
theorem dd_X12_undo_12 : decode cX12_undo 12 = .ok (.iconst (-1), 1) := by decide +kernel
theorem dd_X12_undo_13 : decode cX12_undo 13 = .ok (.ireturn, 1) := by decide +kernel
theorem dd_X12_weeks_0 : decode cX12_weeks 0 = .ok (.aload_n 0, 1) := by decide +kernel
theorem dd_X12_weeks_1 : decode cX12_weeks 1 = .ok (.iconst 0, 1) := by decide +kernel
theorem dd_X12_weeks_2 : decode cX12_weeks 2 = .ok (.putfield 1, 3) := by decide +kernel
theorem dd_X12_weeks_5 : decode cX12_weeks 5 = .ok (.iload_n 1, 1) := by decide +kernel
theorem dd_X12_weeks_6 : decode cX12_weeks 6 = .ok (.iconst 1, 1) := by decide +kernel
theorem dd_X12_weeks_7 : decode cX12_weeks 7 = .ok (.bipush 60, 2) := by decide +kernel
theorem dd_X12_weeks_9 : decode cX12_weeks 9 = .ok (.invokestatic 75, 3) := by decide +kernel
theorem dd_X12_weeks_12 : decode cX12_weeks 12 = .ok (.ifCond .ne 5, 3) := by decide +kernel
theorem dd_X12_weeks_15 : decode cX12_weeks 15 = .ok (.iconst (-1), 1) := by decide +kernel
theorem dd_X12_weeks_16 : decode cX12_weeks 16 = .ok (.ireturn, 1) := by decide +kernel
theorem dd_X12_weeks_17 : decode cX12_weeks 17 = .ok (.aload_n 0, 1) := by decide +kernel
theorem dd_X12_weeks_18 : decode cX12_weeks 18 = .ok (.getfield 98, 3) := by decide +kernel
theorem dd_X12_weeks_21 : decode cX12_weeks 21 = .ok (.bipush 101, 2) := by decide +kernel
theorem dd_X12_weeks_23 : decode cX12_weeks 23 = .ok (.iaload, 1) := by decide +kernel
theorem dd_X12_weeks_24 : decode cX12_weeks 24 = .ok (.sipush 200, 3) := by decide +kernel
theorem dd_X12_weeks_27 : decode cX12_weeks 27 = .ok (.if_icmp .ne 5, 3) := by decide +kernel
theorem dd_X12_weeks_32 : decode cX12_weeks 32 = .ok (.aload_n 0, 1) := by decide +kernel
theorem dd_X12_weeks_33 : decode cX12_weeks 33 = .ok (.invokevirtual 301, 3) := by decide +kernel
theorem dd_X12_weeks_36 : decode cX12_weeks 36 = .ok (.aload_n 0, 1) := by decide +kernel
theorem dd_X12_weeks_37 : decode cX12_weeks 37 = .ok (.iload_n 1, 1) := by decide +kernel
theorem dd_X12_weeks_38 : decode cX12_weeks 38 = .ok (.invokevirtual 314, 3) := by decide +kernel
theorem dd_X12_weeks_41 : decode cX12_weeks 41 = .ok (.ireturn, 1) := by decide +kernel
theorem dd_X12_worth_0 : decode cX12_worth 0 = .ok (.aload_n 0, 1) := by decide +kernel
theorem dd_X12_worth_1 : decode cX12_worth 1 = .ok (.iconst 0, 1) := by decide +kernel
theorem dd_X12_worth_2 : decode cX12_worth 2 = .ok (.putfield 1, 3) := by decide +kernel
theorem dd_X12_worth_5 : decode cX12_worth 5 = .ok (.aload_n 0, 1) := by decide +kernel
theorem dd_X12_worth_6 : decode cX12_worth 6 = .ok (.iload_n 1, 1) := by decide +kernel
theorem dd_X12_worth_7 : decode cX12_worth 7 = .ok (.invokevirtual 251, 3) := by decide +kernel
theorem dd_X12_worth_10 : decode cX12_worth 10 = .ok (.ifCond .eq 26, 3) := by decide +kernel
theorem dd_X12_worth_36 : decode cX12_worth 36 = .ok (.iconst (-1), 1) := by decide +kernel
theorem dd_X12_worth_37 : decode cX12_worth 37 = .ok (.ireturn, 1) := by decide +kernel
theorem dd_X1_init_0 : decode cX1_init 0 = .ok (.aload_n 0, 1) := by decide +kernel
theorem dd_X1_init_1 : decode cX1_init 1 = .ok (.invokespecial 3, 3) := by decide +kernel
theorem dd_X1_init_4 : decode cX1_init 4 = .ok (.aload_n 0, 1) := by decide +kernel
theorem dd_X1_init_5 : decode cX1_init 5 = .ok (.sipush 160, 3) := by decide +kernel
theorem dd_X1_init_8 : decode cX1_init 8 = .ok (.newarray .int, 2) := by decide +kernel
theorem dd_X1_init_10 : decode cX1_init 10 = .ok (.putfield 11, 3) := by decide +kernel
theorem dd_X1_init_13 : decode cX1_init 13 = .ok (.aload_n 0, 1) := by decide +kernel
theorem dd_X1_init_14 : decode cX1_init 14 = .ok (.iconst 4, 1) := by decide +kernel
theorem dd_X1_init_15 : decode cX1_init 15 = .ok (.newarray .int, 2) := by decide +kernel
theorem dd_X1_init_17 : decode cX1_init 17 = .ok (.putfield 15, 3) := by decide +kernel
theorem dd_X1_init_20 : decode cX1_init 20 = .ok (.return_, 1) := by decide +kernel
theorem dd_X1_live_0 : decode cX1_live 0 = .ok (.iconst 0, 1) := by decide +kernel
theorem dd_X1_live_1 : decode cX1_live 1 = .ok (.istore_n 3, 1) := by decide +kernel
theorem dd_X1_live_2 : decode cX1_live 2 = .ok (.iconst 0, 1) := by decide +kernel
theorem dd_X1_live_3 : decode cX1_live 3 = .ok (.istore 4, 2) := by decide +kernel
theorem dd_X1_live_5 : decode cX1_live 5 = .ok (.iconst 0, 1) := by decide +kernel
theorem dd_X1_live_6 : decode cX1_live 6 = .ok (.istore 5, 2) := by decide +kernel
theorem dd_X1_live_8 : decode cX1_live 8 = .ok (.iload 5, 2) := by decide +kernel
theorem dd_X1_live_10 : decode cX1_live 10 = .ok (.aload_n 0, 1) := by decide +kernel
theorem dd_X1_live_11 : decode cX1_live 11 = .ok (.getfield 18, 3) := by decide +kernel
theorem dd_X1_live_14 : decode cX1_live 14 = .ok (.if_icmp .ge 116, 3) := by decide +kernel
theorem dd_X1_live_130 : decode cX1_live 130 = .ok (.aload_n 0, 1) := by decide +kernel
theorem dd_X1_live_131 : decode cX1_live 131 = .ok (.getfield 15, 3) := by decide +kernel
theorem dd_X1_live_134 : decode cX1_live 134 = .ok (.iconst 0, 1) := by decide +kernel
theorem dd_X1_live_135 : decode cX1_live 135 = .ok (.iload_n 3, 1) := by decide +kernel
theorem dd_X1_live_136 : decode cX1_live 136 = .ok (.iastore, 1) := by decide +kernel
theorem dd_X1_live_137 : decode cX1_live 137 = .ok (.aload_n 0, 1) := by decide +kernel
theorem dd_X1_live_138 : decode cX1_live 138 = .ok (.getfield 15, 3) := by decide +kernel
theorem dd_X1_live_141 : decode cX1_live 141 = .ok (.iconst 1, 1) := by decide +kernel
theorem dd_X1_live_142 : decode cX1_live 142 = .ok (.iload 4, 2) := by decide +kernel
theorem dd_X1_live_144 : decode cX1_live 144 = .ok (.iastore, 1) := by decide +kernel
theorem dd_X1_live_145 : decode cX1_live 145 = .ok (.aload_n 0, 1) := by decide +kernel
theorem dd_X1_live_146 : decode cX1_live 146 = .ok (.getfield 15, 3) := by decide +kernel
theorem dd_X1_live_149 : decode cX1_live 149 = .ok (.iconst 2, 1) := by decide +kernel
theorem dd_X1_live_150 : decode cX1_live 150 = .ok (.aload_n 2, 1) := by decide +kernel
theorem dd_X1_live_151 : decode cX1_live 151 = .ok (.getfield 80, 3) := by decide +kernel
theorem dd_X1_live_154 : decode cX1_live 154 = .ok (.iastore, 1) := by decide +kernel
theorem dd_X1_live_155 : decode cX1_live 155 = .ok (.aload_n 0, 1) := by decide +kernel
theorem dd_X1_live_156 : decode cX1_live 156 = .ok (.getfield 15, 3) := by decide +kernel
theorem dd_X1_live_159 : decode cX1_live 159 = .ok (.iconst 3, 1) := by decide +kernel
theorem dd_X1_live_160 : decode cX1_live 160 = .ok (.aload_n 2, 1) := by decide +kernel
theorem dd_X1_live_161 : decode cX1_live 161 = .ok (.invokevirtual 85, 3) := by decide +kernel
theorem dd_X1_live_164 : decode cX1_live 164 = .ok (.iastore, 1) := by decide +kernel
theorem dd_X1_live_165 : decode cX1_live 165 = .ok (.aload_n 0, 1) := by decide +kernel
theorem dd_X1_live_166 : decode cX1_live 166 = .ok (.iconst 4, 1) := by decide +kernel
theorem dd_X1_live_167 : decode cX1_live 167 = .ok (.putfield 89, 3) := by decide +kernel
theorem dd_X1_live_170 : decode cX1_live 170 = .ok (.iload_n 3, 1) := by decide +kernel
theorem dd_X1_live_171 : decode cX1_live 171 = .ok (.ifCond .ne 7, 3) := by decide +kernel
theorem dd_X1_live_174 : decode cX1_live 174 = .ok (.iconst (-1), 1) := by decide +kernel
theorem dd_X1_live_175 : decode cX1_live 175 = .ok (.goto 5, 3) := by decide +kernel
theorem dd_X1_live_180 : decode cX1_live 180 = .ok (.ireturn, 1) := by decide +kernel
theorem dd_X1_readLines_0 : decode cX1_readLines 0 = .ok (.aload_n 0, 1) := by decide +kernel
theorem dd_X1_readLines_1 : decode cX1_readLines 1 = .ok (.iconst 0, 1) := by decide +kernel
theorem dd_X1_readLines_2 : decode cX1_readLines 2 = .ok (.putfield 18, 3) := by decide +kernel
theorem dd_X1_readLines_5 : decode cX1_readLines 5 = .ok (.iconst 0, 1) := by decide +kernel
theorem dd_X1_readLines_6 : decode cX1_readLines 6 = .ok (.istore_n 3, 1) := by decide +kernel
theorem dd_X1_readLines_7 : decode cX1_readLines 7 = .ok (.iload_n 3, 1) := by decide +kernel
theorem dd_X1_readLines_8 : decode cX1_readLines 8 = .ok (.bipush 40, 2) := by decide +kernel
theorem dd_X1_readLines_10 : decode cX1_readLines 10 = .ok (.if_icmp .gt 51, 3) := by decide +kernel
theorem dd_X1_readLines_13 : decode cX1_readLines 13 = .ok (.aload_n 1, 1) := by decide +kernel
theorem dd_X1_readLines_14 : decode cX1_readLines 14 = .ok (.getfield 22, 3) := by decide +kernel
theorem dd_X1_readLines_17 : decode cX1_readLines 17 = .ok (.ifCond .ne 44, 3) := by decide +kernel
theorem dd_X1_readLines_20 : decode cX1_readLines 20 = .ok (.aload_n 1, 1) := by decide +kernel
theorem dd_X1_readLines_21 : decode cX1_readLines 21 = .ok (.getfield 27, 3) := by decide +kernel
theorem dd_X1_readLines_24 : decode cX1_readLines 24 = .ok (.ifCond .eq 37, 3) := by decide +kernel
theorem dd_X1_readLines_61 : decode cX1_readLines 61 = .ok (.aload_n 1, 1) := by decide +kernel
theorem dd_X1_readLines_62 : decode cX1_readLines 62 = .ok (.getfield 22, 3) := by decide +kernel
theorem dd_X1_readLines_65 : decode cX1_readLines 65 = .ok (.ifCond .ne 7, 3) := by decide +kernel
theorem dd_X1_readLines_68 : decode cX1_readLines 68 = .ok (.iconst 1, 1) := by decide +kernel
theorem dd_X1_readLines_69 : decode cX1_readLines 69 = .ok (.goto 4, 3) := by decide +kernel
theorem dd_X1_readLines_73 : decode cX1_readLines 73 = .ok (.ireturn, 1) := by decide +kernel
theorem dd_X2_clear_0 : decode cX2_clear 0 = .ok (.aload_n 0, 1) := by decide +kernel
theorem dd_X2_clear_1 : decode cX2_clear 1 = .ok (.getfield 11, 3) := by decide +kernel
theorem dd_X2_clear_4 : decode cX2_clear 4 = .ok (.iconst 0, 1) := by decide +kernel
theorem dd_X2_clear_5 : decode cX2_clear 5 = .ok (.invokestatic 98, 3) := by decide +kernel
theorem dd_X2_clear_8 : decode cX2_clear 8 = .ok (.aload_n 0, 1) := by decide +kernel
theorem dd_X2_clear_9 : decode cX2_clear 9 = .ok (.getfield 25, 3) := by decide +kernel
theorem dd_X2_clear_12 : decode cX2_clear 12 = .ok (.iconst (-1), 1) := by decide +kernel
theorem dd_X2_clear_13 : decode cX2_clear 13 = .ok (.invokestatic 98, 3) := by decide +kernel
theorem dd_X2_clear_16 : decode cX2_clear 16 = .ok (.aload_n 0, 1) := by decide +kernel
theorem dd_X2_clear_17 : decode cX2_clear 17 = .ok (.iconst (-1), 1) := by decide +kernel
theorem dd_X2_clear_18 : decode cX2_clear 18 = .ok (.putfield 45, 3) := by decide +kernel
theorem dd_X2_clear_21 : decode cX2_clear 21 = .ok (.aload_n 0, 1) := by decide +kernel
theorem dd_X2_clear_22 : decode cX2_clear 22 = .ok (.iconst (-1), 1) := by decide +kernel
theorem dd_X2_clear_23 : decode cX2_clear 23 = .ok (.putfield 49, 3) := by decide +kernel
theorem dd_X2_clear_26 : decode cX2_clear 26 = .ok (.aload_n 0, 1) := by decide +kernel
theorem dd_X2_clear_27 : decode cX2_clear 27 = .ok (.getfield 34, 3) := by decide +kernel
theorem dd_X2_clear_30 : decode cX2_clear 30 = .ok (.invokevirtual 104, 3) := by decide +kernel
theorem dd_X2_clear_33 : decode cX2_clear 33 = .ok (.aload_n 0, 1) := by decide +kernel
theorem dd_X2_clear_34 : decode cX2_clear 34 = .ok (.getfield 41, 3) := by decide +kernel
theorem dd_X2_clear_37 : decode cX2_clear 37 = .ok (.invokevirtual 105, 3) := by decide +kernel
theorem dd_X2_clear_40 : decode cX2_clear 40 = .ok (.return_, 1) := by decide +kernel
theorem dd_X2_fillWhatWasNotTold_0 : decode cX2_fillWhatWasNotTold 0 = .ok (.aload_n 0, 1) := by decide +kernel
theorem dd_X2_fillWhatWasNotTold_1 : decode cX2_fillWhatWasNotTold 1 = .ok (.aload_n 0, 1) := by decide +kernel
theorem dd_X2_fillWhatWasNotTold_2 : decode cX2_fillWhatWasNotTold 2 = .ok (.getfield 45, 3) := by decide +kernel
theorem dd_X2_fillWhatWasNotTold_5 : decode cX2_fillWhatWasNotTold 5 = .ok (.iconst (-1), 1) := by decide +kernel
theorem dd_X2_fillWhatWasNotTold_6 : decode cX2_fillWhatWasNotTold 6 = .ok (.if_icmp .ne 7, 3) := by decide +kernel
theorem dd_X2_fillWhatWasNotTold_9 : decode cX2_fillWhatWasNotTold 9 = .ok (.iconst 1, 1) := by decide +kernel
theorem dd_X2_fillWhatWasNotTold_10 : decode cX2_fillWhatWasNotTold 10 = .ok (.goto 7, 3) := by decide +kernel
theorem dd_X2_fillWhatWasNotTold_17 : decode cX2_fillWhatWasNotTold 17 = .ok (.putfield 45, 3) := by decide +kernel
theorem dd_X2_fillWhatWasNotTold_20 : decode cX2_fillWhatWasNotTold 20 = .ok (.aload_n 0, 1) := by decide +kernel
theorem dd_X2_fillWhatWasNotTold_21 : decode cX2_fillWhatWasNotTold 21 = .ok (.aload_n 0, 1) := by decide +kernel
theorem dd_X2_fillWhatWasNotTold_22 : decode cX2_fillWhatWasNotTold 22 = .ok (.getfield 49, 3) := by decide +kernel
theorem dd_X2_fillWhatWasNotTold_25 : decode cX2_fillWhatWasNotTold 25 = .ok (.iconst (-1), 1) := by decide +kernel
theorem dd_X2_fillWhatWasNotTold_26 : decode cX2_fillWhatWasNotTold 26 = .ok (.if_icmp .ne 7, 3) := by decide +kernel
theorem dd_X2_fillWhatWasNotTold_29 : decode cX2_fillWhatWasNotTold 29 = .ok (.iconst 1, 1) := by decide +kernel
theorem dd_X2_fillWhatWasNotTold_30 : decode cX2_fillWhatWasNotTold 30 = .ok (.goto 7, 3) := by decide +kernel
theorem dd_X2_fillWhatWasNotTold_37 : decode cX2_fillWhatWasNotTold 37 = .ok (.putfield 49, 3) := by decide +kernel
theorem dd_X2_fillWhatWasNotTold_40 : decode cX2_fillWhatWasNotTold 40 = .ok (.iconst 0, 1) := by decide +kernel
theorem dd_X2_fillWhatWasNotTold_41 : decode cX2_fillWhatWasNotTold 41 = .ok (.istore_n 1, 1) := by decide +kernel
theorem dd_X2_fillWhatWasNotTold_42 : decode cX2_fillWhatWasNotTold 42 = .ok (.iload_n 1, 1) := by decide +kernel
theorem dd_X2_fillWhatWasNotTold_43 : decode cX2_fillWhatWasNotTold 43 = .ok (.bipush 36, 2) := by decide +kernel
theorem dd_X2_fillWhatWasNotTold_45 : decode cX2_fillWhatWasNotTold 45 = .ok (.if_icmp .ge 49, 3) := by decide +kernel
theorem dd_X2_fillWhatWasNotTold_48 : decode cX2_fillWhatWasNotTold 48 = .ok (.aload_n 0, 1) := by decide +kernel
theorem dd_X2_fillWhatWasNotTold_49 : decode cX2_fillWhatWasNotTold 49 = .ok (.getfield 25, 3) := by decide +kernel
theorem dd_X2_fillWhatWasNotTold_52 : decode cX2_fillWhatWasNotTold 52 = .ok (.iload_n 1, 1) := by decide +kernel
theorem dd_X2_fillWhatWasNotTold_53 : decode cX2_fillWhatWasNotTold 53 = .ok (.iaload, 1) := by decide +kernel
theorem dd_X2_fillWhatWasNotTold_54 : decode cX2_fillWhatWasNotTold 54 = .ok (.iconst (-1), 1) := by decide +kernel
theorem dd_X2_fillWhatWasNotTold_55 : decode cX2_fillWhatWasNotTold 55 = .ok (.if_icmp .ne 33, 3) := by decide +kernel
theorem dd_X2_fillWhatWasNotTold_58 : decode cX2_fillWhatWasNotTold 58 = .ok (.aload_n 0, 1) := by decide +kernel
theorem dd_X2_fillWhatWasNotTold_59 : decode cX2_fillWhatWasNotTold 59 = .ok (.getfield 25, 3) := by decide +kernel
theorem dd_X2_fillWhatWasNotTold_62 : decode cX2_fillWhatWasNotTold 62 = .ok (.iload_n 1, 1) := by decide +kernel
theorem dd_X2_fillWhatWasNotTold_63 : decode cX2_fillWhatWasNotTold 63 = .ok (.iload_n 1, 1) := by decide +kernel
theorem dd_X2_fillWhatWasNotTold_64 : decode cX2_fillWhatWasNotTold 64 = .ok (.bipush 6, 2) := by decide +kernel
theorem dd_X2_fillWhatWasNotTold_66 : decode cX2_fillWhatWasNotTold 66 = .ok (.irem, 1) := by decide +kernel
theorem dd_X2_fillWhatWasNotTold_67 : decode cX2_fillWhatWasNotTold 67 = .ok (.aload_n 0, 1) := by decide +kernel
theorem dd_X2_fillWhatWasNotTold_68 : decode cX2_fillWhatWasNotTold 68 = .ok (.invokevirtual 106, 3) := by decide +kernel
theorem dd_X2_fillWhatWasNotTold_71 : decode cX2_fillWhatWasNotTold 71 = .ok (.if_icmp .ge 15, 3) := by decide +kernel
theorem dd_X2_fillWhatWasNotTold_86 : decode cX2_fillWhatWasNotTold 86 = .ok (.iconst 0, 1) := by decide +kernel
theorem dd_X2_fillWhatWasNotTold_87 : decode cX2_fillWhatWasNotTold 87 = .ok (.iastore, 1) := by decide +kernel
theorem dd_X2_fillWhatWasNotTold_88 : decode cX2_fillWhatWasNotTold 88 = .ok (.iinc 1 1, 3) := by decide +kernel
end
section
theorem dd_X2_fillWhatWasNotTold_91 : decode cX2_fillWhatWasNotTold 91 = .ok (.goto (-49), 3) := by decide +kernel
theorem dd_X2_fillWhatWasNotTold_94 : decode cX2_fillWhatWasNotTold 94 = .ok (.return_, 1) := by decide +kernel
theorem dd_X2_forfeits_0 : decode cX2_forfeits 0 = .ok (.aload_n 0, 1) := by decide +kernel
theorem dd_X2_forfeits_1 : decode cX2_forfeits 1 = .ok (.getfield 11, 3) := by decide +kernel
theorem dd_X2_forfeits_4 : decode cX2_forfeits 4 = .ok (.iconst 1, 1) := by decide +kernel
theorem dd_X2_forfeits_5 : decode cX2_forfeits 5 = .ok (.iaload, 1) := by decide +kernel
theorem dd_X2_forfeits_6 : decode cX2_forfeits 6 = .ok (.ireturn, 1) := by decide +kernel
theorem dd_X2_goods_0 : decode cX2_goods 0 = .ok (.aload_n 0, 1) := by decide +kernel
theorem dd_X2_goods_1 : decode cX2_goods 1 = .ok (.getfield 11, 3) := by decide +kernel
theorem dd_X2_goods_4 : decode cX2_goods 4 = .ok (.iconst 2, 1) := by decide +kernel
theorem dd_X2_goods_5 : decode cX2_goods 5 = .ok (.iaload, 1) := by decide +kernel
theorem dd_X2_goods_6 : decode cX2_goods 6 = .ok (.ireturn, 1) := by decide +kernel
theorem dd_X2_has_0 : decode cX2_has 0 = .ok (.iload_n 2, 1) := by decide +kernel
theorem dd_X2_has_1 : decode cX2_has 1 = .ok (.ifCond .lt 17, 3) := by decide +kernel
theorem dd_X2_has_4 : decode cX2_has 4 = .ok (.iload_n 2, 1) := by decide +kernel
theorem dd_X2_has_5 : decode cX2_has 5 = .ok (.aload_n 0, 1) := by decide +kernel
theorem dd_X2_has_6 : decode cX2_has 6 = .ok (.getfield 11, 3) := by decide +kernel
theorem dd_X2_has_9 : decode cX2_has 9 = .ok (.iload_n 1, 1) := by decide +kernel
theorem dd_X2_has_10 : decode cX2_has 10 = .ok (.iaload, 1) := by decide +kernel
theorem dd_X2_has_11 : decode cX2_has 11 = .ok (.if_icmp .ge 7, 3) := by decide +kernel
theorem dd_X2_has_18 : decode cX2_has 18 = .ok (.iconst 0, 1) := by decide +kernel
theorem dd_X2_has_19 : decode cX2_has 19 = .ok (.ireturn, 1) := by decide +kernel
theorem dd_X2_init_0 : decode cX2_init 0 = .ok (.aload_n 0, 1) := by decide +kernel
theorem dd_X2_init_1 : decode cX2_init 1 = .ok (.invokespecial 3, 3) := by decide +kernel
theorem dd_X2_init_4 : decode cX2_init 4 = .ok (.aload_n 0, 1) := by decide +kernel
theorem dd_X2_init_5 : decode cX2_init 5 = .ok (.iconst 3, 1) := by decide +kernel
theorem dd_X2_init_6 : decode cX2_init 6 = .ok (.newarray .int, 2) := by decide +kernel
theorem dd_X2_init_8 : decode cX2_init 8 = .ok (.putfield 11, 3) := by decide +kernel
theorem dd_X2_init_11 : decode cX2_init 11 = .ok (.aload_n 0, 1) := by decide +kernel
theorem dd_X2_init_12 : decode cX2_init 12 = .ok (.bipush 18, 2) := by decide +kernel
theorem dd_X2_init_14 : decode cX2_init 14 = .ok (.newarray .long, 2) := by decide +kernel
theorem dd_X2_init_16 : decode cX2_init 16 = .ok (.putfield 15, 3) := by decide +kernel
theorem dd_X2_init_19 : decode cX2_init 19 = .ok (.aload_n 0, 1) := by decide +kernel
theorem dd_X2_init_20 : decode cX2_init 20 = .ok (.bipush 6, 2) := by decide +kernel
theorem dd_X2_init_22 : decode cX2_init 22 = .ok (.newarray .int, 2) := by decide +kernel
theorem dd_X2_init_24 : decode cX2_init 24 = .ok (.putfield 19, 3) := by decide +kernel
theorem dd_X2_init_27 : decode cX2_init 27 = .ok (.aload_n 0, 1) := by decide +kernel
theorem dd_X2_init_28 : decode cX2_init 28 = .ok (.bipush 6, 2) := by decide +kernel
theorem dd_X2_init_30 : decode cX2_init 30 = .ok (.newarray .int, 2) := by decide +kernel
theorem dd_X2_init_32 : decode cX2_init 32 = .ok (.putfield 22, 3) := by decide +kernel
theorem dd_X2_init_35 : decode cX2_init 35 = .ok (.aload_n 0, 1) := by decide +kernel
theorem dd_X2_init_36 : decode cX2_init 36 = .ok (.bipush 36, 2) := by decide +kernel
theorem dd_X2_init_38 : decode cX2_init 38 = .ok (.newarray .int, 2) := by decide +kernel
theorem dd_X2_init_40 : decode cX2_init 40 = .ok (.putfield 25, 3) := by decide +kernel
theorem dd_X2_init_43 : decode cX2_init 43 = .ok (.aload_n 0, 1) := by decide +kernel
theorem dd_X2_init_44 : decode cX2_init 44 = .ok (.bipush 6, 2) := by decide +kernel
theorem dd_X2_init_46 : decode cX2_init 46 = .ok (.newarray .int, 2) := by decide +kernel
theorem dd_X2_init_48 : decode cX2_init 48 = .ok (.putfield 28, 3) := by decide +kernel
theorem dd_X2_init_51 : decode cX2_init 51 = .ok (.aload_n 0, 1) := by decide +kernel
theorem dd_X2_init_52 : decode cX2_init 52 = .ok (.new 31, 3) := by decide +kernel
theorem dd_X2_init_55 : decode cX2_init 55 = .ok (.dup, 1) := by decide +kernel
theorem dd_X2_init_56 : decode cX2_init 56 = .ok (.invokespecial 33, 3) := by decide +kernel
theorem dd_X2_init_59 : decode cX2_init 59 = .ok (.putfield 34, 3) := by decide +kernel
theorem dd_X2_init_62 : decode cX2_init 62 = .ok (.aload_n 0, 1) := by decide +kernel
theorem dd_X2_init_63 : decode cX2_init 63 = .ok (.new 38, 3) := by decide +kernel
theorem dd_X2_init_66 : decode cX2_init 66 = .ok (.dup, 1) := by decide +kernel
theorem dd_X2_init_67 : decode cX2_init 67 = .ok (.invokespecial 40, 3) := by decide +kernel
theorem dd_X2_init_70 : decode cX2_init 70 = .ok (.putfield 41, 3) := by decide +kernel
theorem dd_X2_init_73 : decode cX2_init 73 = .ok (.aload_n 0, 1) := by decide +kernel
theorem dd_X2_init_74 : decode cX2_init 74 = .ok (.iconst 1, 1) := by decide +kernel
theorem dd_X2_init_75 : decode cX2_init 75 = .ok (.putfield 45, 3) := by decide +kernel
theorem dd_X2_init_78 : decode cX2_init 78 = .ok (.aload_n 0, 1) := by decide +kernel
theorem dd_X2_init_79 : decode cX2_init 79 = .ok (.iconst 1, 1) := by decide +kernel
theorem dd_X2_init_80 : decode cX2_init 80 = .ok (.putfield 49, 3) := by decide +kernel
theorem dd_X2_init_83 : decode cX2_init 83 = .ok (.return_, 1) := by decide +kernel
theorem dd_X2_men_0 : decode cX2_men 0 = .ok (.aload_n 0, 1) := by decide +kernel
theorem dd_X2_men_1 : decode cX2_men 1 = .ok (.getfield 11, 3) := by decide +kernel
theorem dd_X2_men_4 : decode cX2_men 4 = .ok (.iconst 0, 1) := by decide +kernel
theorem dd_X2_men_5 : decode cX2_men 5 = .ok (.iaload, 1) := by decide +kernel
theorem dd_X2_men_6 : decode cX2_men 6 = .ok (.ireturn, 1) := by decide +kernel
theorem dd_X2_readLines_0 : decode cX2_readLines 0 = .ok (.aload_n 0, 1) := by decide +kernel
theorem dd_X2_readLines_1 : decode cX2_readLines 1 = .ok (.invokevirtual 76, 3) := by decide +kernel
theorem dd_X2_readLines_4 : decode cX2_readLines 4 = .ok (.iconst 0, 1) := by decide +kernel
theorem dd_X2_readLines_5 : decode cX2_readLines 5 = .ok (.istore_n 2, 1) := by decide +kernel
theorem dd_X2_readLines_6 : decode cX2_readLines 6 = .ok (.iconst 0, 1) := by decide +kernel
theorem dd_X2_readLines_7 : decode cX2_readLines 7 = .ok (.istore_n 3, 1) := by decide +kernel
theorem dd_X2_readLines_8 : decode cX2_readLines 8 = .ok (.iload_n 3, 1) := by decide +kernel
theorem dd_X2_readLines_9 : decode cX2_readLines 9 = .ok (.sipush 900, 3) := by decide +kernel
theorem dd_X2_readLines_12 : decode cX2_readLines 12 = .ok (.if_icmp .ge 43, 3) := by decide +kernel
theorem dd_X2_readLines_15 : decode cX2_readLines 15 = .ok (.aload_n 1, 1) := by decide +kernel
theorem dd_X2_readLines_16 : decode cX2_readLines 16 = .ok (.getfield 79, 3) := by decide +kernel
theorem dd_X2_readLines_19 : decode cX2_readLines 19 = .ok (.ifCond .ne 36, 3) := by decide +kernel
theorem dd_X2_readLines_22 : decode cX2_readLines 22 = .ok (.aload_n 1, 1) := by decide +kernel
theorem dd_X2_readLines_23 : decode cX2_readLines 23 = .ok (.getfield 84, 3) := by decide +kernel
theorem dd_X2_readLines_26 : decode cX2_readLines 26 = .ok (.ifCond .eq 29, 3) := by decide +kernel
theorem dd_X2_readLines_55 : decode cX2_readLines 55 = .ok (.aload_n 0, 1) := by decide +kernel
theorem dd_X2_readLines_56 : decode cX2_readLines 56 = .ok (.invokevirtual 95, 3) := by decide +kernel
theorem dd_X2_readLines_59 : decode cX2_readLines 59 = .ok (.iload_n 2, 1) := by decide +kernel
theorem dd_X2_readLines_60 : decode cX2_readLines 60 = .ok (.ireturn, 1) := by decide +kernel
theorem dd_X2_takeAll_0 : decode cX2_takeAll 0 = .ok (.aload_n 1, 1) := by decide +kernel
theorem dd_X2_takeAll_1 : decode cX2_takeAll 1 = .ok (.getfield 11, 3) := by decide +kernel
theorem dd_X2_takeAll_4 : decode cX2_takeAll 4 = .ok (.aload_n 0, 1) := by decide +kernel
theorem dd_X2_takeAll_5 : decode cX2_takeAll 5 = .ok (.getfield 11, 3) := by decide +kernel
theorem dd_X2_takeAll_8 : decode cX2_takeAll 8 = .ok (.invokestatic 59, 3) := by decide +kernel
theorem dd_X2_takeAll_11 : decode cX2_takeAll 11 = .ok (.aload_n 1, 1) := by decide +kernel
theorem dd_X2_takeAll_12 : decode cX2_takeAll 12 = .ok (.getfield 15, 3) := by decide +kernel
theorem dd_X2_takeAll_15 : decode cX2_takeAll 15 = .ok (.iconst 0, 1) := by decide +kernel
theorem dd_X2_takeAll_16 : decode cX2_takeAll 16 = .ok (.aload_n 0, 1) := by decide +kernel
theorem dd_X2_takeAll_17 : decode cX2_takeAll 17 = .ok (.getfield 15, 3) := by decide +kernel
theorem dd_X2_takeAll_20 : decode cX2_takeAll 20 = .ok (.iconst 0, 1) := by decide +kernel
theorem dd_X2_takeAll_21 : decode cX2_takeAll 21 = .ok (.bipush 18, 2) := by decide +kernel
theorem dd_X2_takeAll_23 : decode cX2_takeAll 23 = .ok (.invokestatic 63, 3) := by decide +kernel
theorem dd_X2_takeAll_26 : decode cX2_takeAll 26 = .ok (.aload_n 1, 1) := by decide +kernel
theorem dd_X2_takeAll_27 : decode cX2_takeAll 27 = .ok (.getfield 19, 3) := by decide +kernel
theorem dd_X2_takeAll_30 : decode cX2_takeAll 30 = .ok (.aload_n 0, 1) := by decide +kernel
theorem dd_X2_takeAll_31 : decode cX2_takeAll 31 = .ok (.getfield 19, 3) := by decide +kernel
theorem dd_X2_takeAll_34 : decode cX2_takeAll 34 = .ok (.invokestatic 59, 3) := by decide +kernel
theorem dd_X2_takeAll_37 : decode cX2_takeAll 37 = .ok (.aload_n 1, 1) := by decide +kernel
theorem dd_X2_takeAll_38 : decode cX2_takeAll 38 = .ok (.getfield 25, 3) := by decide +kernel
theorem dd_X2_takeAll_41 : decode cX2_takeAll 41 = .ok (.aload_n 0, 1) := by decide +kernel
theorem dd_X2_takeAll_42 : decode cX2_takeAll 42 = .ok (.getfield 25, 3) := by decide +kernel
theorem dd_X2_takeAll_45 : decode cX2_takeAll 45 = .ok (.invokestatic 59, 3) := by decide +kernel
theorem dd_X2_takeAll_48 : decode cX2_takeAll 48 = .ok (.aload_n 1, 1) := by decide +kernel
theorem dd_X2_takeAll_49 : decode cX2_takeAll 49 = .ok (.getfield 28, 3) := by decide +kernel
theorem dd_X2_takeAll_52 : decode cX2_takeAll 52 = .ok (.aload_n 0, 1) := by decide +kernel
theorem dd_X2_takeAll_53 : decode cX2_takeAll 53 = .ok (.getfield 28, 3) := by decide +kernel
theorem dd_X2_takeAll_56 : decode cX2_takeAll 56 = .ok (.invokestatic 59, 3) := by decide +kernel
theorem dd_X2_takeAll_59 : decode cX2_takeAll 59 = .ok (.aload_n 0, 1) := by decide +kernel
theorem dd_X2_takeAll_60 : decode cX2_takeAll 60 = .ok (.aload_n 1, 1) := by decide +kernel
theorem dd_X2_takeAll_61 : decode cX2_takeAll 61 = .ok (.getfield 45, 3) := by decide +kernel
theorem dd_X2_takeAll_64 : decode cX2_takeAll 64 = .ok (.putfield 45, 3) := by decide +kernel
theorem dd_X2_takeAll_67 : decode cX2_takeAll 67 = .ok (.aload_n 0, 1) := by decide +kernel
theorem dd_X2_takeAll_68 : decode cX2_takeAll 68 = .ok (.aload_n 1, 1) := by decide +kernel
theorem dd_X2_takeAll_69 : decode cX2_takeAll 69 = .ok (.getfield 49, 3) := by decide +kernel
theorem dd_X2_takeAll_72 : decode cX2_takeAll 72 = .ok (.putfield 49, 3) := by decide +kernel
theorem dd_X2_takeAll_75 : decode cX2_takeAll 75 = .ok (.aload_n 0, 1) := by decide +kernel
theorem dd_X2_takeAll_76 : decode cX2_takeAll 76 = .ok (.getfield 34, 3) := by decide +kernel
theorem dd_X2_takeAll_79 : decode cX2_takeAll 79 = .ok (.aload_n 1, 1) := by decide +kernel
theorem dd_X2_takeAll_80 : decode cX2_takeAll 80 = .ok (.getfield 34, 3) := by decide +kernel
theorem dd_X2_takeAll_83 : decode cX2_takeAll 83 = .ok (.invokevirtual 69, 3) := by decide +kernel
theorem dd_X2_takeAll_86 : decode cX2_takeAll 86 = .ok (.aload_n 0, 1) := by decide +kernel
theorem dd_X2_takeAll_87 : decode cX2_takeAll 87 = .ok (.getfield 41, 3) := by decide +kernel
theorem dd_X2_takeAll_90 : decode cX2_takeAll 90 = .ok (.aload_n 1, 1) := by decide +kernel
theorem dd_X2_takeAll_91 : decode cX2_takeAll 91 = .ok (.getfield 41, 3) := by decide +kernel
theorem dd_X2_takeAll_94 : decode cX2_takeAll 94 = .ok (.invokevirtual 73, 3) := by decide +kernel
theorem dd_X2_takeAll_97 : decode cX2_takeAll 97 = .ok (.return_, 1) := by decide +kernel
theorem dd_X3_find_0 : decode cX3_find 0 = .ok (.iload_n 3, 1) := by decide +kernel
theorem dd_X3_find_1 : decode cX3_find 1 = .ok (.iconst 2, 1) := by decide +kernel
theorem dd_X3_find_2 : decode cX3_find 2 = .ok (.if_icmp .lt 21, 3) := by decide +kernel
theorem dd_X3_find_23 : decode cX3_find 23 = .ok (.iconst (-1), 1) := by decide +kernel
theorem dd_X3_find_24 : decode cX3_find 24 = .ok (.ireturn, 1) := by decide +kernel
theorem dd_X3_init_0 : decode cX3_init 0 = .ok (.aload_n 0, 1) := by decide +kernel
theorem dd_X3_init_1 : decode cX3_init 1 = .ok (.invokespecial 3, 3) := by decide +kernel
theorem dd_X3_init_4 : decode cX3_init 4 = .ok (.aload_n 0, 1) := by decide +kernel
theorem dd_X3_init_5 : decode cX3_init 5 = .ok (.bipush 6, 2) := by decide +kernel
theorem dd_X3_init_7 : decode cX3_init 7 = .ok (.newarray .int, 2) := by decide +kernel
theorem dd_X3_init_9 : decode cX3_init 9 = .ok (.putfield 9, 3) := by decide +kernel
theorem dd_X3_init_12 : decode cX3_init 12 = .ok (.aload_n 0, 1) := by decide +kernel
theorem dd_X3_init_13 : decode cX3_init 13 = .ok (.iconst (-1), 1) := by decide +kernel
theorem dd_X3_init_14 : decode cX3_init 14 = .ok (.putfield 15, 3) := by decide +kernel
theorem dd_X3_init_17 : decode cX3_init 17 = .ok (.return_, 1) := by decide +kernel
theorem dd_X4_forget_0 : decode cX4_forget 0 = .ok (.aload_n 0, 1) := by decide +kernel
theorem dd_X4_forget_1 : decode cX4_forget 1 = .ok (.iconst 0, 1) := by decide +kernel
theorem dd_X4_forget_2 : decode cX4_forget 2 = .ok (.putfield 26, 3) := by decide +kernel
theorem dd_X4_forget_5 : decode cX4_forget 5 = .ok (.return_, 1) := by decide +kernel
theorem dd_X4_giveBack_0 : decode cX4_giveBack 0 = .ok (.aload_n 0, 1) := by decide +kernel
theorem dd_X4_giveBack_1 : decode cX4_giveBack 1 = .ok (.getfield 26, 3) := by decide +kernel
theorem dd_X4_giveBack_4 : decode cX4_giveBack 4 = .ok (.ifCond .ne 5, 3) := by decide +kernel
theorem dd_X4_giveBack_7 : decode cX4_giveBack 7 = .ok (.iconst (-1), 1) := by decide +kernel
theorem dd_X4_giveBack_8 : decode cX4_giveBack 8 = .ok (.ireturn, 1) := by decide +kernel
theorem dd_X4_init_0 : decode cX4_init 0 = .ok (.aload_n 0, 1) := by decide +kernel
theorem dd_X4_init_1 : decode cX4_init 1 = .ok (.invokespecial 3, 3) := by decide +kernel
theorem dd_X4_init_4 : decode cX4_init 4 = .ok (.aload_n 0, 1) := by decide +kernel
theorem dd_X4_init_5 : decode cX4_init 5 = .ok (.bipush 8, 2) := by decide +kernel
theorem dd_X4_init_7 : decode cX4_init 7 = .ok (.anewarray 11, 3) := by decide +kernel
theorem dd_X4_init_10 : decode cX4_init 10 = .ok (.putfield 13, 3) := by decide +kernel
theorem dd_X4_init_13 : decode cX4_init 13 = .ok (.iconst 0, 1) := by decide +kernel
theorem dd_X4_init_14 : decode cX4_init 14 = .ok (.istore_n 1, 1) := by decide +kernel
theorem dd_X4_init_15 : decode cX4_init 15 = .ok (.iload_n 1, 1) := by decide +kernel
theorem dd_X4_init_16 : decode cX4_init 16 = .ok (.bipush 8, 2) := by decide +kernel
theorem dd_X4_init_18 : decode cX4_init 18 = .ok (.if_icmp .ge 22, 3) := by decide +kernel
theorem dd_X4_init_21 : decode cX4_init 21 = .ok (.aload_n 0, 1) := by decide +kernel
theorem dd_X4_init_22 : decode cX4_init 22 = .ok (.getfield 13, 3) := by decide +kernel
theorem dd_X4_init_25 : decode cX4_init 25 = .ok (.iload_n 1, 1) := by decide +kernel
theorem dd_X4_init_26 : decode cX4_init 26 = .ok (.new 11, 3) := by decide +kernel
theorem dd_X4_init_29 : decode cX4_init 29 = .ok (.dup, 1) := by decide +kernel
theorem dd_X4_init_30 : decode cX4_init 30 = .ok (.invokespecial 17, 3) := by decide +kernel
theorem dd_X4_init_33 : decode cX4_init 33 = .ok (.aastore, 1) := by decide +kernel
theorem dd_X4_init_34 : decode cX4_init 34 = .ok (.iinc 1 1, 3) := by decide +kernel
theorem dd_X4_init_37 : decode cX4_init 37 = .ok (.goto (-22), 3) := by decide +kernel
theorem dd_X4_init_40 : decode cX4_init 40 = .ok (.return_, 1) := by decide +kernel
theorem dd_X4_keep_0 : decode cX4_keep 0 = .ok (.aload_n 0, 1) := by decide +kernel
theorem dd_X4_keep_1 : decode cX4_keep 1 = .ok (.getfield 13, 3) := by decide +kernel
theorem dd_X4_keep_4 : decode cX4_keep 4 = .ok (.aload_n 0, 1) := by decide +kernel
theorem dd_X4_keep_5 : decode cX4_keep 5 = .ok (.getfield 18, 3) := by decide +kernel
theorem dd_X4_keep_8 : decode cX4_keep 8 = .ok (.aaload, 1) := by decide +kernel
theorem dd_X4_keep_9 : decode cX4_keep 9 = .ok (.aload_n 1, 1) := by decide +kernel
theorem dd_X4_keep_10 : decode cX4_keep 10 = .ok (.invokevirtual 22, 3) := by decide +kernel
theorem dd_X4_keep_13 : decode cX4_keep 13 = .ok (.aload_n 0, 1) := by decide +kernel
theorem dd_X4_keep_14 : decode cX4_keep 14 = .ok (.aload_n 0, 1) := by decide +kernel
theorem dd_X4_keep_15 : decode cX4_keep 15 = .ok (.getfield 18, 3) := by decide +kernel
theorem dd_X4_keep_18 : decode cX4_keep 18 = .ok (.iconst 1, 1) := by decide +kernel
theorem dd_X4_keep_19 : decode cX4_keep 19 = .ok (.iadd, 1) := by decide +kernel
theorem dd_X4_keep_20 : decode cX4_keep 20 = .ok (.bipush 8, 2) := by decide +kernel
theorem dd_X4_keep_22 : decode cX4_keep 22 = .ok (.irem, 1) := by decide +kernel
theorem dd_X4_keep_23 : decode cX4_keep 23 = .ok (.putfield 18, 3) := by decide +kernel
theorem dd_X4_keep_26 : decode cX4_keep 26 = .ok (.aload_n 0, 1) := by decide +kernel
theorem dd_X4_keep_27 : decode cX4_keep 27 = .ok (.aload_n 0, 1) := by decide +kernel
theorem dd_X4_keep_28 : decode cX4_keep 28 = .ok (.getfield 26, 3) := by decide +kernel
theorem dd_X4_keep_31 : decode cX4_keep 31 = .ok (.iconst 1, 1) := by decide +kernel
theorem dd_X4_keep_32 : decode cX4_keep 32 = .ok (.iadd, 1) := by decide +kernel
theorem dd_X4_keep_33 : decode cX4_keep 33 = .ok (.bipush 8, 2) := by decide +kernel
theorem dd_X4_keep_35 : decode cX4_keep 35 = .ok (.invokestatic 29, 3) := by decide +kernel
theorem dd_X4_keep_38 : decode cX4_keep 38 = .ok (.putfield 26, 3) := by decide +kernel
theorem dd_X4_keep_41 : decode cX4_keep 41 = .ok (.return_, 1) := by decide +kernel
theorem dd_X5_init_0 : decode cX5_init 0 = .ok (.aload_n 0, 1) := by decide +kernel
theorem dd_X5_init_1 : decode cX5_init 1 = .ok (.invokespecial 5, 3) := by decide +kernel
theorem dd_X5_init_4 : decode cX5_init 4 = .ok (.aload_n 0, 1) := by decide +kernel
theorem dd_X5_init_5 : decode cX5_init 5 = .ok (.sipush 700, 3) := by decide +kernel
theorem dd_X5_init_8 : decode cX5_init 8 = .ok (.newarray .int, 2) := by decide +kernel
theorem dd_X5_init_10 : decode cX5_init 10 = .ok (.putfield 11, 3) := by decide +kernel
theorem dd_X5_init_13 : decode cX5_init 13 = .ok (.aload_n 0, 1) := by decide +kernel
theorem dd_X5_init_14 : decode cX5_init 14 = .ok (.bipush 126, 2) := by decide +kernel
theorem dd_X5_init_16 : decode cX5_init 16 = .ok (.newarray .int, 2) := by decide +kernel
theorem dd_X5_init_18 : decode cX5_init 18 = .ok (.putfield 15, 3) := by decide +kernel
theorem dd_X5_init_21 : decode cX5_init 21 = .ok (.aload_n 0, 1) := by decide +kernel
theorem dd_X5_init_22 : decode cX5_init 22 = .ok (.bipush 6, 2) := by decide +kernel
theorem dd_X5_init_24 : decode cX5_init 24 = .ok (.newarray .int, 2) := by decide +kernel
theorem dd_X5_init_26 : decode cX5_init 26 = .ok (.putfield 18, 3) := by decide +kernel
theorem dd_X5_init_29 : decode cX5_init 29 = .ok (.return_, 1) := by decide +kernel
theorem dd_X6_find_0 : decode cX6_find 0 = .ok (.iconst 2, 1) := by decide +kernel
theorem dd_X6_find_1 : decode cX6_find 1 = .ok (.istore_n 3, 1) := by decide +kernel
theorem dd_X6_find_2 : decode cX6_find 2 = .ok (.iload_n 3, 1) := by decide +kernel
theorem dd_X6_find_3 : decode cX6_find 3 = .ok (.iload_n 2, 1) := by decide +kernel
theorem dd_X6_find_4 : decode cX6_find 4 = .ok (.if_icmp .gt 53, 3) := by decide +kernel
theorem dd_X6_find_57 : decode cX6_find 57 = .ok (.aload_n 0, 1) := by decide +kernel
theorem dd_X6_find_58 : decode cX6_find 58 = .ok (.iconst 0, 1) := by decide +kernel
theorem dd_X6_find_59 : decode cX6_find 59 = .ok (.putfield 19, 3) := by decide +kernel
theorem dd_X6_find_62 : decode cX6_find 62 = .ok (.iconst 0, 1) := by decide +kernel
theorem dd_X6_find_63 : decode cX6_find 63 = .ok (.ireturn, 1) := by decide +kernel
theorem dd_X6_init_0 : decode cX6_init 0 = .ok (.aload_n 0, 1) := by decide +kernel
theorem dd_X6_init_1 : decode cX6_init 1 = .ok (.invokespecial 3, 3) := by decide +kernel
theorem dd_X6_init_4 : decode cX6_init 4 = .ok (.aload_n 0, 1) := by decide +kernel
theorem dd_X6_init_5 : decode cX6_init 5 = .ok (.bipush 6, 2) := by decide +kernel
theorem dd_X6_init_7 : decode cX6_init 7 = .ok (.newarray .int, 2) := by decide +kernel
theorem dd_X6_init_9 : decode cX6_init 9 = .ok (.putfield 9, 3) := by decide +kernel
theorem dd_X6_init_12 : decode cX6_init 12 = .ok (.return_, 1) := by decide +kernel
theorem dd_X7_clear_0 : decode cX7_clear 0 = .ok (.aload_n 0, 1) := by decide +kernel
theorem dd_X7_clear_1 : decode cX7_clear 1 = .ok (.iconst 0, 1) := by decide +kernel
theorem dd_X7_clear_2 : decode cX7_clear 2 = .ok (.putfield 18, 3) := by decide +kernel
theorem dd_X7_clear_5 : decode cX7_clear 5 = .ok (.aload_n 0, 1) := by decide +kernel
theorem dd_X7_clear_6 : decode cX7_clear 6 = .ok (.iconst 0, 1) := by decide +kernel
theorem dd_X7_clear_7 : decode cX7_clear 7 = .ok (.putfield 22, 3) := by decide +kernel
theorem dd_X7_clear_10 : decode cX7_clear 10 = .ok (.return_, 1) := by decide +kernel
theorem dd_X7_init_0 : decode cX7_init 0 = .ok (.aload_n 0, 1) := by decide +kernel
theorem dd_X7_init_1 : decode cX7_init 1 = .ok (.invokespecial 5, 3) := by decide +kernel
theorem dd_X7_init_4 : decode cX7_init 4 = .ok (.aload_n 0, 1) := by decide +kernel
theorem dd_X7_init_5 : decode cX7_init 5 = .ok (.bipush 40, 2) := by decide +kernel
theorem dd_X7_init_7 : decode cX7_init 7 = .ok (.newarray .int, 2) := by decide +kernel
theorem dd_X7_init_9 : decode cX7_init 9 = .ok (.putfield 11, 3) := by decide +kernel
theorem dd_X7_init_12 : decode cX7_init 12 = .ok (.aload_n 0, 1) := by decide +kernel
theorem dd_X7_init_13 : decode cX7_init 13 = .ok (.bipush 20, 2) := by decide +kernel
theorem dd_X7_init_15 : decode cX7_init 15 = .ok (.newarray .int, 2) := by decide +kernel
theorem dd_X7_init_17 : decode cX7_init 17 = .ok (.putfield 15, 3) := by decide +kernel
theorem dd_X7_init_20 : decode cX7_init 20 = .ok (.return_, 1) := by decide +kernel
theorem dd_X7_readCond_0 : decode cX7_readCond 0 = .ok (.aload_n 0, 1) := by decide +kernel
theorem dd_X7_readCond_1 : decode cX7_readCond 1 = .ok (.aload_n 1, 1) := by decide +kernel
theorem dd_X7_readCond_2 : decode cX7_readCond 2 = .ok (.aload_n 2, 1) := by decide +kernel
theorem dd_X7_readCond_3 : decode cX7_readCond 3 = .ok (.iload_n 3, 1) := by decide +kernel
theorem dd_X7_readCond_4 : decode cX7_readCond 4 = .ok (.invokevirtual 48, 3) := by decide +kernel
theorem dd_X7_readCond_7 : decode cX7_readCond 7 = .ok (.ifCond .ne 5, 3) := by decide +kernel
theorem dd_X7_readCond_10 : decode cX7_readCond 10 = .ok (.iconst 0, 1) := by decide +kernel
theorem dd_X7_readCond_11 : decode cX7_readCond 11 = .ok (.ireturn, 1) := by decide +kernel
theorem dd_X7_readOne_0 : decode cX7_readOne 0 = .ok (.aload_n 1, 1) := by decide +kernel
theorem dd_X7_readOne_1 : decode cX7_readOne 1 = .ok (.bipush 40, 2) := by decide +kernel
theorem dd_X7_readOne_3 : decode cX7_readOne 3 = .ok (.invokevirtual 61, 3) := by decide +kernel
theorem dd_X7_readOne_6 : decode cX7_readOne 6 = .ok (.istore 4, 2) := by decide +kernel
theorem dd_X7_readOne_8 : decode cX7_readOne 8 = .ok (.iload 4, 2) := by decide +kernel
theorem dd_X7_readOne_10 : decode cX7_readOne 10 = .ok (.ifCond .ne 31, 3) := by decide +kernel
theorem dd_X7_readOne_13 : decode cX7_readOne 13 = .ok (.aload_n 1, 1) := by decide +kernel
theorem dd_X7_readOne_14 : decode cX7_readOne 14 = .ok (.getfield 51, 3) := by decide +kernel
theorem dd_X7_readOne_17 : decode cX7_readOne 17 = .ok (.bipush 15, 2) := by decide +kernel
theorem dd_X7_readOne_19 : decode cX7_readOne 19 = .ok (.if_icmp .lt 12, 3) := by decide +kernel
theorem dd_X7_readOne_31 : decode cX7_readOne 31 = .ok (.aload_n 1, 1) := by decide +kernel
theorem dd_X7_readOne_32 : decode cX7_readOne 32 = .ok (.iconst 1, 1) := by decide +kernel
theorem dd_X7_readOne_33 : decode cX7_readOne 33 = .ok (.aload_n 1, 1) := by decide +kernel
theorem dd_X7_readOne_34 : decode cX7_readOne 34 = .ok (.getfield 41, 3) := by decide +kernel
theorem dd_X7_readOne_37 : decode cX7_readOne 37 = .ok (.invokevirtual 44, 3) := by decide +kernel
theorem dd_X7_readOne_40 : decode cX7_readOne 40 = .ok (.ireturn, 1) := by decide +kernel
theorem dd_X7_readWhole_0 : decode cX7_readWhole 0 = .ok (.aload_n 0, 1) := by decide +kernel
theorem dd_X7_readWhole_1 : decode cX7_readWhole 1 = .ok (.invokevirtual 29, 3) := by decide +kernel
theorem dd_X7_readWhole_4 : decode cX7_readWhole 4 = .ok (.aload_n 0, 1) := by decide +kernel
theorem dd_X7_readWhole_5 : decode cX7_readWhole 5 = .ok (.aload_n 1, 1) := by decide +kernel
theorem dd_X7_readWhole_6 : decode cX7_readWhole 6 = .ok (.aload_n 2, 1) := by decide +kernel
theorem dd_X7_readWhole_7 : decode cX7_readWhole 7 = .ok (.iconst 1, 1) := by decide +kernel
theorem dd_X7_readWhole_8 : decode cX7_readWhole 8 = .ok (.invokevirtual 32, 3) := by decide +kernel
theorem dd_X7_readWhole_11 : decode cX7_readWhole 11 = .ok (.ifCond .ne 5, 3) := by decide +kernel
theorem dd_X7_readWhole_14 : decode cX7_readWhole 14 = .ok (.iconst 0, 1) := by decide +kernel
theorem dd_X7_readWhole_15 : decode cX7_readWhole 15 = .ok (.ireturn, 1) := by decide +kernel
theorem dd_X7_takeAll_0 : decode cX7_takeAll 0 = .ok (.aload_n 1, 1) := by decide +kernel
theorem dd_X7_takeAll_1 : decode cX7_takeAll 1 = .ok (.getfield 11, 3) := by decide +kernel
theorem dd_X7_takeAll_4 : decode cX7_takeAll 4 = .ok (.aload_n 0, 1) := by decide +kernel
theorem dd_X7_takeAll_5 : decode cX7_takeAll 5 = .ok (.getfield 11, 3) := by decide +kernel
theorem dd_X7_takeAll_8 : decode cX7_takeAll 8 = .ok (.invokestatic 25, 3) := by decide +kernel
theorem dd_X7_takeAll_11 : decode cX7_takeAll 11 = .ok (.aload_n 0, 1) := by decide +kernel
theorem dd_X7_takeAll_12 : decode cX7_takeAll 12 = .ok (.aload_n 1, 1) := by decide +kernel
theorem dd_X7_takeAll_13 : decode cX7_takeAll 13 = .ok (.getfield 18, 3) := by decide +kernel
theorem dd_X7_takeAll_16 : decode cX7_takeAll 16 = .ok (.putfield 18, 3) := by decide +kernel
theorem dd_X7_takeAll_19 : decode cX7_takeAll 19 = .ok (.aload_n 0, 1) := by decide +kernel
theorem dd_X7_takeAll_20 : decode cX7_takeAll 20 = .ok (.aload_n 1, 1) := by decide +kernel
theorem dd_X7_takeAll_21 : decode cX7_takeAll 21 = .ok (.getfield 22, 3) := by decide +kernel
theorem dd_X7_takeAll_24 : decode cX7_takeAll 24 = .ok (.putfield 22, 3) := by decide +kernel
theorem dd_X7_takeAll_27 : decode cX7_takeAll 27 = .ok (.return_, 1) := by decide +kernel
theorem dd_X8_allCredit_0 : decode cX8_allCredit 0 = .ok (.aload_n 0, 1) := by decide +kernel
theorem dd_X8_allCredit_1 : decode cX8_allCredit 1 = .ok (.getfield 15, 3) := by decide +kernel
theorem dd_X8_allCredit_4 : decode cX8_allCredit 4 = .ok (.iconst 0, 1) := by decide +kernel
theorem dd_X8_allCredit_5 : decode cX8_allCredit 5 = .ok (.iconst 1, 1) := by decide +kernel
theorem dd_X8_allCredit_6 : decode cX8_allCredit 6 = .ok (.bipush 6, 2) := by decide +kernel
theorem dd_X8_allCredit_8 : decode cX8_allCredit 8 = .ok (.invokestatic 47, 3) := by decide +kernel
theorem dd_X8_allCredit_11 : decode cX8_allCredit 11 = .ok (.ireturn, 1) := by decide +kernel
theorem dd_X8_clear_0 : decode cX8_clear 0 = .ok (.aload_n 0, 1) := by decide +kernel
theorem dd_X8_clear_1 : decode cX8_clear 1 = .ok (.getfield 9, 3) := by decide +kernel
theorem dd_X8_clear_4 : decode cX8_clear 4 = .ok (.iconst 0, 1) := by decide +kernel
theorem dd_X8_clear_5 : decode cX8_clear 5 = .ok (.invokestatic 33, 3) := by decide +kernel
theorem dd_X8_clear_8 : decode cX8_clear 8 = .ok (.aload_n 0, 1) := by decide +kernel
theorem dd_X8_clear_9 : decode cX8_clear 9 = .ok (.getfield 15, 3) := by decide +kernel
theorem dd_X8_clear_12 : decode cX8_clear 12 = .ok (.iconst 0, 1) := by decide +kernel
theorem dd_X8_clear_13 : decode cX8_clear 13 = .ok (.invokestatic 33, 3) := by decide +kernel
theorem dd_X8_clear_16 : decode cX8_clear 16 = .ok (.aload_n 0, 1) := by decide +kernel
theorem dd_X8_clear_17 : decode cX8_clear 17 = .ok (.getfield 18, 3) := by decide +kernel
theorem dd_X8_clear_20 : decode cX8_clear 20 = .ok (.iconst 0, 1) := by decide +kernel
theorem dd_X8_clear_21 : decode cX8_clear 21 = .ok (.invokestatic 33, 3) := by decide +kernel
theorem dd_X8_clear_24 : decode cX8_clear 24 = .ok (.aload_n 0, 1) := by decide +kernel
theorem dd_X8_clear_25 : decode cX8_clear 25 = .ok (.getfield 21, 3) := by decide +kernel
theorem dd_X8_clear_28 : decode cX8_clear 28 = .ok (.iconst 0, 1) := by decide +kernel
theorem dd_X8_clear_29 : decode cX8_clear 29 = .ok (.invokestatic 33, 3) := by decide +kernel
theorem dd_X8_clear_32 : decode cX8_clear 32 = .ok (.aload_n 0, 1) := by decide +kernel
theorem dd_X8_clear_33 : decode cX8_clear 33 = .ok (.getfield 24, 3) := by decide +kernel
theorem dd_X8_clear_36 : decode cX8_clear 36 = .ok (.iconst 0, 1) := by decide +kernel
theorem dd_X8_clear_37 : decode cX8_clear 37 = .ok (.invokestatic 33, 3) := by decide +kernel
theorem dd_X8_clear_40 : decode cX8_clear 40 = .ok (.aload_n 0, 1) := by decide +kernel
theorem dd_X8_clear_41 : decode cX8_clear 41 = .ok (.getfield 27, 3) := by decide +kernel
theorem dd_X8_clear_44 : decode cX8_clear 44 = .ok (.iconst 0, 1) := by decide +kernel
theorem dd_X8_clear_45 : decode cX8_clear 45 = .ok (.invokestatic 33, 3) := by decide +kernel
theorem dd_X8_clear_48 : decode cX8_clear 48 = .ok (.aload_n 0, 1) := by decide +kernel
theorem dd_X8_clear_49 : decode cX8_clear 49 = .ok (.getfield 30, 3) := by decide +kernel
theorem dd_X8_clear_52 : decode cX8_clear 52 = .ok (.iconst 0, 1) := by decide +kernel
theorem dd_X8_clear_53 : decode cX8_clear 53 = .ok (.invokestatic 33, 3) := by decide +kernel
theorem dd_X8_clear_56 : decode cX8_clear 56 = .ok (.aload_n 0, 1) := by decide +kernel
theorem dd_X8_clear_57 : decode cX8_clear 57 = .ok (.iconst 0, 1) := by decide +kernel
theorem dd_X8_clear_58 : decode cX8_clear 58 = .ok (.putfield 39, 3) := by decide +kernel
theorem dd_X8_clear_61 : decode cX8_clear 61 = .ok (.return_, 1) := by decide +kernel
theorem dd_X8_init_0 : decode cX8_init 0 = .ok (.aload_n 0, 1) := by decide +kernel
theorem dd_X8_init_1 : decode cX8_init 1 = .ok (.invokespecial 3, 3) := by decide +kernel
theorem dd_X8_init_4 : decode cX8_init 4 = .ok (.aload_n 0, 1) := by decide +kernel
theorem dd_X8_init_5 : decode cX8_init 5 = .ok (.bipush 6, 2) := by decide +kernel
theorem dd_X8_init_7 : decode cX8_init 7 = .ok (.newarray .int, 2) := by decide +kernel
theorem dd_X8_init_9 : decode cX8_init 9 = .ok (.putfield 9, 3) := by decide +kernel
theorem dd_X8_init_12 : decode cX8_init 12 = .ok (.aload_n 0, 1) := by decide +kernel
theorem dd_X8_init_13 : decode cX8_init 13 = .ok (.bipush 6, 2) := by decide +kernel
theorem dd_X8_init_15 : decode cX8_init 15 = .ok (.newarray .int, 2) := by decide +kernel
theorem dd_X8_init_17 : decode cX8_init 17 = .ok (.putfield 15, 3) := by decide +kernel
theorem dd_X8_init_20 : decode cX8_init 20 = .ok (.aload_n 0, 1) := by decide +kernel
theorem dd_X8_init_21 : decode cX8_init 21 = .ok (.bipush 6, 2) := by decide +kernel
theorem dd_X8_init_23 : decode cX8_init 23 = .ok (.newarray .int, 2) := by decide +kernel
theorem dd_X8_init_25 : decode cX8_init 25 = .ok (.putfield 18, 3) := by decide +kernel
theorem dd_X8_init_28 : decode cX8_init 28 = .ok (.aload_n 0, 1) := by decide +kernel
theorem dd_X8_init_29 : decode cX8_init 29 = .ok (.bipush 6, 2) := by decide +kernel
theorem dd_X8_init_31 : decode cX8_init 31 = .ok (.newarray .int, 2) := by decide +kernel
theorem dd_X8_init_33 : decode cX8_init 33 = .ok (.putfield 21, 3) := by decide +kernel
theorem dd_X8_init_36 : decode cX8_init 36 = .ok (.aload_n 0, 1) := by decide +kernel
theorem dd_X8_init_37 : decode cX8_init 37 = .ok (.bipush 36, 2) := by decide +kernel
theorem dd_X8_init_39 : decode cX8_init 39 = .ok (.newarray .int, 2) := by decide +kernel
theorem dd_X8_init_41 : decode cX8_init 41 = .ok (.putfield 24, 3) := by decide +kernel
theorem dd_X8_init_44 : decode cX8_init 44 = .ok (.aload_n 0, 1) := by decide +kernel
theorem dd_X8_init_45 : decode cX8_init 45 = .ok (.bipush 36, 2) := by decide +kernel
theorem dd_X8_init_47 : decode cX8_init 47 = .ok (.newarray .int, 2) := by decide +kernel
theorem dd_X8_init_49 : decode cX8_init 49 = .ok (.putfield 27, 3) := by decide +kernel
theorem dd_X8_init_52 : decode cX8_init 52 = .ok (.aload_n 0, 1) := by decide +kernel
theorem dd_X8_init_53 : decode cX8_init 53 = .ok (.bipush 36, 2) := by decide +kernel
theorem dd_X8_init_55 : decode cX8_init 55 = .ok (.newarray .int, 2) := by decide +kernel
theorem dd_X8_init_57 : decode cX8_init 57 = .ok (.putfield 30, 3) := by decide +kernel
theorem dd_X8_init_60 : decode cX8_init 60 = .ok (.return_, 1) := by decide +kernel
theorem dd_X8_takeAll_0 : decode cX8_takeAll 0 = .ok (.aload_n 1, 1) := by decide +kernel
theorem dd_X8_takeAll_1 : decode cX8_takeAll 1 = .ok (.getfield 9, 3) := by decide +kernel
theorem dd_X8_takeAll_4 : decode cX8_takeAll 4 = .ok (.aload_n 0, 1) := by decide +kernel
theorem dd_X8_takeAll_5 : decode cX8_takeAll 5 = .ok (.getfield 9, 3) := by decide +kernel
theorem dd_X8_takeAll_8 : decode cX8_takeAll 8 = .ok (.invokestatic 43, 3) := by decide +kernel
theorem dd_X8_takeAll_11 : decode cX8_takeAll 11 = .ok (.aload_n 1, 1) := by decide +kernel
theorem dd_X8_takeAll_12 : decode cX8_takeAll 12 = .ok (.getfield 15, 3) := by decide +kernel
theorem dd_X8_takeAll_15 : decode cX8_takeAll 15 = .ok (.aload_n 0, 1) := by decide +kernel
theorem dd_X8_takeAll_16 : decode cX8_takeAll 16 = .ok (.getfield 15, 3) := by decide +kernel
theorem dd_X8_takeAll_19 : decode cX8_takeAll 19 = .ok (.invokestatic 43, 3) := by decide +kernel
theorem dd_X8_takeAll_22 : decode cX8_takeAll 22 = .ok (.aload_n 1, 1) := by decide +kernel
theorem dd_X8_takeAll_23 : decode cX8_takeAll 23 = .ok (.getfield 18, 3) := by decide +kernel
theorem dd_X8_takeAll_26 : decode cX8_takeAll 26 = .ok (.aload_n 0, 1) := by decide +kernel
theorem dd_X8_takeAll_27 : decode cX8_takeAll 27 = .ok (.getfield 18, 3) := by decide +kernel
theorem dd_X8_takeAll_30 : decode cX8_takeAll 30 = .ok (.invokestatic 43, 3) := by decide +kernel
theorem dd_X8_takeAll_33 : decode cX8_takeAll 33 = .ok (.aload_n 1, 1) := by decide +kernel
theorem dd_X8_takeAll_34 : decode cX8_takeAll 34 = .ok (.getfield 21, 3) := by decide +kernel
theorem dd_X8_takeAll_37 : decode cX8_takeAll 37 = .ok (.aload_n 0, 1) := by decide +kernel
theorem dd_X8_takeAll_38 : decode cX8_takeAll 38 = .ok (.getfield 21, 3) := by decide +kernel
theorem dd_X8_takeAll_41 : decode cX8_takeAll 41 = .ok (.invokestatic 43, 3) := by decide +kernel
theorem dd_X8_takeAll_44 : decode cX8_takeAll 44 = .ok (.aload_n 1, 1) := by decide +kernel
theorem dd_X8_takeAll_45 : decode cX8_takeAll 45 = .ok (.getfield 24, 3) := by decide +kernel
theorem dd_X8_takeAll_48 : decode cX8_takeAll 48 = .ok (.aload_n 0, 1) := by decide +kernel
theorem dd_X8_takeAll_49 : decode cX8_takeAll 49 = .ok (.getfield 24, 3) := by decide +kernel
theorem dd_X8_takeAll_52 : decode cX8_takeAll 52 = .ok (.invokestatic 43, 3) := by decide +kernel
theorem dd_X8_takeAll_55 : decode cX8_takeAll 55 = .ok (.aload_n 1, 1) := by decide +kernel
theorem dd_X8_takeAll_56 : decode cX8_takeAll 56 = .ok (.getfield 27, 3) := by decide +kernel
theorem dd_X8_takeAll_59 : decode cX8_takeAll 59 = .ok (.aload_n 0, 1) := by decide +kernel
theorem dd_X8_takeAll_60 : decode cX8_takeAll 60 = .ok (.getfield 27, 3) := by decide +kernel
theorem dd_X8_takeAll_63 : decode cX8_takeAll 63 = .ok (.invokestatic 43, 3) := by decide +kernel
theorem dd_X8_takeAll_66 : decode cX8_takeAll 66 = .ok (.aload_n 1, 1) := by decide +kernel
theorem dd_X8_takeAll_67 : decode cX8_takeAll 67 = .ok (.getfield 30, 3) := by decide +kernel
theorem dd_X8_takeAll_70 : decode cX8_takeAll 70 = .ok (.aload_n 0, 1) := by decide +kernel
theorem dd_X8_takeAll_71 : decode cX8_takeAll 71 = .ok (.getfield 30, 3) := by decide +kernel
theorem dd_X8_takeAll_74 : decode cX8_takeAll 74 = .ok (.invokestatic 43, 3) := by decide +kernel
theorem dd_X8_takeAll_77 : decode cX8_takeAll 77 = .ok (.aload_n 0, 1) := by decide +kernel
theorem dd_X8_takeAll_78 : decode cX8_takeAll 78 = .ok (.aload_n 1, 1) := by decide +kernel
theorem dd_X8_takeAll_79 : decode cX8_takeAll 79 = .ok (.getfield 39, 3) := by decide +kernel
theorem dd_X8_takeAll_82 : decode cX8_takeAll 82 = .ok (.putfield 39, 3) := by decide +kernel
theorem dd_X8_takeAll_85 : decode cX8_takeAll 85 = .ok (.return_, 1) := by decide +kernel
theorem dd_X9_choose_0 : decode cX9_choose 0 = .ok (.iload_n 3, 1) := by decide +kernel
theorem dd_X9_choose_1 : decode cX9_choose 1 = .ok (.istore 4, 2) := by decide +kernel
theorem dd_X9_choose_3 : decode cX9_choose 3 = .ok (.aload_n 0, 1) := by decide +kernel
theorem dd_X9_choose_4 : decode cX9_choose 4 = .ok (.iload_n 1, 1) := by decide +kernel
theorem dd_X9_choose_5 : decode cX9_choose 5 = .ok (.putfield 74, 3) := by decide +kernel
theorem dd_X9_choose_8 : decode cX9_choose 8 = .ok (.iconst 0, 1) := by decide +kernel
theorem dd_X9_choose_9 : decode cX9_choose 9 = .ok (.istore 5, 2) := by decide +kernel
theorem dd_X9_choose_11 : decode cX9_choose 11 = .ok (.iload 5, 2) := by decide +kernel
theorem dd_X9_choose_13 : decode cX9_choose 13 = .ok (.iload_n 1, 1) := by decide +kernel
theorem dd_X9_choose_14 : decode cX9_choose 14 = .ok (.if_icmp .ge 114, 3) := by decide +kernel
theorem dd_X9_choose_128 : decode cX9_choose 128 = .ok (.return_, 1) := by decide +kernel
theorem dd_X9_dearest_0 : decode cX9_dearest 0 = .ok (.iconst 0, 1) := by decide +kernel
theorem dd_X9_dearest_1 : decode cX9_dearest 1 = .ok (.istore_n 3, 1) := by decide +kernel
theorem dd_X9_dearest_2 : decode cX9_dearest 2 = .ok (.iconst 0, 1) := by decide +kernel
theorem dd_X9_dearest_3 : decode cX9_dearest 3 = .ok (.istore 4, 2) := by decide +kernel
theorem dd_X9_dearest_5 : decode cX9_dearest 5 = .ok (.iload 4, 2) := by decide +kernel
theorem dd_X9_dearest_7 : decode cX9_dearest 7 = .ok (.bipush 6, 2) := by decide +kernel
theorem dd_X9_dearest_9 : decode cX9_dearest 9 = .ok (.if_icmp .ge 38, 3) := by decide +kernel
theorem dd_X9_dearest_12 : decode cX9_dearest 12 = .ok (.aload_n 0, 1) := by decide +kernel
theorem dd_X9_dearest_13 : decode cX9_dearest 13 = .ok (.getfield 9, 3) := by decide +kernel
theorem dd_X9_dearest_16 : decode cX9_dearest 16 = .ok (.iload_n 1, 1) := by decide +kernel
theorem dd_X9_dearest_17 : decode cX9_dearest 17 = .ok (.bipush 6, 2) := by decide +kernel
theorem dd_X9_dearest_19 : decode cX9_dearest 19 = .ok (.imul, 1) := by decide +kernel
theorem dd_X9_dearest_20 : decode cX9_dearest 20 = .ok (.iload 4, 2) := by decide +kernel
theorem dd_X9_dearest_22 : decode cX9_dearest 22 = .ok (.iadd, 1) := by decide +kernel
theorem dd_X9_dearest_23 : decode cX9_dearest 23 = .ok (.iaload, 1) := by decide +kernel
theorem dd_X9_dearest_24 : decode cX9_dearest 24 = .ok (.istore 5, 2) := by decide +kernel
theorem dd_X9_dearest_26 : decode cX9_dearest 26 = .ok (.iload 5, 2) := by decide +kernel
theorem dd_X9_dearest_28 : decode cX9_dearest 28 = .ok (.iload_n 2, 1) := by decide +kernel
theorem dd_X9_dearest_29 : decode cX9_dearest 29 = .ok (.if_icmp .gt 12, 3) := by decide +kernel
theorem dd_X9_dearest_32 : decode cX9_dearest 32 = .ok (.iload 5, 2) := by decide +kernel
theorem dd_X9_dearest_34 : decode cX9_dearest 34 = .ok (.iload_n 3, 1) := by decide +kernel
theorem dd_X9_dearest_35 : decode cX9_dearest 35 = .ok (.if_icmp .le 6, 3) := by decide +kernel
theorem dd_X9_dearest_41 : decode cX9_dearest 41 = .ok (.iinc 4 1, 3) := by decide +kernel
theorem dd_X9_dearest_44 : decode cX9_dearest 44 = .ok (.goto (-39), 3) := by decide +kernel
theorem dd_X9_dearest_47 : decode cX9_dearest 47 = .ok (.iload_n 3, 1) := by decide +kernel
theorem dd_X9_dearest_48 : decode cX9_dearest 48 = .ok (.ireturn, 1) := by decide +kernel
theorem dd_X9_fillCan_0 : decode cX9_fillCan 0 = .ok (.iconst 0, 1) := by decide +kernel
theorem dd_X9_fillCan_1 : decode cX9_fillCan 1 = .ok (.istore_n 3, 1) := by decide +kernel
theorem dd_X9_fillCan_2 : decode cX9_fillCan 2 = .ok (.iload_n 3, 1) := by decide +kernel
theorem dd_X9_fillCan_3 : decode cX9_fillCan 3 = .ok (.bipush 121, 2) := by decide +kernel
theorem dd_X9_fillCan_5 : decode cX9_fillCan 5 = .ok (.if_icmp .ge 29, 3) := by decide +kernel
theorem dd_X9_fillCan_8 : decode cX9_fillCan 8 = .ok (.aload_n 0, 1) := by decide +kernel
theorem dd_X9_fillCan_9 : decode cX9_fillCan 9 = .ok (.getfield 15, 3) := by decide +kernel
theorem dd_X9_fillCan_12 : decode cX9_fillCan 12 = .ok (.iload_n 1, 1) := by decide +kernel
theorem dd_X9_fillCan_13 : decode cX9_fillCan 13 = .ok (.bipush 121, 2) := by decide +kernel
theorem dd_X9_fillCan_15 : decode cX9_fillCan 15 = .ok (.imul, 1) := by decide +kernel
theorem dd_X9_fillCan_16 : decode cX9_fillCan 16 = .ok (.iload_n 3, 1) := by decide +kernel
theorem dd_X9_fillCan_17 : decode cX9_fillCan 17 = .ok (.iadd, 1) := by decide +kernel
theorem dd_X9_fillCan_18 : decode cX9_fillCan 18 = .ok (.iload_n 3, 1) := by decide +kernel
theorem dd_X9_fillCan_19 : decode cX9_fillCan 19 = .ok (.ifCond .ne 7, 3) := by decide +kernel
theorem dd_X9_fillCan_22 : decode cX9_fillCan 22 = .ok (.iconst 1, 1) := by decide +kernel
theorem dd_X9_fillCan_23 : decode cX9_fillCan 23 = .ok (.goto 4, 3) := by decide +kernel
theorem dd_X9_fillCan_26 : decode cX9_fillCan 26 = .ok (.iconst 0, 1) := by decide +kernel
theorem dd_X9_fillCan_27 : decode cX9_fillCan 27 = .ok (.bastore, 1) := by decide +kernel
theorem dd_X9_fillCan_28 : decode cX9_fillCan 28 = .ok (.iinc 3 1, 3) := by decide +kernel
theorem dd_X9_fillCan_31 : decode cX9_fillCan 31 = .ok (.goto (-29), 3) := by decide +kernel
theorem dd_X9_fillCan_34 : decode cX9_fillCan 34 = .ok (.iload_n 1, 1) := by decide +kernel
theorem dd_X9_fillCan_35 : decode cX9_fillCan 35 = .ok (.iconst 1, 1) := by decide +kernel
theorem dd_X9_fillCan_36 : decode cX9_fillCan 36 = .ok (.isub, 1) := by decide +kernel
theorem dd_X9_fillCan_37 : decode cX9_fillCan 37 = .ok (.istore_n 3, 1) := by decide +kernel
theorem dd_X9_fillCan_38 : decode cX9_fillCan 38 = .ok (.iload_n 3, 1) := by decide +kernel
theorem dd_X9_fillCan_39 : decode cX9_fillCan 39 = .ok (.ifCond .lt 45, 3) := by decide +kernel
theorem dd_X9_fillCan_84 : decode cX9_fillCan 84 = .ok (.return_, 1) := by decide +kernel
theorem dd_X9_fillCosts_0 : decode cX9_fillCosts 0 = .ok (.aload_n 0, 1) := by decide +kernel
theorem dd_X9_fillCosts_1 : decode cX9_fillCosts 1 = .ok (.getfield 9, 3) := by decide +kernel
theorem dd_X9_fillCosts_4 : decode cX9_fillCosts 4 = .ok (.iconst 0, 1) := by decide +kernel
theorem dd_X9_fillCosts_5 : decode cX9_fillCosts 5 = .ok (.invokestatic 44, 3) := by decide +kernel
theorem dd_X9_fillCosts_8 : decode cX9_fillCosts 8 = .ok (.iconst 0, 1) := by decide +kernel
theorem dd_X9_fillCosts_9 : decode cX9_fillCosts 9 = .ok (.istore_n 2, 1) := by decide +kernel
theorem dd_X9_fillCosts_10 : decode cX9_fillCosts 10 = .ok (.iload_n 2, 1) := by decide +kernel
theorem dd_X9_fillCosts_11 : decode cX9_fillCosts 11 = .ok (.aload_n 1, 1) := by decide +kernel
theorem dd_X9_fillCosts_12 : decode cX9_fillCosts 12 = .ok (.invokevirtual 30, 3) := by decide +kernel
theorem dd_X9_fillCosts_15 : decode cX9_fillCosts 15 = .ok (.if_icmp .ge 68, 3) := by decide +kernel
theorem dd_X9_fillCosts_83 : decode cX9_fillCosts 83 = .ok (.return_, 1) := by decide +kernel
theorem dd_X9_find_0 : decode cX9_find 0 = .ok (.aload_n 0, 1) := by decide +kernel
theorem dd_X9_find_1 : decode cX9_find 1 = .ok (.aload_n 1, 1) := by decide +kernel
theorem dd_X9_find_2 : decode cX9_find 2 = .ok (.invokevirtual 22, 3) := by decide +kernel
theorem dd_X9_find_5 : decode cX9_find 5 = .ok (.aload_n 0, 1) := by decide +kernel
theorem dd_X9_find_6 : decode cX9_find 6 = .ok (.iload_n 2, 1) := by decide +kernel
theorem dd_X9_find_7 : decode cX9_find 7 = .ok (.invokevirtual 26, 3) := by decide +kernel
theorem dd_X9_find_10 : decode cX9_find 10 = .ok (.istore_n 3, 1) := by decide +kernel
theorem dd_X9_find_11 : decode cX9_find 11 = .ok (.iload_n 3, 1) := by decide +kernel
theorem dd_X9_find_12 : decode cX9_find 12 = .ok (.iconst (-1), 1) := by decide +kernel
theorem dd_X9_find_13 : decode cX9_find 13 = .ok (.if_icmp .ne 5, 3) := by decide +kernel
theorem dd_X9_find_16 : decode cX9_find 16 = .ok (.iconst (-1), 1) := by decide +kernel
theorem dd_X9_find_17 : decode cX9_find 17 = .ok (.ireturn, 1) := by decide +kernel
theorem dd_X9_find_18 : decode cX9_find 18 = .ok (.aload_n 0, 1) := by decide +kernel
theorem dd_X9_find_19 : decode cX9_find 19 = .ok (.aload_n 1, 1) := by decide +kernel
theorem dd_X9_find_20 : decode cX9_find 20 = .ok (.invokevirtual 30, 3) := by decide +kernel
theorem dd_X9_find_23 : decode cX9_find 23 = .ok (.iload_n 3, 1) := by decide +kernel
theorem dd_X9_find_24 : decode cX9_find 24 = .ok (.invokevirtual 36, 3) := by decide +kernel
theorem dd_X9_find_27 : decode cX9_find 27 = .ok (.iload_n 2, 1) := by decide +kernel
theorem dd_X9_find_28 : decode cX9_find 28 = .ok (.istore 4, 2) := by decide +kernel
theorem dd_X9_find_30 : decode cX9_find 30 = .ok (.iload 4, 2) := by decide +kernel
theorem dd_X9_find_32 : decode cX9_find 32 = .ok (.bipush 121, 2) := by decide +kernel
theorem dd_X9_find_34 : decode cX9_find 34 = .ok (.if_icmp .ge 32, 3) := by decide +kernel
theorem dd_X9_find_37 : decode cX9_find 37 = .ok (.aload_n 0, 1) := by decide +kernel
theorem dd_X9_find_38 : decode cX9_find 38 = .ok (.getfield 15, 3) := by decide +kernel
theorem dd_X9_find_41 : decode cX9_find 41 = .ok (.iload 4, 2) := by decide +kernel
theorem dd_X9_find_43 : decode cX9_find 43 = .ok (.baload, 1) := by decide +kernel
theorem dd_X9_find_44 : decode cX9_find 44 = .ok (.ifCond .eq 16, 3) := by decide +kernel
theorem dd_X9_find_47 : decode cX9_find 47 = .ok (.aload_n 0, 1) := by decide +kernel
theorem dd_X9_find_48 : decode cX9_find 48 = .ok (.aload_n 1, 1) := by decide +kernel
theorem dd_X9_find_49 : decode cX9_find 49 = .ok (.invokevirtual 30, 3) := by decide +kernel
theorem dd_X9_find_52 : decode cX9_find 52 = .ok (.iload_n 3, 1) := by decide +kernel
theorem dd_X9_find_53 : decode cX9_find 53 = .ok (.iload 4, 2) := by decide +kernel
theorem dd_X9_find_55 : decode cX9_find 55 = .ok (.invokevirtual 40, 3) := by decide +kernel
theorem dd_X9_find_58 : decode cX9_find 58 = .ok (.iload_n 3, 1) := by decide +kernel
theorem dd_X9_find_59 : decode cX9_find 59 = .ok (.ireturn, 1) := by decide +kernel
theorem dd_X9_init_0 : decode cX9_init 0 = .ok (.aload_n 0, 1) := by decide +kernel
theorem dd_X9_init_1 : decode cX9_init 1 = .ok (.invokespecial 3, 3) := by decide +kernel
theorem dd_X9_init_4 : decode cX9_init 4 = .ok (.aload_n 0, 1) := by decide +kernel
theorem dd_X9_init_5 : decode cX9_init 5 = .ok (.bipush 36, 2) := by decide +kernel
theorem dd_X9_init_7 : decode cX9_init 7 = .ok (.newarray .int, 2) := by decide +kernel
theorem dd_X9_init_9 : decode cX9_init 9 = .ok (.putfield 9, 3) := by decide +kernel
theorem dd_X9_init_12 : decode cX9_init 12 = .ok (.aload_n 0, 1) := by decide +kernel
theorem dd_X9_init_13 : decode cX9_init 13 = .ok (.sipush 847, 3) := by decide +kernel
theorem dd_X9_init_16 : decode cX9_init 16 = .ok (.newarray .boolean, 2) := by decide +kernel
theorem dd_X9_init_18 : decode cX9_init 18 = .ok (.putfield 15, 3) := by decide +kernel
theorem dd_X9_init_21 : decode cX9_init 21 = .ok (.aload_n 0, 1) := by decide +kernel
theorem dd_X9_init_22 : decode cX9_init 22 = .ok (.bipush 6, 2) := by decide +kernel
theorem dd_X9_init_24 : decode cX9_init 24 = .ok (.newarray .int, 2) := by decide +kernel
theorem dd_X9_init_26 : decode cX9_init 26 = .ok (.putfield 19, 3) := by decide +kernel
theorem dd_X9_init_29 : decode cX9_init 29 = .ok (.return_, 1) := by decide +kernel
theorem dd_X9_leastGreatest_0 : decode cX9_leastGreatest 0 = .ok (.iconst 0, 1) := by decide +kernel
theorem dd_X9_leastGreatest_1 : decode cX9_leastGreatest 1 = .ok (.istore_n 2, 1) := by decide +kernel
theorem dd_X9_leastGreatest_2 : decode cX9_leastGreatest 2 = .ok (.iload_n 2, 1) := by decide +kernel
theorem dd_X9_leastGreatest_3 : decode cX9_leastGreatest 3 = .ok (.bipush 20, 2) := by decide +kernel
theorem dd_X9_leastGreatest_5 : decode cX9_leastGreatest 5 = .ok (.if_icmp .gt 44, 3) := by decide +kernel
theorem dd_X9_leastGreatest_8 : decode cX9_leastGreatest 8 = .ok (.iconst 0, 1) := by decide +kernel
theorem dd_X9_leastGreatest_9 : decode cX9_leastGreatest 9 = .ok (.istore_n 3, 1) := by decide +kernel
theorem dd_X9_leastGreatest_10 : decode cX9_leastGreatest 10 = .ok (.iconst 0, 1) := by decide +kernel
theorem dd_X9_leastGreatest_11 : decode cX9_leastGreatest 11 = .ok (.istore 4, 2) := by decide +kernel
theorem dd_X9_leastGreatest_13 : decode cX9_leastGreatest 13 = .ok (.iload 4, 2) := by decide +kernel
theorem dd_X9_leastGreatest_15 : decode cX9_leastGreatest 15 = .ok (.bipush 6, 2) := by decide +kernel
theorem dd_X9_leastGreatest_17 : decode cX9_leastGreatest 17 = .ok (.if_icmp .ge 19, 3) := by decide +kernel
theorem dd_X9_leastGreatest_20 : decode cX9_leastGreatest 20 = .ok (.iload_n 3, 1) := by decide +kernel
theorem dd_X9_leastGreatest_21 : decode cX9_leastGreatest 21 = .ok (.aload_n 0, 1) := by decide +kernel
theorem dd_X9_leastGreatest_22 : decode cX9_leastGreatest 22 = .ok (.iload 4, 2) := by decide +kernel
theorem dd_X9_leastGreatest_24 : decode cX9_leastGreatest 24 = .ok (.iload_n 2, 1) := by decide +kernel
theorem dd_X9_leastGreatest_25 : decode cX9_leastGreatest 25 = .ok (.invokevirtual 66, 3) := by decide +kernel
theorem dd_X9_leastGreatest_28 : decode cX9_leastGreatest 28 = .ok (.iadd, 1) := by decide +kernel
theorem dd_X9_leastGreatest_29 : decode cX9_leastGreatest 29 = .ok (.istore_n 3, 1) := by decide +kernel
theorem dd_X9_leastGreatest_30 : decode cX9_leastGreatest 30 = .ok (.iinc 4 1, 3) := by decide +kernel
theorem dd_X9_leastGreatest_33 : decode cX9_leastGreatest 33 = .ok (.goto (-20), 3) := by decide +kernel
theorem dd_X9_leastGreatest_36 : decode cX9_leastGreatest 36 = .ok (.iload_n 3, 1) := by decide +kernel
theorem dd_X9_leastGreatest_37 : decode cX9_leastGreatest 37 = .ok (.iload_n 1, 1) := by decide +kernel
theorem dd_X9_leastGreatest_38 : decode cX9_leastGreatest 38 = .ok (.if_icmp .lt 5, 3) := by decide +kernel
theorem dd_X9_leastGreatest_41 : decode cX9_leastGreatest 41 = .ok (.iload_n 2, 1) := by decide +kernel
theorem dd_X9_leastGreatest_42 : decode cX9_leastGreatest 42 = .ok (.ireturn, 1) := by decide +kernel
theorem dd_X9_leastGreatest_43 : decode cX9_leastGreatest 43 = .ok (.iinc 2 1, 3) := by decide +kernel
theorem dd_X9_leastGreatest_46 : decode cX9_leastGreatest 46 = .ok (.goto (-44), 3) := by decide +kernel
theorem dd_X9_leastGreatest_49 : decode cX9_leastGreatest 49 = .ok (.iconst (-1), 1) := by decide +kernel
theorem dd_X9_leastGreatest_50 : decode cX9_leastGreatest 50 = .ok (.ireturn, 1) := by decide +kernel
theorem dd_L_law_23 : decode cL_law 23 = .ok (.iload 4, 2) := by decide +kernel
theorem dd_L_law_25 : decode cL_law 25 = .ok (.aload_n 0, 1) := by decide +kernel
theorem dd_L_law_26 : decode cL_law 26 = .ok (.arraylength, 1) := by decide +kernel
theorem dd_L_law_27 : decode cL_law 27 = .ok (.bipush 6, 2) := by decide +kernel
theorem dd_L_law_29 : decode cL_law 29 = .ok (.isub, 1) := by decide +kernel
theorem dd_L_law_30 : decode cL_law 30 = .ok (.if_icmp .gt 1449, 3) := by decide +kernel
theorem dd_L_law_224 : decode cL_law 224 = .ok (.aload_n 1, 1) := by decide +kernel
theorem dd_L_law_225 : decode cL_law 225 = .ok (.aload_n 0, 1) := by decide +kernel
theorem dd_L_law_226 : decode cL_law 226 = .ok (.iload 4, 2) := by decide +kernel
theorem dd_L_law_228 : decode cL_law 228 = .ok (.iconst 1, 1) := by decide +kernel
theorem dd_L_law_229 : decode cL_law 229 = .ok (.iadd, 1) := by decide +kernel
theorem dd_L_law_230 : decode cL_law 230 = .ok (.iaload, 1) := by decide +kernel
theorem dd_L_law_231 : decode cL_law 231 = .ok (.aload_n 0, 1) := by decide +kernel
theorem dd_L_law_232 : decode cL_law 232 = .ok (.iload 4, 2) := by decide +kernel
theorem dd_L_law_234 : decode cL_law 234 = .ok (.iconst 2, 1) := by decide +kernel
theorem dd_L_law_235 : decode cL_law 235 = .ok (.iadd, 1) := by decide +kernel
theorem dd_L_law_236 : decode cL_law 236 = .ok (.iaload, 1) := by decide +kernel
theorem dd_L_law_237 : decode cL_law 237 = .ok (.aload_n 0, 1) := by decide +kernel
theorem dd_L_law_238 : decode cL_law 238 = .ok (.iload 4, 2) := by decide +kernel
theorem dd_L_law_240 : decode cL_law 240 = .ok (.iconst 3, 1) := by decide +kernel
theorem dd_L_law_241 : decode cL_law 241 = .ok (.iadd, 1) := by decide +kernel
theorem dd_L_law_242 : decode cL_law 242 = .ok (.iaload, 1) := by decide +kernel
theorem dd_L_law_243 : decode cL_law 243 = .ok (.aload_n 0, 1) := by decide +kernel
theorem dd_L_law_244 : decode cL_law 244 = .ok (.iload 4, 2) := by decide +kernel
theorem dd_L_law_246 : decode cL_law 246 = .ok (.iconst 4, 1) := by decide +kernel
theorem dd_L_law_247 : decode cL_law 247 = .ok (.iadd, 1) := by decide +kernel
theorem dd_L_law_248 : decode cL_law 248 = .ok (.iaload, 1) := by decide +kernel
theorem dd_L_law_249 : decode cL_law 249 = .ok (.aload_n 0, 1) := by decide +kernel
theorem dd_L_law_250 : decode cL_law 250 = .ok (.iload 4, 2) := by decide +kernel
theorem dd_L_law_252 : decode cL_law 252 = .ok (.iconst 5, 1) := by decide +kernel
theorem dd_L_law_253 : decode cL_law 253 = .ok (.iadd, 1) := by decide +kernel
theorem dd_L_law_254 : decode cL_law 254 = .ok (.iaload, 1) := by decide +kernel
theorem dd_L_law_255 : decode cL_law 255 = .ok (.invokevirtual 19, 3) := by decide +kernel
theorem dd_L_law_258 : decode cL_law 258 = .ok (.aload_n 2, 1) := by decide +kernel
theorem dd_L_law_259 : decode cL_law 259 = .ok (.aload_n 0, 1) := by decide +kernel
theorem dd_L_law_260 : decode cL_law 260 = .ok (.iload 4, 2) := by decide +kernel
theorem dd_L_law_262 : decode cL_law 262 = .ok (.iconst 1, 1) := by decide +kernel
theorem dd_L_law_263 : decode cL_law 263 = .ok (.iadd, 1) := by decide +kernel
theorem dd_L_law_264 : decode cL_law 264 = .ok (.iaload, 1) := by decide +kernel
theorem dd_L_law_265 : decode cL_law 265 = .ok (.aload_n 0, 1) := by decide +kernel
theorem dd_L_law_266 : decode cL_law 266 = .ok (.iload 4, 2) := by decide +kernel
theorem dd_L_law_268 : decode cL_law 268 = .ok (.iconst 2, 1) := by decide +kernel
theorem dd_L_law_269 : decode cL_law 269 = .ok (.iadd, 1) := by decide +kernel
theorem dd_L_law_270 : decode cL_law 270 = .ok (.iaload, 1) := by decide +kernel
theorem dd_L_law_271 : decode cL_law 271 = .ok (.aload_n 0, 1) := by decide +kernel
theorem dd_L_law_272 : decode cL_law 272 = .ok (.iload 4, 2) := by decide +kernel
theorem dd_L_law_274 : decode cL_law 274 = .ok (.iconst 3, 1) := by decide +kernel
theorem dd_L_law_275 : decode cL_law 275 = .ok (.iadd, 1) := by decide +kernel
theorem dd_L_law_276 : decode cL_law 276 = .ok (.iaload, 1) := by decide +kernel
theorem dd_L_law_277 : decode cL_law 277 = .ok (.aload_n 0, 1) := by decide +kernel
theorem dd_L_law_278 : decode cL_law 278 = .ok (.iload 4, 2) := by decide +kernel
theorem dd_L_law_280 : decode cL_law 280 = .ok (.iconst 4, 1) := by decide +kernel
theorem dd_L_law_281 : decode cL_law 281 = .ok (.iadd, 1) := by decide +kernel
theorem dd_L_law_282 : decode cL_law 282 = .ok (.iaload, 1) := by decide +kernel
theorem dd_L_law_283 : decode cL_law 283 = .ok (.aload_n 0, 1) := by decide +kernel
theorem dd_L_law_284 : decode cL_law 284 = .ok (.iload 4, 2) := by decide +kernel
theorem dd_L_law_286 : decode cL_law 286 = .ok (.iconst 5, 1) := by decide +kernel
theorem dd_L_law_287 : decode cL_law 287 = .ok (.iadd, 1) := by decide +kernel
theorem dd_L_law_288 : decode cL_law 288 = .ok (.iaload, 1) := by decide +kernel
theorem dd_L_law_289 : decode cL_law 289 = .ok (.invokevirtual 23, 3) := by decide +kernel
theorem dd_L_law_292 : decode cL_law 292 = .ok (.if_icmp .eq 1181, 3) := by decide +kernel
theorem dd_L_law_297 : decode cL_law 297 = .ok (.aload_n 1, 1) := by decide +kernel
theorem dd_L_law_298 : decode cL_law 298 = .ok (.aload_n 0, 1) := by decide +kernel
theorem dd_L_law_299 : decode cL_law 299 = .ok (.iload 4, 2) := by decide +kernel
theorem dd_L_law_301 : decode cL_law 301 = .ok (.iconst 1, 1) := by decide +kernel
theorem dd_L_law_302 : decode cL_law 302 = .ok (.iadd, 1) := by decide +kernel
theorem dd_L_law_303 : decode cL_law 303 = .ok (.iaload, 1) := by decide +kernel
theorem dd_L_law_304 : decode cL_law 304 = .ok (.invokevirtual 24, 3) := by decide +kernel
theorem dd_L_law_307 : decode cL_law 307 = .ok (.aload_n 2, 1) := by decide +kernel
theorem dd_L_law_308 : decode cL_law 308 = .ok (.aload_n 0, 1) := by decide +kernel
theorem dd_L_law_309 : decode cL_law 309 = .ok (.iload 4, 2) := by decide +kernel
theorem dd_L_law_311 : decode cL_law 311 = .ok (.iconst 1, 1) := by decide +kernel
theorem dd_L_law_312 : decode cL_law 312 = .ok (.iadd, 1) := by decide +kernel
theorem dd_L_law_313 : decode cL_law 313 = .ok (.iaload, 1) := by decide +kernel
theorem dd_L_law_314 : decode cL_law 314 = .ok (.invokevirtual 28, 3) := by decide +kernel
theorem dd_L_law_317 : decode cL_law 317 = .ok (.if_icmp .eq 1156, 3) := by decide +kernel
theorem dd_L_law_322 : decode cL_law 322 = .ok (.aload_n 1, 1) := by decide +kernel
theorem dd_L_law_323 : decode cL_law 323 = .ok (.invokevirtual 29, 3) := by decide +kernel
theorem dd_L_law_326 : decode cL_law 326 = .ok (.aload_n 2, 1) := by decide +kernel
theorem dd_L_law_327 : decode cL_law 327 = .ok (.invokevirtual 33, 3) := by decide +kernel
theorem dd_L_law_330 : decode cL_law 330 = .ok (.if_icmp .eq 1143, 3) := by decide +kernel
theorem dd_L_law_335 : decode cL_law 335 = .ok (.aload_n 1, 1) := by decide +kernel
theorem dd_L_law_336 : decode cL_law 336 = .ok (.invokevirtual 34, 3) := by decide +kernel
theorem dd_L_law_339 : decode cL_law 339 = .ok (.aload_n 2, 1) := by decide +kernel
theorem dd_L_law_340 : decode cL_law 340 = .ok (.invokevirtual 37, 3) := by decide +kernel
theorem dd_L_law_343 : decode cL_law 343 = .ok (.if_icmp .eq 1130, 3) := by decide +kernel
theorem dd_L_law_416 : decode cL_law 416 = .ok (.aload_n 1, 1) := by decide +kernel
theorem dd_L_law_417 : decode cL_law 417 = .ok (.aload_n 0, 1) := by decide +kernel
theorem dd_L_law_418 : decode cL_law 418 = .ok (.iload 4, 2) := by decide +kernel
theorem dd_L_law_420 : decode cL_law 420 = .ok (.iconst 1, 1) := by decide +kernel
theorem dd_L_law_421 : decode cL_law 421 = .ok (.iadd, 1) := by decide +kernel
theorem dd_L_law_422 : decode cL_law 422 = .ok (.iaload, 1) := by decide +kernel
theorem dd_L_law_423 : decode cL_law 423 = .ok (.aload_n 0, 1) := by decide +kernel
theorem dd_L_law_424 : decode cL_law 424 = .ok (.iload 4, 2) := by decide +kernel
theorem dd_L_law_426 : decode cL_law 426 = .ok (.iconst 2, 1) := by decide +kernel
theorem dd_L_law_427 : decode cL_law 427 = .ok (.iadd, 1) := by decide +kernel
theorem dd_L_law_428 : decode cL_law 428 = .ok (.iaload, 1) := by decide +kernel
theorem dd_L_law_429 : decode cL_law 429 = .ok (.invokevirtual 47, 3) := by decide +kernel
theorem dd_L_law_432 : decode cL_law 432 = .ok (.aload_n 2, 1) := by decide +kernel
theorem dd_L_law_433 : decode cL_law 433 = .ok (.aload_n 0, 1) := by decide +kernel
theorem dd_L_law_434 : decode cL_law 434 = .ok (.iload 4, 2) := by decide +kernel
theorem dd_L_law_436 : decode cL_law 436 = .ok (.iconst 1, 1) := by decide +kernel
theorem dd_L_law_437 : decode cL_law 437 = .ok (.iadd, 1) := by decide +kernel
theorem dd_L_law_438 : decode cL_law 438 = .ok (.iaload, 1) := by decide +kernel
theorem dd_L_law_439 : decode cL_law 439 = .ok (.aload_n 0, 1) := by decide +kernel
theorem dd_L_law_440 : decode cL_law 440 = .ok (.iload 4, 2) := by decide +kernel
theorem dd_L_law_442 : decode cL_law 442 = .ok (.iconst 2, 1) := by decide +kernel
theorem dd_L_law_443 : decode cL_law 443 = .ok (.iadd, 1) := by decide +kernel
theorem dd_L_law_444 : decode cL_law 444 = .ok (.iaload, 1) := by decide +kernel
theorem dd_L_law_445 : decode cL_law 445 = .ok (.invokevirtual 50, 3) := by decide +kernel
theorem dd_L_law_448 : decode cL_law 448 = .ok (.if_icmp .eq 1025, 3) := by decide +kernel
theorem dd_L_law_453 : decode cL_law 453 = .ok (.aload_n 1, 1) := by decide +kernel
theorem dd_L_law_454 : decode cL_law 454 = .ok (.aload_n 0, 1) := by decide +kernel
theorem dd_L_law_455 : decode cL_law 455 = .ok (.iload 4, 2) := by decide +kernel
theorem dd_L_law_457 : decode cL_law 457 = .ok (.iconst 1, 1) := by decide +kernel
theorem dd_L_law_458 : decode cL_law 458 = .ok (.iadd, 1) := by decide +kernel
theorem dd_L_law_459 : decode cL_law 459 = .ok (.iaload, 1) := by decide +kernel
theorem dd_L_law_460 : decode cL_law 460 = .ok (.aload_n 0, 1) := by decide +kernel
theorem dd_L_law_461 : decode cL_law 461 = .ok (.iload 4, 2) := by decide +kernel
theorem dd_L_law_463 : decode cL_law 463 = .ok (.iconst 2, 1) := by decide +kernel
theorem dd_L_law_464 : decode cL_law 464 = .ok (.iadd, 1) := by decide +kernel
theorem dd_L_law_465 : decode cL_law 465 = .ok (.iaload, 1) := by decide +kernel
theorem dd_L_law_466 : decode cL_law 466 = .ok (.invokevirtual 51, 3) := by decide +kernel
theorem dd_L_law_469 : decode cL_law 469 = .ok (.aload_n 2, 1) := by decide +kernel
theorem dd_L_law_470 : decode cL_law 470 = .ok (.aload_n 0, 1) := by decide +kernel
theorem dd_L_law_471 : decode cL_law 471 = .ok (.iload 4, 2) := by decide +kernel
theorem dd_L_law_473 : decode cL_law 473 = .ok (.iconst 1, 1) := by decide +kernel
theorem dd_L_law_474 : decode cL_law 474 = .ok (.iadd, 1) := by decide +kernel
theorem dd_L_law_475 : decode cL_law 475 = .ok (.iaload, 1) := by decide +kernel
theorem dd_L_law_476 : decode cL_law 476 = .ok (.aload_n 0, 1) := by decide +kernel
theorem dd_L_law_477 : decode cL_law 477 = .ok (.iload 4, 2) := by decide +kernel
theorem dd_L_law_479 : decode cL_law 479 = .ok (.iconst 2, 1) := by decide +kernel
theorem dd_L_law_480 : decode cL_law 480 = .ok (.iadd, 1) := by decide +kernel
theorem dd_L_law_481 : decode cL_law 481 = .ok (.iaload, 1) := by decide +kernel
theorem dd_L_law_482 : decode cL_law 482 = .ok (.invokevirtual 54, 3) := by decide +kernel
theorem dd_L_law_485 : decode cL_law 485 = .ok (.if_icmp .eq 988, 3) := by decide +kernel
theorem dd_L_law_490 : decode cL_law 490 = .ok (.aload_n 1, 1) := by decide +kernel
theorem dd_L_law_491 : decode cL_law 491 = .ok (.aload_n 0, 1) := by decide +kernel
theorem dd_L_law_492 : decode cL_law 492 = .ok (.iload 4, 2) := by decide +kernel
theorem dd_L_law_494 : decode cL_law 494 = .ok (.iconst 1, 1) := by decide +kernel
theorem dd_L_law_495 : decode cL_law 495 = .ok (.iadd, 1) := by decide +kernel
theorem dd_L_law_496 : decode cL_law 496 = .ok (.iaload, 1) := by decide +kernel
theorem dd_L_law_497 : decode cL_law 497 = .ok (.aload_n 0, 1) := by decide +kernel
theorem dd_L_law_498 : decode cL_law 498 = .ok (.iload 4, 2) := by decide +kernel
theorem dd_L_law_500 : decode cL_law 500 = .ok (.iconst 2, 1) := by decide +kernel
theorem dd_L_law_501 : decode cL_law 501 = .ok (.iadd, 1) := by decide +kernel
theorem dd_L_law_502 : decode cL_law 502 = .ok (.iaload, 1) := by decide +kernel
theorem dd_L_law_503 : decode cL_law 503 = .ok (.invokevirtual 55, 3) := by decide +kernel
theorem dd_L_law_506 : decode cL_law 506 = .ok (.aload_n 2, 1) := by decide +kernel
theorem dd_L_law_507 : decode cL_law 507 = .ok (.aload_n 0, 1) := by decide +kernel
theorem dd_L_law_508 : decode cL_law 508 = .ok (.iload 4, 2) := by decide +kernel
theorem dd_L_law_510 : decode cL_law 510 = .ok (.iconst 1, 1) := by decide +kernel
theorem dd_L_law_511 : decode cL_law 511 = .ok (.iadd, 1) := by decide +kernel
theorem dd_L_law_512 : decode cL_law 512 = .ok (.iaload, 1) := by decide +kernel
theorem dd_L_law_513 : decode cL_law 513 = .ok (.aload_n 0, 1) := by decide +kernel
theorem dd_L_law_514 : decode cL_law 514 = .ok (.iload 4, 2) := by decide +kernel
theorem dd_L_law_516 : decode cL_law 516 = .ok (.iconst 2, 1) := by decide +kernel
theorem dd_L_law_517 : decode cL_law 517 = .ok (.iadd, 1) := by decide +kernel
theorem dd_L_law_518 : decode cL_law 518 = .ok (.iaload, 1) := by decide +kernel
theorem dd_L_law_519 : decode cL_law 519 = .ok (.invokevirtual 58, 3) := by decide +kernel
theorem dd_L_law_522 : decode cL_law 522 = .ok (.if_icmp .eq 951, 3) := by decide +kernel
theorem dd_L_law_527 : decode cL_law 527 = .ok (.aload_n 1, 1) := by decide +kernel
theorem dd_L_law_528 : decode cL_law 528 = .ok (.aload_n 0, 1) := by decide +kernel
theorem dd_L_law_529 : decode cL_law 529 = .ok (.iload 4, 2) := by decide +kernel
theorem dd_L_law_531 : decode cL_law 531 = .ok (.iconst 1, 1) := by decide +kernel
theorem dd_L_law_532 : decode cL_law 532 = .ok (.iadd, 1) := by decide +kernel
theorem dd_L_law_533 : decode cL_law 533 = .ok (.iaload, 1) := by decide +kernel
theorem dd_L_law_534 : decode cL_law 534 = .ok (.aload_n 0, 1) := by decide +kernel
theorem dd_L_law_535 : decode cL_law 535 = .ok (.iload 4, 2) := by decide +kernel
theorem dd_L_law_537 : decode cL_law 537 = .ok (.iconst 2, 1) := by decide +kernel
theorem dd_L_law_538 : decode cL_law 538 = .ok (.iadd, 1) := by decide +kernel
theorem dd_L_law_539 : decode cL_law 539 = .ok (.iaload, 1) := by decide +kernel
theorem dd_L_law_540 : decode cL_law 540 = .ok (.invokevirtual 59, 3) := by decide +kernel
theorem dd_L_law_543 : decode cL_law 543 = .ok (.aload_n 2, 1) := by decide +kernel
theorem dd_L_law_544 : decode cL_law 544 = .ok (.aload_n 0, 1) := by decide +kernel
theorem dd_L_law_545 : decode cL_law 545 = .ok (.iload 4, 2) := by decide +kernel
theorem dd_L_law_547 : decode cL_law 547 = .ok (.iconst 1, 1) := by decide +kernel
theorem dd_L_law_548 : decode cL_law 548 = .ok (.iadd, 1) := by decide +kernel
theorem dd_L_law_549 : decode cL_law 549 = .ok (.iaload, 1) := by decide +kernel
theorem dd_L_law_550 : decode cL_law 550 = .ok (.aload_n 0, 1) := by decide +kernel
theorem dd_L_law_551 : decode cL_law 551 = .ok (.iload 4, 2) := by decide +kernel
theorem dd_L_law_553 : decode cL_law 553 = .ok (.iconst 2, 1) := by decide +kernel
theorem dd_L_law_554 : decode cL_law 554 = .ok (.iadd, 1) := by decide +kernel
theorem dd_L_law_555 : decode cL_law 555 = .ok (.iaload, 1) := by decide +kernel
theorem dd_L_law_556 : decode cL_law 556 = .ok (.invokevirtual 62, 3) := by decide +kernel
theorem dd_L_law_559 : decode cL_law 559 = .ok (.if_icmp .eq 914, 3) := by decide +kernel
theorem dd_L_law_564 : decode cL_law 564 = .ok (.aload_n 1, 1) := by decide +kernel
theorem dd_L_law_565 : decode cL_law 565 = .ok (.aload_n 0, 1) := by decide +kernel
theorem dd_L_law_566 : decode cL_law 566 = .ok (.iload 4, 2) := by decide +kernel
theorem dd_L_law_568 : decode cL_law 568 = .ok (.iconst 1, 1) := by decide +kernel
theorem dd_L_law_569 : decode cL_law 569 = .ok (.iadd, 1) := by decide +kernel
theorem dd_L_law_570 : decode cL_law 570 = .ok (.iaload, 1) := by decide +kernel
theorem dd_L_law_571 : decode cL_law 571 = .ok (.aload_n 0, 1) := by decide +kernel
theorem dd_L_law_572 : decode cL_law 572 = .ok (.iload 4, 2) := by decide +kernel
theorem dd_L_law_574 : decode cL_law 574 = .ok (.iconst 2, 1) := by decide +kernel
theorem dd_L_law_575 : decode cL_law 575 = .ok (.iadd, 1) := by decide +kernel
theorem dd_L_law_576 : decode cL_law 576 = .ok (.iaload, 1) := by decide +kernel
theorem dd_L_law_577 : decode cL_law 577 = .ok (.invokevirtual 63, 3) := by decide +kernel
theorem dd_L_law_580 : decode cL_law 580 = .ok (.aload_n 2, 1) := by decide +kernel
theorem dd_L_law_581 : decode cL_law 581 = .ok (.aload_n 0, 1) := by decide +kernel
theorem dd_L_law_582 : decode cL_law 582 = .ok (.iload 4, 2) := by decide +kernel
theorem dd_L_law_584 : decode cL_law 584 = .ok (.iconst 1, 1) := by decide +kernel
theorem dd_L_law_585 : decode cL_law 585 = .ok (.iadd, 1) := by decide +kernel
theorem dd_L_law_586 : decode cL_law 586 = .ok (.iaload, 1) := by decide +kernel
theorem dd_L_law_587 : decode cL_law 587 = .ok (.aload_n 0, 1) := by decide +kernel
theorem dd_L_law_588 : decode cL_law 588 = .ok (.iload 4, 2) := by decide +kernel
theorem dd_L_law_590 : decode cL_law 590 = .ok (.iconst 2, 1) := by decide +kernel
theorem dd_L_law_591 : decode cL_law 591 = .ok (.iadd, 1) := by decide +kernel
theorem dd_L_law_592 : decode cL_law 592 = .ok (.iaload, 1) := by decide +kernel
theorem dd_L_law_593 : decode cL_law 593 = .ok (.invokevirtual 66, 3) := by decide +kernel
theorem dd_L_law_596 : decode cL_law 596 = .ok (.if_icmp .eq 877, 3) := by decide +kernel
theorem dd_L_law_601 : decode cL_law 601 = .ok (.aload_n 1, 1) := by decide +kernel
theorem dd_L_law_602 : decode cL_law 602 = .ok (.aload_n 0, 1) := by decide +kernel
theorem dd_L_law_603 : decode cL_law 603 = .ok (.iload 4, 2) := by decide +kernel
theorem dd_L_law_605 : decode cL_law 605 = .ok (.iconst 1, 1) := by decide +kernel
theorem dd_L_law_606 : decode cL_law 606 = .ok (.iadd, 1) := by decide +kernel
theorem dd_L_law_607 : decode cL_law 607 = .ok (.iaload, 1) := by decide +kernel
theorem dd_L_law_608 : decode cL_law 608 = .ok (.invokevirtual 67, 3) := by decide +kernel
theorem dd_L_law_611 : decode cL_law 611 = .ok (.aload_n 2, 1) := by decide +kernel
theorem dd_L_law_612 : decode cL_law 612 = .ok (.aload_n 0, 1) := by decide +kernel
theorem dd_L_law_613 : decode cL_law 613 = .ok (.iload 4, 2) := by decide +kernel
theorem dd_L_law_615 : decode cL_law 615 = .ok (.iconst 1, 1) := by decide +kernel
theorem dd_L_law_616 : decode cL_law 616 = .ok (.iadd, 1) := by decide +kernel
theorem dd_L_law_617 : decode cL_law 617 = .ok (.iaload, 1) := by decide +kernel
theorem dd_L_law_618 : decode cL_law 618 = .ok (.invokevirtual 71, 3) := by decide +kernel
theorem dd_L_law_621 : decode cL_law 621 = .ok (.if_icmp .eq 852, 3) := by decide +kernel
theorem dd_L_law_626 : decode cL_law 626 = .ok (.aload_n 1, 1) := by decide +kernel
theorem dd_L_law_627 : decode cL_law 627 = .ok (.aload_n 0, 1) := by decide +kernel
theorem dd_L_law_628 : decode cL_law 628 = .ok (.iload 4, 2) := by decide +kernel
theorem dd_L_law_630 : decode cL_law 630 = .ok (.iconst 1, 1) := by decide +kernel
theorem dd_L_law_631 : decode cL_law 631 = .ok (.iadd, 1) := by decide +kernel
theorem dd_L_law_632 : decode cL_law 632 = .ok (.iaload, 1) := by decide +kernel
end
section
theorem dd_L_law_633 : decode cL_law 633 = .ok (.aload_n 0, 1) := by decide +kernel
theorem dd_L_law_634 : decode cL_law 634 = .ok (.iload 4, 2) := by decide +kernel
theorem dd_L_law_636 : decode cL_law 636 = .ok (.iconst 2, 1) := by decide +kernel
theorem dd_L_law_637 : decode cL_law 637 = .ok (.iadd, 1) := by decide +kernel
theorem dd_L_law_638 : decode cL_law 638 = .ok (.iaload, 1) := by decide +kernel
theorem dd_L_law_639 : decode cL_law 639 = .ok (.invokevirtual 72, 3) := by decide +kernel
theorem dd_L_law_642 : decode cL_law 642 = .ok (.aload_n 2, 1) := by decide +kernel
theorem dd_L_law_643 : decode cL_law 643 = .ok (.aload_n 0, 1) := by decide +kernel
theorem dd_L_law_644 : decode cL_law 644 = .ok (.iload 4, 2) := by decide +kernel
theorem dd_L_law_646 : decode cL_law 646 = .ok (.iconst 1, 1) := by decide +kernel
theorem dd_L_law_647 : decode cL_law 647 = .ok (.iadd, 1) := by decide +kernel
theorem dd_L_law_648 : decode cL_law 648 = .ok (.iaload, 1) := by decide +kernel
theorem dd_L_law_649 : decode cL_law 649 = .ok (.aload_n 0, 1) := by decide +kernel
theorem dd_L_law_650 : decode cL_law 650 = .ok (.iload 4, 2) := by decide +kernel
theorem dd_L_law_652 : decode cL_law 652 = .ok (.iconst 2, 1) := by decide +kernel
theorem dd_L_law_653 : decode cL_law 653 = .ok (.iadd, 1) := by decide +kernel
theorem dd_L_law_654 : decode cL_law 654 = .ok (.iaload, 1) := by decide +kernel
theorem dd_L_law_655 : decode cL_law 655 = .ok (.invokevirtual 75, 3) := by decide +kernel
theorem dd_L_law_658 : decode cL_law 658 = .ok (.if_icmp .eq 815, 3) := by decide +kernel
theorem dd_L_law_663 : decode cL_law 663 = .ok (.aload_n 1, 1) := by decide +kernel
theorem dd_L_law_664 : decode cL_law 664 = .ok (.aload_n 0, 1) := by decide +kernel
theorem dd_L_law_665 : decode cL_law 665 = .ok (.iload 4, 2) := by decide +kernel
theorem dd_L_law_667 : decode cL_law 667 = .ok (.iconst 1, 1) := by decide +kernel
theorem dd_L_law_668 : decode cL_law 668 = .ok (.iadd, 1) := by decide +kernel
theorem dd_L_law_669 : decode cL_law 669 = .ok (.iaload, 1) := by decide +kernel
theorem dd_L_law_670 : decode cL_law 670 = .ok (.aload_n 0, 1) := by decide +kernel
theorem dd_L_law_671 : decode cL_law 671 = .ok (.iload 4, 2) := by decide +kernel
theorem dd_L_law_673 : decode cL_law 673 = .ok (.iconst 2, 1) := by decide +kernel
theorem dd_L_law_674 : decode cL_law 674 = .ok (.iadd, 1) := by decide +kernel
theorem dd_L_law_675 : decode cL_law 675 = .ok (.iaload, 1) := by decide +kernel
theorem dd_L_law_676 : decode cL_law 676 = .ok (.invokevirtual 76, 3) := by decide +kernel
theorem dd_L_law_679 : decode cL_law 679 = .ok (.aload_n 2, 1) := by decide +kernel
theorem dd_L_law_680 : decode cL_law 680 = .ok (.aload_n 0, 1) := by decide +kernel
theorem dd_L_law_681 : decode cL_law 681 = .ok (.iload 4, 2) := by decide +kernel
theorem dd_L_law_683 : decode cL_law 683 = .ok (.iconst 1, 1) := by decide +kernel
theorem dd_L_law_684 : decode cL_law 684 = .ok (.iadd, 1) := by decide +kernel
theorem dd_L_law_685 : decode cL_law 685 = .ok (.iaload, 1) := by decide +kernel
theorem dd_L_law_686 : decode cL_law 686 = .ok (.aload_n 0, 1) := by decide +kernel
theorem dd_L_law_687 : decode cL_law 687 = .ok (.iload 4, 2) := by decide +kernel
theorem dd_L_law_689 : decode cL_law 689 = .ok (.iconst 2, 1) := by decide +kernel
theorem dd_L_law_690 : decode cL_law 690 = .ok (.iadd, 1) := by decide +kernel
theorem dd_L_law_691 : decode cL_law 691 = .ok (.iaload, 1) := by decide +kernel
theorem dd_L_law_692 : decode cL_law 692 = .ok (.invokevirtual 79, 3) := by decide +kernel
theorem dd_L_law_695 : decode cL_law 695 = .ok (.if_icmp .eq 778, 3) := by decide +kernel
theorem dd_L_law_700 : decode cL_law 700 = .ok (.aload_n 1, 1) := by decide +kernel
theorem dd_L_law_701 : decode cL_law 701 = .ok (.aload_n 0, 1) := by decide +kernel
theorem dd_L_law_702 : decode cL_law 702 = .ok (.iload 4, 2) := by decide +kernel
theorem dd_L_law_704 : decode cL_law 704 = .ok (.iconst 1, 1) := by decide +kernel
theorem dd_L_law_705 : decode cL_law 705 = .ok (.iadd, 1) := by decide +kernel
theorem dd_L_law_706 : decode cL_law 706 = .ok (.iaload, 1) := by decide +kernel
theorem dd_L_law_707 : decode cL_law 707 = .ok (.aload_n 0, 1) := by decide +kernel
theorem dd_L_law_708 : decode cL_law 708 = .ok (.iload 4, 2) := by decide +kernel
theorem dd_L_law_710 : decode cL_law 710 = .ok (.iconst 2, 1) := by decide +kernel
theorem dd_L_law_711 : decode cL_law 711 = .ok (.iadd, 1) := by decide +kernel
theorem dd_L_law_712 : decode cL_law 712 = .ok (.iaload, 1) := by decide +kernel
theorem dd_L_law_713 : decode cL_law 713 = .ok (.aload_n 0, 1) := by decide +kernel
theorem dd_L_law_714 : decode cL_law 714 = .ok (.iload 4, 2) := by decide +kernel
theorem dd_L_law_716 : decode cL_law 716 = .ok (.iconst 3, 1) := by decide +kernel
theorem dd_L_law_717 : decode cL_law 717 = .ok (.iadd, 1) := by decide +kernel
theorem dd_L_law_718 : decode cL_law 718 = .ok (.iaload, 1) := by decide +kernel
theorem dd_L_law_719 : decode cL_law 719 = .ok (.invokevirtual 80, 3) := by decide +kernel
theorem dd_L_law_722 : decode cL_law 722 = .ok (.aload_n 2, 1) := by decide +kernel
theorem dd_L_law_723 : decode cL_law 723 = .ok (.aload_n 0, 1) := by decide +kernel
theorem dd_L_law_724 : decode cL_law 724 = .ok (.iload 4, 2) := by decide +kernel
theorem dd_L_law_726 : decode cL_law 726 = .ok (.iconst 1, 1) := by decide +kernel
theorem dd_L_law_727 : decode cL_law 727 = .ok (.iadd, 1) := by decide +kernel
theorem dd_L_law_728 : decode cL_law 728 = .ok (.iaload, 1) := by decide +kernel
theorem dd_L_law_729 : decode cL_law 729 = .ok (.aload_n 0, 1) := by decide +kernel
theorem dd_L_law_730 : decode cL_law 730 = .ok (.iload 4, 2) := by decide +kernel
theorem dd_L_law_732 : decode cL_law 732 = .ok (.iconst 2, 1) := by decide +kernel
theorem dd_L_law_733 : decode cL_law 733 = .ok (.iadd, 1) := by decide +kernel
theorem dd_L_law_734 : decode cL_law 734 = .ok (.iaload, 1) := by decide +kernel
theorem dd_L_law_735 : decode cL_law 735 = .ok (.aload_n 0, 1) := by decide +kernel
theorem dd_L_law_736 : decode cL_law 736 = .ok (.iload 4, 2) := by decide +kernel
theorem dd_L_law_738 : decode cL_law 738 = .ok (.iconst 3, 1) := by decide +kernel
theorem dd_L_law_739 : decode cL_law 739 = .ok (.iadd, 1) := by decide +kernel
theorem dd_L_law_740 : decode cL_law 740 = .ok (.iaload, 1) := by decide +kernel
theorem dd_L_law_741 : decode cL_law 741 = .ok (.invokevirtual 84, 3) := by decide +kernel
theorem dd_L_law_744 : decode cL_law 744 = .ok (.if_icmp .eq 729, 3) := by decide +kernel
theorem dd_L_law_749 : decode cL_law 749 = .ok (.aload_n 1, 1) := by decide +kernel
theorem dd_L_law_750 : decode cL_law 750 = .ok (.aload_n 0, 1) := by decide +kernel
theorem dd_L_law_751 : decode cL_law 751 = .ok (.iload 4, 2) := by decide +kernel
theorem dd_L_law_753 : decode cL_law 753 = .ok (.iconst 1, 1) := by decide +kernel
theorem dd_L_law_754 : decode cL_law 754 = .ok (.iadd, 1) := by decide +kernel
theorem dd_L_law_755 : decode cL_law 755 = .ok (.iaload, 1) := by decide +kernel
theorem dd_L_law_756 : decode cL_law 756 = .ok (.aload_n 0, 1) := by decide +kernel
theorem dd_L_law_757 : decode cL_law 757 = .ok (.iload 4, 2) := by decide +kernel
theorem dd_L_law_759 : decode cL_law 759 = .ok (.iconst 2, 1) := by decide +kernel
theorem dd_L_law_760 : decode cL_law 760 = .ok (.iadd, 1) := by decide +kernel
theorem dd_L_law_761 : decode cL_law 761 = .ok (.iaload, 1) := by decide +kernel
theorem dd_L_law_762 : decode cL_law 762 = .ok (.aload_n 0, 1) := by decide +kernel
theorem dd_L_law_763 : decode cL_law 763 = .ok (.iload 4, 2) := by decide +kernel
theorem dd_L_law_765 : decode cL_law 765 = .ok (.iconst 3, 1) := by decide +kernel
theorem dd_L_law_766 : decode cL_law 766 = .ok (.iadd, 1) := by decide +kernel
theorem dd_L_law_767 : decode cL_law 767 = .ok (.iaload, 1) := by decide +kernel
theorem dd_L_law_768 : decode cL_law 768 = .ok (.invokevirtual 85, 3) := by decide +kernel
theorem dd_L_law_771 : decode cL_law 771 = .ok (.aload_n 2, 1) := by decide +kernel
theorem dd_L_law_772 : decode cL_law 772 = .ok (.aload_n 0, 1) := by decide +kernel
theorem dd_L_law_773 : decode cL_law 773 = .ok (.iload 4, 2) := by decide +kernel
theorem dd_L_law_775 : decode cL_law 775 = .ok (.iconst 1, 1) := by decide +kernel
theorem dd_L_law_776 : decode cL_law 776 = .ok (.iadd, 1) := by decide +kernel
theorem dd_L_law_777 : decode cL_law 777 = .ok (.iaload, 1) := by decide +kernel
theorem dd_L_law_778 : decode cL_law 778 = .ok (.aload_n 0, 1) := by decide +kernel
theorem dd_L_law_779 : decode cL_law 779 = .ok (.iload 4, 2) := by decide +kernel
theorem dd_L_law_781 : decode cL_law 781 = .ok (.iconst 2, 1) := by decide +kernel
theorem dd_L_law_782 : decode cL_law 782 = .ok (.iadd, 1) := by decide +kernel
theorem dd_L_law_783 : decode cL_law 783 = .ok (.iaload, 1) := by decide +kernel
theorem dd_L_law_784 : decode cL_law 784 = .ok (.aload_n 0, 1) := by decide +kernel
theorem dd_L_law_785 : decode cL_law 785 = .ok (.iload 4, 2) := by decide +kernel
theorem dd_L_law_787 : decode cL_law 787 = .ok (.iconst 3, 1) := by decide +kernel
theorem dd_L_law_788 : decode cL_law 788 = .ok (.iadd, 1) := by decide +kernel
theorem dd_L_law_789 : decode cL_law 789 = .ok (.iaload, 1) := by decide +kernel
theorem dd_L_law_790 : decode cL_law 790 = .ok (.invokevirtual 88, 3) := by decide +kernel
theorem dd_L_law_793 : decode cL_law 793 = .ok (.if_icmp .eq 680, 3) := by decide +kernel
theorem dd_L_law_798 : decode cL_law 798 = .ok (.aload_n 1, 1) := by decide +kernel
theorem dd_L_law_799 : decode cL_law 799 = .ok (.invokevirtual 89, 3) := by decide +kernel
theorem dd_L_law_802 : decode cL_law 802 = .ok (.aload_n 2, 1) := by decide +kernel
theorem dd_L_law_803 : decode cL_law 803 = .ok (.invokevirtual 92, 3) := by decide +kernel
theorem dd_L_law_806 : decode cL_law 806 = .ok (.if_icmp .eq 667, 3) := by decide +kernel
theorem dd_L_law_811 : decode cL_law 811 = .ok (.aload_n 1, 1) := by decide +kernel
theorem dd_L_law_812 : decode cL_law 812 = .ok (.aload_n 0, 1) := by decide +kernel
theorem dd_L_law_813 : decode cL_law 813 = .ok (.iload 4, 2) := by decide +kernel
theorem dd_L_law_815 : decode cL_law 815 = .ok (.iconst 1, 1) := by decide +kernel
theorem dd_L_law_816 : decode cL_law 816 = .ok (.iadd, 1) := by decide +kernel
theorem dd_L_law_817 : decode cL_law 817 = .ok (.iaload, 1) := by decide +kernel
theorem dd_L_law_818 : decode cL_law 818 = .ok (.invokevirtual 93, 3) := by decide +kernel
theorem dd_L_law_821 : decode cL_law 821 = .ok (.aload_n 2, 1) := by decide +kernel
theorem dd_L_law_822 : decode cL_law 822 = .ok (.aload_n 0, 1) := by decide +kernel
theorem dd_L_law_823 : decode cL_law 823 = .ok (.iload 4, 2) := by decide +kernel
theorem dd_L_law_825 : decode cL_law 825 = .ok (.iconst 1, 1) := by decide +kernel
theorem dd_L_law_826 : decode cL_law 826 = .ok (.iadd, 1) := by decide +kernel
theorem dd_L_law_827 : decode cL_law 827 = .ok (.iaload, 1) := by decide +kernel
theorem dd_L_law_828 : decode cL_law 828 = .ok (.invokevirtual 96, 3) := by decide +kernel
theorem dd_L_law_831 : decode cL_law 831 = .ok (.if_icmp .eq 642, 3) := by decide +kernel
theorem dd_L_law_836 : decode cL_law 836 = .ok (.aload_n 1, 1) := by decide +kernel
theorem dd_L_law_837 : decode cL_law 837 = .ok (.invokevirtual 97, 3) := by decide +kernel
theorem dd_L_law_840 : decode cL_law 840 = .ok (.aload_n 2, 1) := by decide +kernel
theorem dd_L_law_841 : decode cL_law 841 = .ok (.invokevirtual 100, 3) := by decide +kernel
theorem dd_L_law_844 : decode cL_law 844 = .ok (.if_icmp .eq 629, 3) := by decide +kernel
theorem dd_L_law_849 : decode cL_law 849 = .ok (.aload_n 1, 1) := by decide +kernel
theorem dd_L_law_850 : decode cL_law 850 = .ok (.invokevirtual 101, 3) := by decide +kernel
theorem dd_L_law_853 : decode cL_law 853 = .ok (.aload_n 2, 1) := by decide +kernel
theorem dd_L_law_854 : decode cL_law 854 = .ok (.invokevirtual 104, 3) := by decide +kernel
theorem dd_L_law_857 : decode cL_law 857 = .ok (.if_icmp .eq 616, 3) := by decide +kernel
theorem dd_L_law_862 : decode cL_law 862 = .ok (.aload_n 1, 1) := by decide +kernel
theorem dd_L_law_863 : decode cL_law 863 = .ok (.aload_n 0, 1) := by decide +kernel
theorem dd_L_law_864 : decode cL_law 864 = .ok (.iload 4, 2) := by decide +kernel
theorem dd_L_law_866 : decode cL_law 866 = .ok (.iconst 1, 1) := by decide +kernel
theorem dd_L_law_867 : decode cL_law 867 = .ok (.iadd, 1) := by decide +kernel
theorem dd_L_law_868 : decode cL_law 868 = .ok (.iaload, 1) := by decide +kernel
theorem dd_L_law_869 : decode cL_law 869 = .ok (.invokevirtual 105, 3) := by decide +kernel
theorem dd_L_law_872 : decode cL_law 872 = .ok (.aload_n 2, 1) := by decide +kernel
theorem dd_L_law_873 : decode cL_law 873 = .ok (.aload_n 0, 1) := by decide +kernel
theorem dd_L_law_874 : decode cL_law 874 = .ok (.iload 4, 2) := by decide +kernel
theorem dd_L_law_876 : decode cL_law 876 = .ok (.iconst 1, 1) := by decide +kernel
theorem dd_L_law_877 : decode cL_law 877 = .ok (.iadd, 1) := by decide +kernel
theorem dd_L_law_878 : decode cL_law 878 = .ok (.iaload, 1) := by decide +kernel
theorem dd_L_law_879 : decode cL_law 879 = .ok (.invokevirtual 108, 3) := by decide +kernel
theorem dd_L_law_882 : decode cL_law 882 = .ok (.if_icmp .eq 591, 3) := by decide +kernel
theorem dd_L_law_887 : decode cL_law 887 = .ok (.aload_n 1, 1) := by decide +kernel
theorem dd_L_law_888 : decode cL_law 888 = .ok (.aload_n 0, 1) := by decide +kernel
theorem dd_L_law_889 : decode cL_law 889 = .ok (.iload 4, 2) := by decide +kernel
theorem dd_L_law_891 : decode cL_law 891 = .ok (.iconst 1, 1) := by decide +kernel
theorem dd_L_law_892 : decode cL_law 892 = .ok (.iadd, 1) := by decide +kernel
theorem dd_L_law_893 : decode cL_law 893 = .ok (.iaload, 1) := by decide +kernel
theorem dd_L_law_894 : decode cL_law 894 = .ok (.aload_n 0, 1) := by decide +kernel
theorem dd_L_law_895 : decode cL_law 895 = .ok (.iload 4, 2) := by decide +kernel
theorem dd_L_law_897 : decode cL_law 897 = .ok (.iconst 2, 1) := by decide +kernel
theorem dd_L_law_898 : decode cL_law 898 = .ok (.iadd, 1) := by decide +kernel
theorem dd_L_law_899 : decode cL_law 899 = .ok (.iaload, 1) := by decide +kernel
theorem dd_L_law_900 : decode cL_law 900 = .ok (.invokevirtual 109, 3) := by decide +kernel
theorem dd_L_law_903 : decode cL_law 903 = .ok (.aload_n 2, 1) := by decide +kernel
theorem dd_L_law_904 : decode cL_law 904 = .ok (.aload_n 0, 1) := by decide +kernel
theorem dd_L_law_905 : decode cL_law 905 = .ok (.iload 4, 2) := by decide +kernel
theorem dd_L_law_907 : decode cL_law 907 = .ok (.iconst 1, 1) := by decide +kernel
theorem dd_L_law_908 : decode cL_law 908 = .ok (.iadd, 1) := by decide +kernel
theorem dd_L_law_909 : decode cL_law 909 = .ok (.iaload, 1) := by decide +kernel
theorem dd_L_law_910 : decode cL_law 910 = .ok (.aload_n 0, 1) := by decide +kernel
theorem dd_L_law_911 : decode cL_law 911 = .ok (.iload 4, 2) := by decide +kernel
theorem dd_L_law_913 : decode cL_law 913 = .ok (.iconst 2, 1) := by decide +kernel
theorem dd_L_law_914 : decode cL_law 914 = .ok (.iadd, 1) := by decide +kernel
theorem dd_L_law_915 : decode cL_law 915 = .ok (.iaload, 1) := by decide +kernel
theorem dd_L_law_916 : decode cL_law 916 = .ok (.invokevirtual 112, 3) := by decide +kernel
theorem dd_L_law_919 : decode cL_law 919 = .ok (.if_icmp .eq 554, 3) := by decide +kernel
theorem dd_L_law_924 : decode cL_law 924 = .ok (.aload_n 1, 1) := by decide +kernel
theorem dd_L_law_925 : decode cL_law 925 = .ok (.aload_n 0, 1) := by decide +kernel
theorem dd_L_law_926 : decode cL_law 926 = .ok (.iload 4, 2) := by decide +kernel
theorem dd_L_law_928 : decode cL_law 928 = .ok (.iconst 1, 1) := by decide +kernel
theorem dd_L_law_929 : decode cL_law 929 = .ok (.iadd, 1) := by decide +kernel
theorem dd_L_law_930 : decode cL_law 930 = .ok (.iaload, 1) := by decide +kernel
theorem dd_L_law_931 : decode cL_law 931 = .ok (.invokevirtual 113, 3) := by decide +kernel
theorem dd_L_law_934 : decode cL_law 934 = .ok (.aload_n 2, 1) := by decide +kernel
theorem dd_L_law_935 : decode cL_law 935 = .ok (.aload_n 0, 1) := by decide +kernel
theorem dd_L_law_936 : decode cL_law 936 = .ok (.iload 4, 2) := by decide +kernel
theorem dd_L_law_938 : decode cL_law 938 = .ok (.iconst 1, 1) := by decide +kernel
theorem dd_L_law_939 : decode cL_law 939 = .ok (.iadd, 1) := by decide +kernel
theorem dd_L_law_940 : decode cL_law 940 = .ok (.iaload, 1) := by decide +kernel
theorem dd_L_law_941 : decode cL_law 941 = .ok (.invokevirtual 116, 3) := by decide +kernel
theorem dd_L_law_944 : decode cL_law 944 = .ok (.if_icmp .eq 529, 3) := by decide +kernel
theorem dd_L_law_949 : decode cL_law 949 = .ok (.aload_n 1, 1) := by decide +kernel
theorem dd_L_law_950 : decode cL_law 950 = .ok (.aload_n 0, 1) := by decide +kernel
theorem dd_L_law_951 : decode cL_law 951 = .ok (.iload 4, 2) := by decide +kernel
theorem dd_L_law_953 : decode cL_law 953 = .ok (.iconst 1, 1) := by decide +kernel
theorem dd_L_law_954 : decode cL_law 954 = .ok (.iadd, 1) := by decide +kernel
theorem dd_L_law_955 : decode cL_law 955 = .ok (.iaload, 1) := by decide +kernel
theorem dd_L_law_956 : decode cL_law 956 = .ok (.aload_n 0, 1) := by decide +kernel
theorem dd_L_law_957 : decode cL_law 957 = .ok (.iload 4, 2) := by decide +kernel
theorem dd_L_law_959 : decode cL_law 959 = .ok (.iconst 2, 1) := by decide +kernel
theorem dd_L_law_960 : decode cL_law 960 = .ok (.iadd, 1) := by decide +kernel
theorem dd_L_law_961 : decode cL_law 961 = .ok (.iaload, 1) := by decide +kernel
theorem dd_L_law_962 : decode cL_law 962 = .ok (.invokevirtual 117, 3) := by decide +kernel
theorem dd_L_law_965 : decode cL_law 965 = .ok (.aload_n 2, 1) := by decide +kernel
theorem dd_L_law_966 : decode cL_law 966 = .ok (.aload_n 0, 1) := by decide +kernel
theorem dd_L_law_967 : decode cL_law 967 = .ok (.iload 4, 2) := by decide +kernel
theorem dd_L_law_969 : decode cL_law 969 = .ok (.iconst 1, 1) := by decide +kernel
theorem dd_L_law_970 : decode cL_law 970 = .ok (.iadd, 1) := by decide +kernel
theorem dd_L_law_971 : decode cL_law 971 = .ok (.iaload, 1) := by decide +kernel
theorem dd_L_law_972 : decode cL_law 972 = .ok (.aload_n 0, 1) := by decide +kernel
theorem dd_L_law_973 : decode cL_law 973 = .ok (.iload 4, 2) := by decide +kernel
theorem dd_L_law_975 : decode cL_law 975 = .ok (.iconst 2, 1) := by decide +kernel
theorem dd_L_law_976 : decode cL_law 976 = .ok (.iadd, 1) := by decide +kernel
theorem dd_L_law_977 : decode cL_law 977 = .ok (.iaload, 1) := by decide +kernel
theorem dd_L_law_978 : decode cL_law 978 = .ok (.invokevirtual 120, 3) := by decide +kernel
theorem dd_L_law_981 : decode cL_law 981 = .ok (.if_icmp .eq 492, 3) := by decide +kernel
theorem dd_L_law_986 : decode cL_law 986 = .ok (.aload_n 1, 1) := by decide +kernel
theorem dd_L_law_987 : decode cL_law 987 = .ok (.aload_n 0, 1) := by decide +kernel
theorem dd_L_law_988 : decode cL_law 988 = .ok (.iload 4, 2) := by decide +kernel
theorem dd_L_law_990 : decode cL_law 990 = .ok (.iconst 1, 1) := by decide +kernel
theorem dd_L_law_991 : decode cL_law 991 = .ok (.iadd, 1) := by decide +kernel
theorem dd_L_law_992 : decode cL_law 992 = .ok (.iaload, 1) := by decide +kernel
theorem dd_L_law_993 : decode cL_law 993 = .ok (.aload_n 0, 1) := by decide +kernel
theorem dd_L_law_994 : decode cL_law 994 = .ok (.iload 4, 2) := by decide +kernel
theorem dd_L_law_996 : decode cL_law 996 = .ok (.iconst 2, 1) := by decide +kernel
theorem dd_L_law_997 : decode cL_law 997 = .ok (.iadd, 1) := by decide +kernel
theorem dd_L_law_998 : decode cL_law 998 = .ok (.iaload, 1) := by decide +kernel
theorem dd_L_law_999 : decode cL_law 999 = .ok (.invokevirtual 121, 3) := by decide +kernel
theorem dd_L_law_1002 : decode cL_law 1002 = .ok (.aload_n 2, 1) := by decide +kernel
theorem dd_L_law_1003 : decode cL_law 1003 = .ok (.aload_n 0, 1) := by decide +kernel
theorem dd_L_law_1004 : decode cL_law 1004 = .ok (.iload 4, 2) := by decide +kernel
theorem dd_L_law_1006 : decode cL_law 1006 = .ok (.iconst 1, 1) := by decide +kernel
theorem dd_L_law_1007 : decode cL_law 1007 = .ok (.iadd, 1) := by decide +kernel
theorem dd_L_law_1008 : decode cL_law 1008 = .ok (.iaload, 1) := by decide +kernel
theorem dd_L_law_1009 : decode cL_law 1009 = .ok (.aload_n 0, 1) := by decide +kernel
theorem dd_L_law_1010 : decode cL_law 1010 = .ok (.iload 4, 2) := by decide +kernel
theorem dd_L_law_1012 : decode cL_law 1012 = .ok (.iconst 2, 1) := by decide +kernel
theorem dd_L_law_1013 : decode cL_law 1013 = .ok (.iadd, 1) := by decide +kernel
theorem dd_L_law_1014 : decode cL_law 1014 = .ok (.iaload, 1) := by decide +kernel
theorem dd_L_law_1015 : decode cL_law 1015 = .ok (.invokevirtual 124, 3) := by decide +kernel
theorem dd_L_law_1018 : decode cL_law 1018 = .ok (.if_icmp .eq 455, 3) := by decide +kernel
theorem dd_L_law_1023 : decode cL_law 1023 = .ok (.aload_n 1, 1) := by decide +kernel
theorem dd_L_law_1024 : decode cL_law 1024 = .ok (.invokevirtual 125, 3) := by decide +kernel
theorem dd_L_law_1027 : decode cL_law 1027 = .ok (.aload_n 2, 1) := by decide +kernel
theorem dd_L_law_1028 : decode cL_law 1028 = .ok (.invokevirtual 128, 3) := by decide +kernel
theorem dd_L_law_1031 : decode cL_law 1031 = .ok (.if_icmp .eq 442, 3) := by decide +kernel
theorem dd_L_law_1036 : decode cL_law 1036 = .ok (.aload_n 1, 1) := by decide +kernel
theorem dd_L_law_1037 : decode cL_law 1037 = .ok (.invokevirtual 129, 3) := by decide +kernel
theorem dd_L_law_1040 : decode cL_law 1040 = .ok (.aload_n 2, 1) := by decide +kernel
theorem dd_L_law_1041 : decode cL_law 1041 = .ok (.invokevirtual 132, 3) := by decide +kernel
theorem dd_L_law_1044 : decode cL_law 1044 = .ok (.if_icmp .eq 429, 3) := by decide +kernel
theorem dd_L_law_1049 : decode cL_law 1049 = .ok (.aload_n 1, 1) := by decide +kernel
theorem dd_L_law_1050 : decode cL_law 1050 = .ok (.invokevirtual 133, 3) := by decide +kernel
theorem dd_L_law_1053 : decode cL_law 1053 = .ok (.aload_n 2, 1) := by decide +kernel
theorem dd_L_law_1054 : decode cL_law 1054 = .ok (.invokevirtual 136, 3) := by decide +kernel
theorem dd_L_law_1057 : decode cL_law 1057 = .ok (.if_icmp .eq 416, 3) := by decide +kernel
theorem dd_L_law_1062 : decode cL_law 1062 = .ok (.aload_n 1, 1) := by decide +kernel
theorem dd_L_law_1063 : decode cL_law 1063 = .ok (.aload_n 0, 1) := by decide +kernel
theorem dd_L_law_1064 : decode cL_law 1064 = .ok (.iload 4, 2) := by decide +kernel
theorem dd_L_law_1066 : decode cL_law 1066 = .ok (.iconst 1, 1) := by decide +kernel
theorem dd_L_law_1067 : decode cL_law 1067 = .ok (.iadd, 1) := by decide +kernel
theorem dd_L_law_1068 : decode cL_law 1068 = .ok (.iaload, 1) := by decide +kernel
theorem dd_L_law_1069 : decode cL_law 1069 = .ok (.aload_n 0, 1) := by decide +kernel
theorem dd_L_law_1070 : decode cL_law 1070 = .ok (.iload 4, 2) := by decide +kernel
theorem dd_L_law_1072 : decode cL_law 1072 = .ok (.iconst 2, 1) := by decide +kernel
theorem dd_L_law_1073 : decode cL_law 1073 = .ok (.iadd, 1) := by decide +kernel
theorem dd_L_law_1074 : decode cL_law 1074 = .ok (.iaload, 1) := by decide +kernel
theorem dd_L_law_1075 : decode cL_law 1075 = .ok (.aload_n 0, 1) := by decide +kernel
theorem dd_L_law_1076 : decode cL_law 1076 = .ok (.iload 4, 2) := by decide +kernel
theorem dd_L_law_1078 : decode cL_law 1078 = .ok (.iconst 3, 1) := by decide +kernel
theorem dd_L_law_1079 : decode cL_law 1079 = .ok (.iadd, 1) := by decide +kernel
theorem dd_L_law_1080 : decode cL_law 1080 = .ok (.iaload, 1) := by decide +kernel
theorem dd_L_law_1081 : decode cL_law 1081 = .ok (.invokevirtual 137, 3) := by decide +kernel
theorem dd_L_law_1084 : decode cL_law 1084 = .ok (.aload_n 2, 1) := by decide +kernel
theorem dd_L_law_1085 : decode cL_law 1085 = .ok (.aload_n 0, 1) := by decide +kernel
theorem dd_L_law_1086 : decode cL_law 1086 = .ok (.iload 4, 2) := by decide +kernel
theorem dd_L_law_1088 : decode cL_law 1088 = .ok (.iconst 1, 1) := by decide +kernel
theorem dd_L_law_1089 : decode cL_law 1089 = .ok (.iadd, 1) := by decide +kernel
theorem dd_L_law_1090 : decode cL_law 1090 = .ok (.iaload, 1) := by decide +kernel
theorem dd_L_law_1091 : decode cL_law 1091 = .ok (.aload_n 0, 1) := by decide +kernel
theorem dd_L_law_1092 : decode cL_law 1092 = .ok (.iload 4, 2) := by decide +kernel
theorem dd_L_law_1094 : decode cL_law 1094 = .ok (.iconst 2, 1) := by decide +kernel
theorem dd_L_law_1095 : decode cL_law 1095 = .ok (.iadd, 1) := by decide +kernel
theorem dd_L_law_1096 : decode cL_law 1096 = .ok (.iaload, 1) := by decide +kernel
theorem dd_L_law_1097 : decode cL_law 1097 = .ok (.aload_n 0, 1) := by decide +kernel
theorem dd_L_law_1098 : decode cL_law 1098 = .ok (.iload 4, 2) := by decide +kernel
theorem dd_L_law_1100 : decode cL_law 1100 = .ok (.iconst 3, 1) := by decide +kernel
theorem dd_L_law_1101 : decode cL_law 1101 = .ok (.iadd, 1) := by decide +kernel
theorem dd_L_law_1102 : decode cL_law 1102 = .ok (.iaload, 1) := by decide +kernel
theorem dd_L_law_1103 : decode cL_law 1103 = .ok (.invokevirtual 140, 3) := by decide +kernel
theorem dd_L_law_1106 : decode cL_law 1106 = .ok (.if_icmp .eq 367, 3) := by decide +kernel
theorem dd_L_law_1111 : decode cL_law 1111 = .ok (.aload_n 1, 1) := by decide +kernel
theorem dd_L_law_1112 : decode cL_law 1112 = .ok (.aload_n 0, 1) := by decide +kernel
theorem dd_L_law_1113 : decode cL_law 1113 = .ok (.iload 4, 2) := by decide +kernel
theorem dd_L_law_1115 : decode cL_law 1115 = .ok (.iconst 1, 1) := by decide +kernel
theorem dd_L_law_1116 : decode cL_law 1116 = .ok (.iadd, 1) := by decide +kernel
theorem dd_L_law_1117 : decode cL_law 1117 = .ok (.iaload, 1) := by decide +kernel
theorem dd_L_law_1118 : decode cL_law 1118 = .ok (.invokevirtual 141, 3) := by decide +kernel
theorem dd_L_law_1121 : decode cL_law 1121 = .ok (.aload_n 2, 1) := by decide +kernel
theorem dd_L_law_1122 : decode cL_law 1122 = .ok (.aload_n 0, 1) := by decide +kernel
theorem dd_L_law_1123 : decode cL_law 1123 = .ok (.iload 4, 2) := by decide +kernel
theorem dd_L_law_1125 : decode cL_law 1125 = .ok (.iconst 1, 1) := by decide +kernel
theorem dd_L_law_1126 : decode cL_law 1126 = .ok (.iadd, 1) := by decide +kernel
theorem dd_L_law_1127 : decode cL_law 1127 = .ok (.iaload, 1) := by decide +kernel
theorem dd_L_law_1128 : decode cL_law 1128 = .ok (.invokevirtual 144, 3) := by decide +kernel
theorem dd_L_law_1131 : decode cL_law 1131 = .ok (.if_icmp .eq 342, 3) := by decide +kernel
theorem dd_L_law_1136 : decode cL_law 1136 = .ok (.aload_n 1, 1) := by decide +kernel
theorem dd_L_law_1137 : decode cL_law 1137 = .ok (.aload_n 0, 1) := by decide +kernel
theorem dd_L_law_1138 : decode cL_law 1138 = .ok (.iload 4, 2) := by decide +kernel
theorem dd_L_law_1140 : decode cL_law 1140 = .ok (.iconst 1, 1) := by decide +kernel
theorem dd_L_law_1141 : decode cL_law 1141 = .ok (.iadd, 1) := by decide +kernel
theorem dd_L_law_1142 : decode cL_law 1142 = .ok (.iaload, 1) := by decide +kernel
theorem dd_L_law_1143 : decode cL_law 1143 = .ok (.invokevirtual 145, 3) := by decide +kernel
theorem dd_L_law_1146 : decode cL_law 1146 = .ok (.aload_n 2, 1) := by decide +kernel
theorem dd_L_law_1147 : decode cL_law 1147 = .ok (.aload_n 0, 1) := by decide +kernel
theorem dd_L_law_1148 : decode cL_law 1148 = .ok (.iload 4, 2) := by decide +kernel
theorem dd_L_law_1150 : decode cL_law 1150 = .ok (.iconst 1, 1) := by decide +kernel
theorem dd_L_law_1151 : decode cL_law 1151 = .ok (.iadd, 1) := by decide +kernel
theorem dd_L_law_1152 : decode cL_law 1152 = .ok (.iaload, 1) := by decide +kernel
theorem dd_L_law_1153 : decode cL_law 1153 = .ok (.invokevirtual 148, 3) := by decide +kernel
theorem dd_L_law_1156 : decode cL_law 1156 = .ok (.if_icmp .eq 317, 3) := by decide +kernel
theorem dd_L_law_1161 : decode cL_law 1161 = .ok (.aload_n 1, 1) := by decide +kernel
theorem dd_L_law_1162 : decode cL_law 1162 = .ok (.invokevirtual 149, 3) := by decide +kernel
theorem dd_L_law_1165 : decode cL_law 1165 = .ok (.aload_n 2, 1) := by decide +kernel
theorem dd_L_law_1166 : decode cL_law 1166 = .ok (.invokevirtual 152, 3) := by decide +kernel
theorem dd_L_law_1169 : decode cL_law 1169 = .ok (.if_icmp .eq 304, 3) := by decide +kernel
theorem dd_L_law_1174 : decode cL_law 1174 = .ok (.aload_n 1, 1) := by decide +kernel
theorem dd_L_law_1175 : decode cL_law 1175 = .ok (.aload_n 0, 1) := by decide +kernel
theorem dd_L_law_1176 : decode cL_law 1176 = .ok (.iload 4, 2) := by decide +kernel
theorem dd_L_law_1178 : decode cL_law 1178 = .ok (.iconst 1, 1) := by decide +kernel
theorem dd_L_law_1179 : decode cL_law 1179 = .ok (.iadd, 1) := by decide +kernel
theorem dd_L_law_1180 : decode cL_law 1180 = .ok (.iaload, 1) := by decide +kernel
theorem dd_L_law_1181 : decode cL_law 1181 = .ok (.invokevirtual 153, 3) := by decide +kernel
theorem dd_L_law_1184 : decode cL_law 1184 = .ok (.aload_n 2, 1) := by decide +kernel
theorem dd_L_law_1185 : decode cL_law 1185 = .ok (.aload_n 0, 1) := by decide +kernel
theorem dd_L_law_1186 : decode cL_law 1186 = .ok (.iload 4, 2) := by decide +kernel
theorem dd_L_law_1188 : decode cL_law 1188 = .ok (.iconst 1, 1) := by decide +kernel
theorem dd_L_law_1189 : decode cL_law 1189 = .ok (.iadd, 1) := by decide +kernel
theorem dd_L_law_1190 : decode cL_law 1190 = .ok (.iaload, 1) := by decide +kernel
theorem dd_L_law_1191 : decode cL_law 1191 = .ok (.invokevirtual 156, 3) := by decide +kernel
theorem dd_L_law_1194 : decode cL_law 1194 = .ok (.if_icmp .eq 279, 3) := by decide +kernel
theorem dd_L_law_1199 : decode cL_law 1199 = .ok (.aload_n 1, 1) := by decide +kernel
theorem dd_L_law_1200 : decode cL_law 1200 = .ok (.aload_n 0, 1) := by decide +kernel
theorem dd_L_law_1201 : decode cL_law 1201 = .ok (.iload 4, 2) := by decide +kernel
theorem dd_L_law_1203 : decode cL_law 1203 = .ok (.iconst 1, 1) := by decide +kernel
theorem dd_L_law_1204 : decode cL_law 1204 = .ok (.iadd, 1) := by decide +kernel
theorem dd_L_law_1205 : decode cL_law 1205 = .ok (.iaload, 1) := by decide +kernel
theorem dd_L_law_1206 : decode cL_law 1206 = .ok (.invokevirtual 157, 3) := by decide +kernel
theorem dd_L_law_1209 : decode cL_law 1209 = .ok (.aload_n 2, 1) := by decide +kernel
theorem dd_L_law_1210 : decode cL_law 1210 = .ok (.aload_n 0, 1) := by decide +kernel
theorem dd_L_law_1211 : decode cL_law 1211 = .ok (.iload 4, 2) := by decide +kernel
theorem dd_L_law_1213 : decode cL_law 1213 = .ok (.iconst 1, 1) := by decide +kernel
theorem dd_L_law_1214 : decode cL_law 1214 = .ok (.iadd, 1) := by decide +kernel
theorem dd_L_law_1215 : decode cL_law 1215 = .ok (.iaload, 1) := by decide +kernel
theorem dd_L_law_1216 : decode cL_law 1216 = .ok (.invokevirtual 160, 3) := by decide +kernel
theorem dd_L_law_1219 : decode cL_law 1219 = .ok (.if_icmp .eq 254, 3) := by decide +kernel
theorem dd_L_law_1224 : decode cL_law 1224 = .ok (.aload_n 1, 1) := by decide +kernel
theorem dd_L_law_1225 : decode cL_law 1225 = .ok (.aload_n 0, 1) := by decide +kernel
theorem dd_L_law_1226 : decode cL_law 1226 = .ok (.iload 4, 2) := by decide +kernel
theorem dd_L_law_1228 : decode cL_law 1228 = .ok (.iconst 1, 1) := by decide +kernel
theorem dd_L_law_1229 : decode cL_law 1229 = .ok (.iadd, 1) := by decide +kernel
theorem dd_L_law_1230 : decode cL_law 1230 = .ok (.iaload, 1) := by decide +kernel
theorem dd_L_law_1231 : decode cL_law 1231 = .ok (.aload_n 0, 1) := by decide +kernel
theorem dd_L_law_1232 : decode cL_law 1232 = .ok (.iload 4, 2) := by decide +kernel
theorem dd_L_law_1234 : decode cL_law 1234 = .ok (.iconst 2, 1) := by decide +kernel
theorem dd_L_law_1235 : decode cL_law 1235 = .ok (.iadd, 1) := by decide +kernel
theorem dd_L_law_1236 : decode cL_law 1236 = .ok (.iaload, 1) := by decide +kernel
theorem dd_L_law_1237 : decode cL_law 1237 = .ok (.invokevirtual 161, 3) := by decide +kernel
theorem dd_L_law_1240 : decode cL_law 1240 = .ok (.aload_n 2, 1) := by decide +kernel
theorem dd_L_law_1241 : decode cL_law 1241 = .ok (.aload_n 0, 1) := by decide +kernel
theorem dd_L_law_1242 : decode cL_law 1242 = .ok (.iload 4, 2) := by decide +kernel
theorem dd_L_law_1244 : decode cL_law 1244 = .ok (.iconst 1, 1) := by decide +kernel
theorem dd_L_law_1245 : decode cL_law 1245 = .ok (.iadd, 1) := by decide +kernel
theorem dd_L_law_1246 : decode cL_law 1246 = .ok (.iaload, 1) := by decide +kernel
theorem dd_L_law_1247 : decode cL_law 1247 = .ok (.aload_n 0, 1) := by decide +kernel
theorem dd_L_law_1248 : decode cL_law 1248 = .ok (.iload 4, 2) := by decide +kernel
theorem dd_L_law_1250 : decode cL_law 1250 = .ok (.iconst 2, 1) := by decide +kernel
theorem dd_L_law_1251 : decode cL_law 1251 = .ok (.iadd, 1) := by decide +kernel
theorem dd_L_law_1252 : decode cL_law 1252 = .ok (.iaload, 1) := by decide +kernel
theorem dd_L_law_1253 : decode cL_law 1253 = .ok (.invokevirtual 164, 3) := by decide +kernel
theorem dd_L_law_1256 : decode cL_law 1256 = .ok (.if_icmp .eq 217, 3) := by decide +kernel
theorem dd_L_law_1261 : decode cL_law 1261 = .ok (.aload_n 1, 1) := by decide +kernel
theorem dd_L_law_1262 : decode cL_law 1262 = .ok (.aload_n 0, 1) := by decide +kernel
theorem dd_L_law_1263 : decode cL_law 1263 = .ok (.iload 4, 2) := by decide +kernel
theorem dd_L_law_1265 : decode cL_law 1265 = .ok (.iconst 1, 1) := by decide +kernel
theorem dd_L_law_1266 : decode cL_law 1266 = .ok (.iadd, 1) := by decide +kernel
theorem dd_L_law_1267 : decode cL_law 1267 = .ok (.iaload, 1) := by decide +kernel
theorem dd_L_law_1268 : decode cL_law 1268 = .ok (.aload_n 0, 1) := by decide +kernel
theorem dd_L_law_1269 : decode cL_law 1269 = .ok (.iload 4, 2) := by decide +kernel
theorem dd_L_law_1271 : decode cL_law 1271 = .ok (.iconst 2, 1) := by decide +kernel
theorem dd_L_law_1272 : decode cL_law 1272 = .ok (.iadd, 1) := by decide +kernel
theorem dd_L_law_1273 : decode cL_law 1273 = .ok (.iaload, 1) := by decide +kernel
theorem dd_L_law_1274 : decode cL_law 1274 = .ok (.aload_n 0, 1) := by decide +kernel
theorem dd_L_law_1275 : decode cL_law 1275 = .ok (.iload 4, 2) := by decide +kernel
theorem dd_L_law_1277 : decode cL_law 1277 = .ok (.iconst 3, 1) := by decide +kernel
theorem dd_L_law_1278 : decode cL_law 1278 = .ok (.iadd, 1) := by decide +kernel
theorem dd_L_law_1279 : decode cL_law 1279 = .ok (.iaload, 1) := by decide +kernel
theorem dd_L_law_1280 : decode cL_law 1280 = .ok (.invokevirtual 165, 3) := by decide +kernel
theorem dd_L_law_1283 : decode cL_law 1283 = .ok (.aload_n 2, 1) := by decide +kernel
theorem dd_L_law_1284 : decode cL_law 1284 = .ok (.aload_n 0, 1) := by decide +kernel
theorem dd_L_law_1285 : decode cL_law 1285 = .ok (.iload 4, 2) := by decide +kernel
theorem dd_L_law_1287 : decode cL_law 1287 = .ok (.iconst 1, 1) := by decide +kernel
theorem dd_L_law_1288 : decode cL_law 1288 = .ok (.iadd, 1) := by decide +kernel
theorem dd_L_law_1289 : decode cL_law 1289 = .ok (.iaload, 1) := by decide +kernel
theorem dd_L_law_1290 : decode cL_law 1290 = .ok (.aload_n 0, 1) := by decide +kernel
theorem dd_L_law_1291 : decode cL_law 1291 = .ok (.iload 4, 2) := by decide +kernel
theorem dd_L_law_1293 : decode cL_law 1293 = .ok (.iconst 2, 1) := by decide +kernel
theorem dd_L_law_1294 : decode cL_law 1294 = .ok (.iadd, 1) := by decide +kernel
theorem dd_L_law_1295 : decode cL_law 1295 = .ok (.iaload, 1) := by decide +kernel
theorem dd_L_law_1296 : decode cL_law 1296 = .ok (.aload_n 0, 1) := by decide +kernel
theorem dd_L_law_1297 : decode cL_law 1297 = .ok (.iload 4, 2) := by decide +kernel
theorem dd_L_law_1299 : decode cL_law 1299 = .ok (.iconst 3, 1) := by decide +kernel
theorem dd_L_law_1300 : decode cL_law 1300 = .ok (.iadd, 1) := by decide +kernel
theorem dd_L_law_1301 : decode cL_law 1301 = .ok (.iaload, 1) := by decide +kernel
theorem dd_L_law_1302 : decode cL_law 1302 = .ok (.invokevirtual 168, 3) := by decide +kernel
theorem dd_L_law_1305 : decode cL_law 1305 = .ok (.if_icmp .eq 168, 3) := by decide +kernel
theorem dd_L_law_1310 : decode cL_law 1310 = .ok (.aload_n 1, 1) := by decide +kernel
theorem dd_L_law_1311 : decode cL_law 1311 = .ok (.aload_n 0, 1) := by decide +kernel
theorem dd_L_law_1312 : decode cL_law 1312 = .ok (.iload 4, 2) := by decide +kernel
theorem dd_L_law_1314 : decode cL_law 1314 = .ok (.iconst 1, 1) := by decide +kernel
theorem dd_L_law_1315 : decode cL_law 1315 = .ok (.iadd, 1) := by decide +kernel
theorem dd_L_law_1316 : decode cL_law 1316 = .ok (.iaload, 1) := by decide +kernel
theorem dd_L_law_1317 : decode cL_law 1317 = .ok (.invokevirtual 169, 3) := by decide +kernel
theorem dd_L_law_1320 : decode cL_law 1320 = .ok (.aload_n 2, 1) := by decide +kernel
theorem dd_L_law_1321 : decode cL_law 1321 = .ok (.aload_n 0, 1) := by decide +kernel
theorem dd_L_law_1322 : decode cL_law 1322 = .ok (.iload 4, 2) := by decide +kernel
theorem dd_L_law_1324 : decode cL_law 1324 = .ok (.iconst 1, 1) := by decide +kernel
theorem dd_L_law_1325 : decode cL_law 1325 = .ok (.iadd, 1) := by decide +kernel
theorem dd_L_law_1326 : decode cL_law 1326 = .ok (.iaload, 1) := by decide +kernel
theorem dd_L_law_1327 : decode cL_law 1327 = .ok (.invokevirtual 172, 3) := by decide +kernel
theorem dd_L_law_1330 : decode cL_law 1330 = .ok (.if_icmp .eq 143, 3) := by decide +kernel
theorem dd_L_law_1335 : decode cL_law 1335 = .ok (.aload_n 1, 1) := by decide +kernel
theorem dd_L_law_1336 : decode cL_law 1336 = .ok (.aload_n 0, 1) := by decide +kernel
theorem dd_L_law_1337 : decode cL_law 1337 = .ok (.iload 4, 2) := by decide +kernel
theorem dd_L_law_1339 : decode cL_law 1339 = .ok (.iconst 1, 1) := by decide +kernel
theorem dd_L_law_1340 : decode cL_law 1340 = .ok (.iadd, 1) := by decide +kernel
theorem dd_L_law_1341 : decode cL_law 1341 = .ok (.iaload, 1) := by decide +kernel
theorem dd_L_law_1342 : decode cL_law 1342 = .ok (.invokevirtual 173, 3) := by decide +kernel
theorem dd_L_law_1345 : decode cL_law 1345 = .ok (.aload_n 2, 1) := by decide +kernel
theorem dd_L_law_1346 : decode cL_law 1346 = .ok (.aload_n 0, 1) := by decide +kernel
theorem dd_L_law_1347 : decode cL_law 1347 = .ok (.iload 4, 2) := by decide +kernel
theorem dd_L_law_1349 : decode cL_law 1349 = .ok (.iconst 1, 1) := by decide +kernel
theorem dd_L_law_1350 : decode cL_law 1350 = .ok (.iadd, 1) := by decide +kernel
theorem dd_L_law_1351 : decode cL_law 1351 = .ok (.iaload, 1) := by decide +kernel
theorem dd_L_law_1352 : decode cL_law 1352 = .ok (.invokevirtual 176, 3) := by decide +kernel
theorem dd_L_law_1355 : decode cL_law 1355 = .ok (.if_icmp .eq 118, 3) := by decide +kernel
theorem dd_L_law_1360 : decode cL_law 1360 = .ok (.aload_n 1, 1) := by decide +kernel
theorem dd_L_law_1361 : decode cL_law 1361 = .ok (.invokevirtual 177, 3) := by decide +kernel
theorem dd_L_law_1364 : decode cL_law 1364 = .ok (.aload_n 2, 1) := by decide +kernel
theorem dd_L_law_1365 : decode cL_law 1365 = .ok (.invokevirtual 180, 3) := by decide +kernel
theorem dd_L_law_1368 : decode cL_law 1368 = .ok (.if_icmp .eq 105, 3) := by decide +kernel
theorem dd_L_law_1373 : decode cL_law 1373 = .ok (.aload_n 1, 1) := by decide +kernel
theorem dd_L_law_1374 : decode cL_law 1374 = .ok (.aload_n 0, 1) := by decide +kernel
theorem dd_L_law_1375 : decode cL_law 1375 = .ok (.iload 4, 2) := by decide +kernel
theorem dd_L_law_1377 : decode cL_law 1377 = .ok (.iconst 1, 1) := by decide +kernel
theorem dd_L_law_1378 : decode cL_law 1378 = .ok (.iadd, 1) := by decide +kernel
theorem dd_L_law_1379 : decode cL_law 1379 = .ok (.iaload, 1) := by decide +kernel
theorem dd_L_law_1380 : decode cL_law 1380 = .ok (.invokevirtual 181, 3) := by decide +kernel
theorem dd_L_law_1383 : decode cL_law 1383 = .ok (.aload_n 2, 1) := by decide +kernel
theorem dd_L_law_1384 : decode cL_law 1384 = .ok (.aload_n 0, 1) := by decide +kernel
theorem dd_L_law_1385 : decode cL_law 1385 = .ok (.iload 4, 2) := by decide +kernel
theorem dd_L_law_1387 : decode cL_law 1387 = .ok (.iconst 1, 1) := by decide +kernel
theorem dd_L_law_1388 : decode cL_law 1388 = .ok (.iadd, 1) := by decide +kernel
theorem dd_L_law_1389 : decode cL_law 1389 = .ok (.iaload, 1) := by decide +kernel
theorem dd_L_law_1390 : decode cL_law 1390 = .ok (.invokevirtual 184, 3) := by decide +kernel
theorem dd_L_law_1393 : decode cL_law 1393 = .ok (.if_icmp .eq 80, 3) := by decide +kernel
theorem dd_L_law_1398 : decode cL_law 1398 = .ok (.aload_n 1, 1) := by decide +kernel
theorem dd_L_law_1399 : decode cL_law 1399 = .ok (.aload_n 0, 1) := by decide +kernel
theorem dd_L_law_1400 : decode cL_law 1400 = .ok (.iload 4, 2) := by decide +kernel
theorem dd_L_law_1402 : decode cL_law 1402 = .ok (.iconst 1, 1) := by decide +kernel
theorem dd_L_law_1403 : decode cL_law 1403 = .ok (.iadd, 1) := by decide +kernel
theorem dd_L_law_1404 : decode cL_law 1404 = .ok (.iaload, 1) := by decide +kernel
theorem dd_L_law_1405 : decode cL_law 1405 = .ok (.invokevirtual 185, 3) := by decide +kernel
theorem dd_L_law_1408 : decode cL_law 1408 = .ok (.aload_n 2, 1) := by decide +kernel
theorem dd_L_law_1409 : decode cL_law 1409 = .ok (.aload_n 0, 1) := by decide +kernel
theorem dd_L_law_1410 : decode cL_law 1410 = .ok (.iload 4, 2) := by decide +kernel
theorem dd_L_law_1412 : decode cL_law 1412 = .ok (.iconst 1, 1) := by decide +kernel
theorem dd_L_law_1413 : decode cL_law 1413 = .ok (.iadd, 1) := by decide +kernel
theorem dd_L_law_1414 : decode cL_law 1414 = .ok (.iaload, 1) := by decide +kernel
theorem dd_L_law_1415 : decode cL_law 1415 = .ok (.invokevirtual 188, 3) := by decide +kernel
theorem dd_L_law_1418 : decode cL_law 1418 = .ok (.if_icmp .eq 55, 3) := by decide +kernel
theorem dd_L_law_1423 : decode cL_law 1423 = .ok (.aload_n 1, 1) := by decide +kernel
theorem dd_L_law_1424 : decode cL_law 1424 = .ok (.aload_n 0, 1) := by decide +kernel
theorem dd_L_law_1425 : decode cL_law 1425 = .ok (.iload 4, 2) := by decide +kernel
theorem dd_L_law_1427 : decode cL_law 1427 = .ok (.iconst 1, 1) := by decide +kernel
theorem dd_L_law_1428 : decode cL_law 1428 = .ok (.iadd, 1) := by decide +kernel
theorem dd_L_law_1429 : decode cL_law 1429 = .ok (.iaload, 1) := by decide +kernel
theorem dd_L_law_1430 : decode cL_law 1430 = .ok (.invokevirtual 189, 3) := by decide +kernel
theorem dd_L_law_1433 : decode cL_law 1433 = .ok (.aload_n 2, 1) := by decide +kernel
theorem dd_L_law_1434 : decode cL_law 1434 = .ok (.aload_n 0, 1) := by decide +kernel
theorem dd_L_law_1435 : decode cL_law 1435 = .ok (.iload 4, 2) := by decide +kernel
theorem dd_L_law_1437 : decode cL_law 1437 = .ok (.iconst 1, 1) := by decide +kernel
theorem dd_L_law_1438 : decode cL_law 1438 = .ok (.iadd, 1) := by decide +kernel
theorem dd_L_law_1439 : decode cL_law 1439 = .ok (.iaload, 1) := by decide +kernel
theorem dd_L_law_1440 : decode cL_law 1440 = .ok (.invokevirtual 192, 3) := by decide +kernel
theorem dd_L_law_1443 : decode cL_law 1443 = .ok (.if_icmp .eq 30, 3) := by decide +kernel
theorem dd_L_law_1448 : decode cL_law 1448 = .ok (.aload_n 1, 1) := by decide +kernel
theorem dd_L_law_1449 : decode cL_law 1449 = .ok (.aload_n 0, 1) := by decide +kernel
theorem dd_L_law_1450 : decode cL_law 1450 = .ok (.iload 4, 2) := by decide +kernel
theorem dd_L_law_1452 : decode cL_law 1452 = .ok (.iconst 1, 1) := by decide +kernel
theorem dd_L_law_1453 : decode cL_law 1453 = .ok (.iadd, 1) := by decide +kernel
theorem dd_L_law_1454 : decode cL_law 1454 = .ok (.iaload, 1) := by decide +kernel
theorem dd_L_law_1455 : decode cL_law 1455 = .ok (.invokevirtual 193, 3) := by decide +kernel
theorem dd_L_law_1458 : decode cL_law 1458 = .ok (.aload_n 2, 1) := by decide +kernel
theorem dd_L_law_1459 : decode cL_law 1459 = .ok (.aload_n 0, 1) := by decide +kernel
theorem dd_L_law_1460 : decode cL_law 1460 = .ok (.iload 4, 2) := by decide +kernel
theorem dd_L_law_1462 : decode cL_law 1462 = .ok (.iconst 1, 1) := by decide +kernel
theorem dd_L_law_1463 : decode cL_law 1463 = .ok (.iadd, 1) := by decide +kernel
theorem dd_L_law_1464 : decode cL_law 1464 = .ok (.iaload, 1) := by decide +kernel
theorem dd_L_law_1465 : decode cL_law 1465 = .ok (.invokevirtual 196, 3) := by decide +kernel
theorem dd_L_law_1468 : decode cL_law 1468 = .ok (.if_icmp .eq 5, 3) := by decide +kernel
theorem dd_L_law_1473 : decode cL_law 1473 = .ok (.iinc 4 6, 3) := by decide +kernel
theorem dd_L_law_1476 : decode cL_law 1476 = .ok (.goto (-1453), 3) := by decide +kernel
theorem dd_L_law_1479 : decode cL_law 1479 = .ok (.iconst 1, 1) := by decide +kernel
theorem dd_L_law_1480 : decode cL_law 1480 = .ok (.ireturn, 1) := by decide +kernel
end
