section
-- ===== PART A: goes FIRST, ahead of the names: the tables' words, and 'selects' of the private methods out of them =====
/-- a private method of a class that the tables say can be made, by its rows of tables_1 -/
def lw_okq (q : MethodName × Nat) : Prop := (q.1.cls ≠ "java/lang/invoke/MethodHandle" ∧ q.1.cls ≠ "java/lang/invoke/VarHandle") ∧ Cond.instantiable q.1.cls q.2 ∈ tables_1 ∧ Cond.privateMethod q.1 ∈ tables_1 ∧ Cond.instanceMethod q.1 ∈ tables_1
theorem lw_p0 : lw_okq (⟨"LoanedRound", "error", "(I)I"⟩, 8) := ⟨⟨by decide +kernel, by decide +kernel⟩, List.mem_of_getElem? (i := 20) (by decide +kernel), List.mem_of_getElem? (i := 295) (by decide +kernel), List.mem_of_getElem? (i := 296) (by decide +kernel)⟩
theorem lw_p1 : lw_okq (⟨"LoanedRound$Round", "tellsAt", "(I)I"⟩, 14) := ⟨⟨by decide +kernel, by decide +kernel⟩, List.mem_of_getElem? (i := 78) (by decide +kernel), List.mem_of_getElem? (i := 320) (by decide +kernel), List.mem_of_getElem? (i := 321) (by decide +kernel)⟩
theorem lw_p2 : lw_okq (⟨"LoanedRound$Round", "leavesAt", "(I)I"⟩, 14) := ⟨⟨by decide +kernel, by decide +kernel⟩, List.mem_of_getElem? (i := 78) (by decide +kernel), List.mem_of_getElem? (i := 345) (by decide +kernel), List.mem_of_getElem? (i := 346) (by decide +kernel)⟩
theorem lw_p3 : lw_okq (⟨"LoanedRound", "becomeView", "(I)I"⟩, 8) := ⟨⟨by decide +kernel, by decide +kernel⟩, List.mem_of_getElem? (i := 20) (by decide +kernel), List.mem_of_getElem? (i := 382) (by decide +kernel), List.mem_of_getElem? (i := 383) (by decide +kernel)⟩
theorem lw_p4 : lw_okq (⟨"LoanedRound", "becomeSharp", "(I)I"⟩, 8) := ⟨⟨by decide +kernel, by decide +kernel⟩, List.mem_of_getElem? (i := 20) (by decide +kernel), List.mem_of_getElem? (i := 386) (by decide +kernel), List.mem_of_getElem? (i := 387) (by decide +kernel)⟩
theorem lw_p5 : lw_okq (⟨"LoanedRound", "becomeSteel", "(I)I"⟩, 8) := ⟨⟨by decide +kernel, by decide +kernel⟩, List.mem_of_getElem? (i := 20) (by decide +kernel), List.mem_of_getElem? (i := 390) (by decide +kernel), List.mem_of_getElem? (i := 391) (by decide +kernel)⟩
theorem lw_p6 : lw_okq (⟨"LoanedRound$Reader", "readT", "(I)V"⟩, 5) := ⟨⟨by decide +kernel, by decide +kernel⟩, List.mem_of_getElem? (i := 169) (by decide +kernel), List.mem_of_getElem? (i := 423) (by decide +kernel), List.mem_of_getElem? (i := 424) (by decide +kernel)⟩
theorem lw_p7 : lw_okq (⟨"LoanedRound$Reader", "readA", "(I)V"⟩, 5) := ⟨⟨by decide +kernel, by decide +kernel⟩, List.mem_of_getElem? (i := 169) (by decide +kernel), List.mem_of_getElem? (i := 427) (by decide +kernel), List.mem_of_getElem? (i := 428) (by decide +kernel)⟩
theorem lw_p8 : lw_okq (⟨"LoanedRound$Reader", "readB", "(I)V"⟩, 5) := ⟨⟨by decide +kernel, by decide +kernel⟩, List.mem_of_getElem? (i := 169) (by decide +kernel), List.mem_of_getElem? (i := 431) (by decide +kernel), List.mem_of_getElem? (i := 432) (by decide +kernel)⟩
theorem lw_p9 : lw_okq (⟨"LoanedRound$Reader", "readS", "(I)V"⟩, 5) := ⟨⟨by decide +kernel, by decide +kernel⟩, List.mem_of_getElem? (i := 169) (by decide +kernel), List.mem_of_getElem? (i := 435) (by decide +kernel), List.mem_of_getElem? (i := 436) (by decide +kernel)⟩
theorem lw_p10 : lw_okq (⟨"LoanedRound$Reader", "readP", "(I)V"⟩, 5) := ⟨⟨by decide +kernel, by decide +kernel⟩, List.mem_of_getElem? (i := 169) (by decide +kernel), List.mem_of_getElem? (i := 439) (by decide +kernel), List.mem_of_getElem? (i := 440) (by decide +kernel)⟩
theorem lw_p11 : lw_okq (⟨"LoanedRound$Reader", "readQ", "(I)V"⟩, 5) := ⟨⟨by decide +kernel, by decide +kernel⟩, List.mem_of_getElem? (i := 169) (by decide +kernel), List.mem_of_getElem? (i := 443) (by decide +kernel), List.mem_of_getElem? (i := 444) (by decide +kernel)⟩
theorem lw_p12 : lw_okq (⟨"LoanedRound$Reader", "isDigit", "()Z"⟩, 5) := ⟨⟨by decide +kernel, by decide +kernel⟩, List.mem_of_getElem? (i := 169) (by decide +kernel), List.mem_of_getElem? (i := 447) (by decide +kernel), List.mem_of_getElem? (i := 448) (by decide +kernel)⟩
theorem lw_p13 : lw_okq (⟨"LoanedRound$Reader", "next", "()I"⟩, 5) := ⟨⟨by decide +kernel, by decide +kernel⟩, List.mem_of_getElem? (i := 169) (by decide +kernel), List.mem_of_getElem? (i := 451) (by decide +kernel), List.mem_of_getElem? (i := 452) (by decide +kernel)⟩
theorem lw_p14 : lw_okq (⟨"LoanedRound$Reader", "readNumber", "()V"⟩, 5) := ⟨⟨by decide +kernel, by decide +kernel⟩, List.mem_of_getElem? (i := 169) (by decide +kernel), List.mem_of_getElem? (i := 459) (by decide +kernel), List.mem_of_getElem? (i := 460) (by decide +kernel)⟩
theorem lw_p15 : lw_okq (⟨"LoanedRound$Reader", "nameNext", "()I"⟩, 5) := ⟨⟨by decide +kernel, by decide +kernel⟩, List.mem_of_getElem? (i := 169) (by decide +kernel), List.mem_of_getElem? (i := 464) (by decide +kernel), List.mem_of_getElem? (i := 465) (by decide +kernel)⟩
def lw_privs_1 : List (MethodName × Nat) := [(⟨"LoanedRound", "error", "(I)I"⟩, 8), (⟨"LoanedRound$Round", "tellsAt", "(I)I"⟩, 14), (⟨"LoanedRound$Round", "leavesAt", "(I)I"⟩, 14), (⟨"LoanedRound", "becomeView", "(I)I"⟩, 8), (⟨"LoanedRound", "becomeSharp", "(I)I"⟩, 8), (⟨"LoanedRound", "becomeSteel", "(I)I"⟩, 8), (⟨"LoanedRound$Reader", "readT", "(I)V"⟩, 5), (⟨"LoanedRound$Reader", "readA", "(I)V"⟩, 5), (⟨"LoanedRound$Reader", "readB", "(I)V"⟩, 5), (⟨"LoanedRound$Reader", "readS", "(I)V"⟩, 5), (⟨"LoanedRound$Reader", "readP", "(I)V"⟩, 5), (⟨"LoanedRound$Reader", "readQ", "(I)V"⟩, 5), (⟨"LoanedRound$Reader", "isDigit", "()Z"⟩, 5), (⟨"LoanedRound$Reader", "next", "()I"⟩, 5), (⟨"LoanedRound$Reader", "readNumber", "()V"⟩, 5), (⟨"LoanedRound$Reader", "nameNext", "()I"⟩, 5)]
theorem lw_r1 : ∀ q ∈ lw_privs_1, lw_okq q := List.forall_mem_cons.mpr ⟨lw_p0, List.forall_mem_cons.mpr ⟨lw_p1, List.forall_mem_cons.mpr ⟨lw_p2, List.forall_mem_cons.mpr ⟨lw_p3, List.forall_mem_cons.mpr ⟨lw_p4, List.forall_mem_cons.mpr ⟨lw_p5, List.forall_mem_cons.mpr ⟨lw_p6, List.forall_mem_cons.mpr ⟨lw_p7, List.forall_mem_cons.mpr ⟨lw_p8, List.forall_mem_cons.mpr ⟨lw_p9, List.forall_mem_cons.mpr ⟨lw_p10, List.forall_mem_cons.mpr ⟨lw_p11, List.forall_mem_cons.mpr ⟨lw_p12, List.forall_mem_cons.mpr ⟨lw_p13, List.forall_mem_cons.mpr ⟨lw_p14, List.forall_mem_cons.mpr ⟨lw_p15, fun _ h => absurd h List.not_mem_nil⟩⟩⟩⟩⟩⟩⟩⟩⟩⟩⟩⟩⟩⟩⟩⟩
theorem lw_p16 : lw_okq (⟨"LoanedRound$Reader", "isNext", "(C)Z"⟩, 5) := ⟨⟨by decide +kernel, by decide +kernel⟩, List.mem_of_getElem? (i := 169) (by decide +kernel), List.mem_of_getElem? (i := 550) (by decide +kernel), List.mem_of_getElem? (i := 551) (by decide +kernel)⟩
theorem lw_p17 : lw_okq (⟨"LoanedRound$Reader", "readClosing", "()V"⟩, 5) := ⟨⟨by decide +kernel, by decide +kernel⟩, List.mem_of_getElem? (i := 169) (by decide +kernel), List.mem_of_getElem? (i := 554) (by decide +kernel), List.mem_of_getElem? (i := 555) (by decide +kernel)⟩
theorem lw_p18 : lw_okq (⟨"LoanedRound$Reader", "fail", "()V"⟩, 5) := ⟨⟨by decide +kernel, by decide +kernel⟩, List.mem_of_getElem? (i := 169) (by decide +kernel), List.mem_of_getElem? (i := 558) (by decide +kernel), List.mem_of_getElem? (i := 559) (by decide +kernel)⟩
theorem lw_p19 : lw_okq (⟨"LoanedRound$Round", "nextPlace", "()I"⟩, 14) := ⟨⟨by decide +kernel, by decide +kernel⟩, List.mem_of_getElem? (i := 78) (by decide +kernel), List.mem_of_getElem? (i := 608) (by decide +kernel), List.mem_of_getElem? (i := 609) (by decide +kernel)⟩
theorem lw_p20 : lw_okq (⟨"LoanedRound$Thought", "viewWithout", "(II)I"⟩, 4) := ⟨⟨by decide +kernel, by decide +kernel⟩, List.mem_of_getElem? (i := 196) (by decide +kernel), List.mem_of_getElem? (i := 701) (by decide +kernel), List.mem_of_getElem? (i := 702) (by decide +kernel)⟩
theorem lw_p21 : lw_okq (⟨"LoanedRound$Thought", "isFitting", "(ILLoanedRound$Row;)Z"⟩, 4) := ⟨⟨by decide +kernel, by decide +kernel⟩, List.mem_of_getElem? (i := 196) (by decide +kernel), List.mem_of_getElem? (i := 732) (by decide +kernel), List.mem_of_getElem? (i := 733) (by decide +kernel)⟩
theorem lw_p22 : lw_okq (⟨"LoanedRound$Voices", "speak", "(IIII)I"⟩, 5) := ⟨⟨by decide +kernel, by decide +kernel⟩, List.mem_of_getElem? (i := 219) (by decide +kernel), List.mem_of_getElem? (i := 746) (by decide +kernel), List.mem_of_getElem? (i := 747) (by decide +kernel)⟩
theorem lw_p23 : lw_okq (⟨"LoanedRound$Voices", "part", "(I)I"⟩, 5) := ⟨⟨by decide +kernel, by decide +kernel⟩, List.mem_of_getElem? (i := 219) (by decide +kernel), List.mem_of_getElem? (i := 757) (by decide +kernel), List.mem_of_getElem? (i := 758) (by decide +kernel)⟩
theorem lw_p24 : lw_okq (⟨"LoanedRoundModel", "error", "(I)I"⟩, 20) := ⟨⟨by decide +kernel, by decide +kernel⟩, List.mem_of_getElem? (i := 848) (by decide +kernel), List.mem_of_getElem? (i := 922) (by decide +kernel), List.mem_of_getElem? (i := 923) (by decide +kernel)⟩
theorem lw_p25 : lw_okq (⟨"LoanedRoundModel", "whole", "()Z"⟩, 20) := ⟨⟨by decide +kernel, by decide +kernel⟩, List.mem_of_getElem? (i := 848) (by decide +kernel), List.mem_of_getElem? (i := 932) (by decide +kernel), List.mem_of_getElem? (i := 933) (by decide +kernel)⟩
theorem lw_p26 : lw_okq (⟨"LoanedRoundModel", "both", "()Z"⟩, 20) := ⟨⟨by decide +kernel, by decide +kernel⟩, List.mem_of_getElem? (i := 848) (by decide +kernel), List.mem_of_getElem? (i := 936) (by decide +kernel), List.mem_of_getElem? (i := 937) (by decide +kernel)⟩
theorem lw_p27 : lw_okq (⟨"LoanedRoundModel", "compared", "()Z"⟩, 20) := ⟨⟨by decide +kernel, by decide +kernel⟩, List.mem_of_getElem? (i := 848) (by decide +kernel), List.mem_of_getElem? (i := 940) (by decide +kernel), List.mem_of_getElem? (i := 941) (by decide +kernel)⟩
theorem lw_p28 : lw_okq (⟨"LoanedRoundModel", "sum", "()Z"⟩, 20) := ⟨⟨by decide +kernel, by decide +kernel⟩, List.mem_of_getElem? (i := 848) (by decide +kernel), List.mem_of_getElem? (i := 944) (by decide +kernel), List.mem_of_getElem? (i := 945) (by decide +kernel)⟩
theorem lw_p29 : lw_okq (⟨"LoanedRoundModel", "product", "()Z"⟩, 20) := ⟨⟨by decide +kernel, by decide +kernel⟩, List.mem_of_getElem? (i := 848) (by decide +kernel), List.mem_of_getElem? (i := 948) (by decide +kernel), List.mem_of_getElem? (i := 949) (by decide +kernel)⟩
theorem lw_p30 : lw_okq (⟨"LoanedRoundModel", "one", "()Z"⟩, 20) := ⟨⟨by decide +kernel, by decide +kernel⟩, List.mem_of_getElem? (i := 848) (by decide +kernel), List.mem_of_getElem? (i := 952) (by decide +kernel), List.mem_of_getElem? (i := 953) (by decide +kernel)⟩
theorem lw_p31 : lw_okq (⟨"LoanedRoundModel", "look", "()I"⟩, 20) := ⟨⟨by decide +kernel, by decide +kernel⟩, List.mem_of_getElem? (i := 848) (by decide +kernel), List.mem_of_getElem? (i := 956) (by decide +kernel), List.mem_of_getElem? (i := 957) (by decide +kernel)⟩
def lw_privs_2 : List (MethodName × Nat) := [(⟨"LoanedRound$Reader", "isNext", "(C)Z"⟩, 5), (⟨"LoanedRound$Reader", "readClosing", "()V"⟩, 5), (⟨"LoanedRound$Reader", "fail", "()V"⟩, 5), (⟨"LoanedRound$Round", "nextPlace", "()I"⟩, 14), (⟨"LoanedRound$Thought", "viewWithout", "(II)I"⟩, 4), (⟨"LoanedRound$Thought", "isFitting", "(ILLoanedRound$Row;)Z"⟩, 4), (⟨"LoanedRound$Voices", "speak", "(IIII)I"⟩, 5), (⟨"LoanedRound$Voices", "part", "(I)I"⟩, 5), (⟨"LoanedRoundModel", "error", "(I)I"⟩, 20), (⟨"LoanedRoundModel", "whole", "()Z"⟩, 20), (⟨"LoanedRoundModel", "both", "()Z"⟩, 20), (⟨"LoanedRoundModel", "compared", "()Z"⟩, 20), (⟨"LoanedRoundModel", "sum", "()Z"⟩, 20), (⟨"LoanedRoundModel", "product", "()Z"⟩, 20), (⟨"LoanedRoundModel", "one", "()Z"⟩, 20), (⟨"LoanedRoundModel", "look", "()I"⟩, 20)]
theorem lw_r2 : ∀ q ∈ lw_privs_2, lw_okq q := List.forall_mem_cons.mpr ⟨lw_p16, List.forall_mem_cons.mpr ⟨lw_p17, List.forall_mem_cons.mpr ⟨lw_p18, List.forall_mem_cons.mpr ⟨lw_p19, List.forall_mem_cons.mpr ⟨lw_p20, List.forall_mem_cons.mpr ⟨lw_p21, List.forall_mem_cons.mpr ⟨lw_p22, List.forall_mem_cons.mpr ⟨lw_p23, List.forall_mem_cons.mpr ⟨lw_p24, List.forall_mem_cons.mpr ⟨lw_p25, List.forall_mem_cons.mpr ⟨lw_p26, List.forall_mem_cons.mpr ⟨lw_p27, List.forall_mem_cons.mpr ⟨lw_p28, List.forall_mem_cons.mpr ⟨lw_p29, List.forall_mem_cons.mpr ⟨lw_p30, List.forall_mem_cons.mpr ⟨lw_p31, fun _ h => absurd h List.not_mem_nil⟩⟩⟩⟩⟩⟩⟩⟩⟩⟩⟩⟩⟩⟩⟩⟩
theorem lw_p32 : lw_okq (⟨"LoanedRoundModel", "isName", "(I)Z"⟩, 20) := ⟨⟨by decide +kernel, by decide +kernel⟩, List.mem_of_getElem? (i := 848) (by decide +kernel), List.mem_of_getElem? (i := 960) (by decide +kernel), List.mem_of_getElem? (i := 961) (by decide +kernel)⟩
theorem lw_p33 : lw_okq (⟨"LoanedRoundModel", "step1", "(II)V"⟩, 20) := ⟨⟨by decide +kernel, by decide +kernel⟩, List.mem_of_getElem? (i := 848) (by decide +kernel), List.mem_of_getElem? (i := 964) (by decide +kernel), List.mem_of_getElem? (i := 965) (by decide +kernel)⟩
theorem lw_p34 : lw_okq (⟨"LoanedRoundModel", "opens", "()Z"⟩, 20) := ⟨⟨by decide +kernel, by decide +kernel⟩, List.mem_of_getElem? (i := 848) (by decide +kernel), List.mem_of_getElem? (i := 968) (by decide +kernel), List.mem_of_getElem? (i := 969) (by decide +kernel)⟩
theorem lw_p35 : lw_okq (⟨"LoanedRoundModel", "hasText", "(I)Z"⟩, 20) := ⟨⟨by decide +kernel, by decide +kernel⟩, List.mem_of_getElem? (i := 848) (by decide +kernel), List.mem_of_getElem? (i := 976) (by decide +kernel), List.mem_of_getElem? (i := 977) (by decide +kernel)⟩
theorem lw_p36 : lw_okq (⟨"LoanedRoundModel", "lays1", "(III)V"⟩, 20) := ⟨⟨by decide +kernel, by decide +kernel⟩, List.mem_of_getElem? (i := 848) (by decide +kernel), List.mem_of_getElem? (i := 987) (by decide +kernel), List.mem_of_getElem? (i := 988) (by decide +kernel)⟩
theorem lw_p37 : lw_okq (⟨"LoanedRoundModel", "isHome", "(I)Z"⟩, 20) := ⟨⟨by decide +kernel, by decide +kernel⟩, List.mem_of_getElem? (i := 848) (by decide +kernel), List.mem_of_getElem? (i := 995) (by decide +kernel), List.mem_of_getElem? (i := 996) (by decide +kernel)⟩
theorem lw_p38 : lw_okq (⟨"LoanedRoundModel", "saidAt", "(I)I"⟩, 20) := ⟨⟨by decide +kernel, by decide +kernel⟩, List.mem_of_getElem? (i := 848) (by decide +kernel), List.mem_of_getElem? (i := 999) (by decide +kernel), List.mem_of_getElem? (i := 1000) (by decide +kernel)⟩
theorem lw_p39 : lw_okq (⟨"LoanedRoundModel", "tellsOf", "(I)I"⟩, 20) := ⟨⟨by decide +kernel, by decide +kernel⟩, List.mem_of_getElem? (i := 848) (by decide +kernel), List.mem_of_getElem? (i := 1003) (by decide +kernel), List.mem_of_getElem? (i := 1004) (by decide +kernel)⟩
theorem lw_p40 : lw_okq (⟨"LoanedRoundModel", "its", "(II)I"⟩, 20) := ⟨⟨by decide +kernel, by decide +kernel⟩, List.mem_of_getElem? (i := 848) (by decide +kernel), List.mem_of_getElem? (i := 1007) (by decide +kernel), List.mem_of_getElem? (i := 1008) (by decide +kernel)⟩
theorem lw_p41 : lw_okq (⟨"LoanedRoundModel", "givenBy", "(IIII)I"⟩, 20) := ⟨⟨by decide +kernel, by decide +kernel⟩, List.mem_of_getElem? (i := 848) (by decide +kernel), List.mem_of_getElem? (i := 1011) (by decide +kernel), List.mem_of_getElem? (i := 1012) (by decide +kernel)⟩
theorem lw_p42 : lw_okq (⟨"LoanedRoundModel", "worked", "(I)I"⟩, 20) := ⟨⟨by decide +kernel, by decide +kernel⟩, List.mem_of_getElem? (i := 848) (by decide +kernel), List.mem_of_getElem? (i := 1015) (by decide +kernel), List.mem_of_getElem? (i := 1016) (by decide +kernel)⟩
theorem lw_p43 : lw_okq (⟨"LoanedRoundModel", "behindAt", "(I)I"⟩, 20) := ⟨⟨by decide +kernel, by decide +kernel⟩, List.mem_of_getElem? (i := 848) (by decide +kernel), List.mem_of_getElem? (i := 1028) (by decide +kernel), List.mem_of_getElem? (i := 1029) (by decide +kernel)⟩
theorem lw_p44 : lw_okq (⟨"LoanedRoundModel", "leavesOf", "(I)I"⟩, 20) := ⟨⟨by decide +kernel, by decide +kernel⟩, List.mem_of_getElem? (i := 848) (by decide +kernel), List.mem_of_getElem? (i := 1032) (by decide +kernel), List.mem_of_getElem? (i := 1033) (by decide +kernel)⟩
theorem lw_p45 : lw_okq (⟨"LoanedRoundModel", "bluntsOf", "(I)I"⟩, 20) := ⟨⟨by decide +kernel, by decide +kernel⟩, List.mem_of_getElem? (i := 848) (by decide +kernel), List.mem_of_getElem? (i := 1036) (by decide +kernel), List.mem_of_getElem? (i := 1037) (by decide +kernel)⟩
theorem lw_p46 : lw_okq (⟨"LoanedRoundModel", "change1", "(II)I"⟩, 20) := ⟨⟨by decide +kernel, by decide +kernel⟩, List.mem_of_getElem? (i := 848) (by decide +kernel), List.mem_of_getElem? (i := 1055) (by decide +kernel), List.mem_of_getElem? (i := 1056) (by decide +kernel)⟩
theorem lw_p47 : lw_okq (⟨"LoanedRoundModel", "goesOn", "(I)V"⟩, 20) := ⟨⟨by decide +kernel, by decide +kernel⟩, List.mem_of_getElem? (i := 848) (by decide +kernel), List.mem_of_getElem? (i := 1079) (by decide +kernel), List.mem_of_getElem? (i := 1080) (by decide +kernel)⟩
def lw_privs_3 : List (MethodName × Nat) := [(⟨"LoanedRoundModel", "isName", "(I)Z"⟩, 20), (⟨"LoanedRoundModel", "step1", "(II)V"⟩, 20), (⟨"LoanedRoundModel", "opens", "()Z"⟩, 20), (⟨"LoanedRoundModel", "hasText", "(I)Z"⟩, 20), (⟨"LoanedRoundModel", "lays1", "(III)V"⟩, 20), (⟨"LoanedRoundModel", "isHome", "(I)Z"⟩, 20), (⟨"LoanedRoundModel", "saidAt", "(I)I"⟩, 20), (⟨"LoanedRoundModel", "tellsOf", "(I)I"⟩, 20), (⟨"LoanedRoundModel", "its", "(II)I"⟩, 20), (⟨"LoanedRoundModel", "givenBy", "(IIII)I"⟩, 20), (⟨"LoanedRoundModel", "worked", "(I)I"⟩, 20), (⟨"LoanedRoundModel", "behindAt", "(I)I"⟩, 20), (⟨"LoanedRoundModel", "leavesOf", "(I)I"⟩, 20), (⟨"LoanedRoundModel", "bluntsOf", "(I)I"⟩, 20), (⟨"LoanedRoundModel", "change1", "(II)I"⟩, 20), (⟨"LoanedRoundModel", "goesOn", "(I)V"⟩, 20)]
theorem lw_r3 : ∀ q ∈ lw_privs_3, lw_okq q := List.forall_mem_cons.mpr ⟨lw_p32, List.forall_mem_cons.mpr ⟨lw_p33, List.forall_mem_cons.mpr ⟨lw_p34, List.forall_mem_cons.mpr ⟨lw_p35, List.forall_mem_cons.mpr ⟨lw_p36, List.forall_mem_cons.mpr ⟨lw_p37, List.forall_mem_cons.mpr ⟨lw_p38, List.forall_mem_cons.mpr ⟨lw_p39, List.forall_mem_cons.mpr ⟨lw_p40, List.forall_mem_cons.mpr ⟨lw_p41, List.forall_mem_cons.mpr ⟨lw_p42, List.forall_mem_cons.mpr ⟨lw_p43, List.forall_mem_cons.mpr ⟨lw_p44, List.forall_mem_cons.mpr ⟨lw_p45, List.forall_mem_cons.mpr ⟨lw_p46, List.forall_mem_cons.mpr ⟨lw_p47, fun _ h => absurd h List.not_mem_nil⟩⟩⟩⟩⟩⟩⟩⟩⟩⟩⟩⟩⟩⟩⟩⟩
theorem lw_p48 : lw_okq (⟨"LoanedRoundModel", "day1", "()V"⟩, 20) := ⟨⟨by decide +kernel, by decide +kernel⟩, List.mem_of_getElem? (i := 848) (by decide +kernel), List.mem_of_getElem? (i := 1083) (by decide +kernel), List.mem_of_getElem? (i := 1084) (by decide +kernel)⟩
theorem lw_p49 : lw_okq (⟨"LoanedRoundModel", "nextOne", "()I"⟩, 20) := ⟨⟨by decide +kernel, by decide +kernel⟩, List.mem_of_getElem? (i := 848) (by decide +kernel), List.mem_of_getElem? (i := 1087) (by decide +kernel), List.mem_of_getElem? (i := 1088) (by decide +kernel)⟩
theorem lw_p50 : lw_okq (⟨"LoanedRoundModel", "saves", "()V"⟩, 20) := ⟨⟨by decide +kernel, by decide +kernel⟩, List.mem_of_getElem? (i := 848) (by decide +kernel), List.mem_of_getElem? (i := 1108) (by decide +kernel), List.mem_of_getElem? (i := 1109) (by decide +kernel)⟩
theorem lw_p51 : lw_okq (⟨"LoanedRoundModel", "heardAll", "()I"⟩, 20) := ⟨⟨by decide +kernel, by decide +kernel⟩, List.mem_of_getElem? (i := 848) (by decide +kernel), List.mem_of_getElem? (i := 1112) (by decide +kernel), List.mem_of_getElem? (i := 1113) (by decide +kernel)⟩
theorem lw_p52 : lw_okq (⟨"LoanedRoundModel", "putsBack", "()V"⟩, 20) := ⟨⟨by decide +kernel, by decide +kernel⟩, List.mem_of_getElem? (i := 848) (by decide +kernel), List.mem_of_getElem? (i := 1116) (by decide +kernel), List.mem_of_getElem? (i := 1117) (by decide +kernel)⟩
theorem lw_p53 : lw_okq (⟨"LoanedRoundModel", "changePlaces", "(II)V"⟩, 20) := ⟨⟨by decide +kernel, by decide +kernel⟩, List.mem_of_getElem? (i := 848) (by decide +kernel), List.mem_of_getElem? (i := 1135) (by decide +kernel), List.mem_of_getElem? (i := 1136) (by decide +kernel)⟩
theorem lw_p54 : lw_okq (⟨"LoanedRoundModel", "viewWith", "(II)I"⟩, 20) := ⟨⟨by decide +kernel, by decide +kernel⟩, List.mem_of_getElem? (i := 848) (by decide +kernel), List.mem_of_getElem? (i := 1146) (by decide +kernel), List.mem_of_getElem? (i := 1147) (by decide +kernel)⟩
theorem lw_p55 : lw_okq (⟨"LoanedRoundModel", "kindNow", "()I"⟩, 20) := ⟨⟨by decide +kernel, by decide +kernel⟩, List.mem_of_getElem? (i := 848) (by decide +kernel), List.mem_of_getElem? (i := 1168) (by decide +kernel), List.mem_of_getElem? (i := 1169) (by decide +kernel)⟩
theorem lw_p56 : lw_okq (⟨"LoanedRoundModel", "cutsAs", "(II)I"⟩, 20) := ⟨⟨by decide +kernel, by decide +kernel⟩, List.mem_of_getElem? (i := 848) (by decide +kernel), List.mem_of_getElem? (i := 1172) (by decide +kernel), List.mem_of_getElem? (i := 1173) (by decide +kernel)⟩
theorem lw_p57 : lw_okq (⟨"LoanedRoundModel", "begins", "(I)V"⟩, 20) := ⟨⟨by decide +kernel, by decide +kernel⟩, List.mem_of_getElem? (i := 848) (by decide +kernel), List.mem_of_getElem? (i := 1176) (by decide +kernel), List.mem_of_getElem? (i := 1177) (by decide +kernel)⟩
theorem lw_p58 : lw_okq (⟨"LoanedRoundModel", "saysAs", "(II)I"⟩, 20) := ⟨⟨by decide +kernel, by decide +kernel⟩, List.mem_of_getElem? (i := 848) (by decide +kernel), List.mem_of_getElem? (i := 1180) (by decide +kernel), List.mem_of_getElem? (i := 1181) (by decide +kernel)⟩
theorem lw_p59 : lw_okq (⟨"LoanedRoundModel", "mNow", "()I"⟩, 20) := ⟨⟨by decide +kernel, by decide +kernel⟩, List.mem_of_getElem? (i := 848) (by decide +kernel), List.mem_of_getElem? (i := 1184) (by decide +kernel), List.mem_of_getElem? (i := 1185) (by decide +kernel)⟩
theorem lw_p60 : lw_okq (⟨"LoanedRoundModel", "steelsAs", "(II)I"⟩, 20) := ⟨⟨by decide +kernel, by decide +kernel⟩, List.mem_of_getElem? (i := 848) (by decide +kernel), List.mem_of_getElem? (i := 1188) (by decide +kernel), List.mem_of_getElem? (i := 1189) (by decide +kernel)⟩
theorem lw_p61 : lw_okq (⟨"LoanedRoundModel", "partsAs", "(II)I"⟩, 20) := ⟨⟨by decide +kernel, by decide +kernel⟩, List.mem_of_getElem? (i := 848) (by decide +kernel), List.mem_of_getElem? (i := 1192) (by decide +kernel), List.mem_of_getElem? (i := 1193) (by decide +kernel)⟩
theorem lw_p62 : lw_okq (⟨"LoanedRoundModel", "lacks", "(I)I"⟩, 20) := ⟨⟨by decide +kernel, by decide +kernel⟩, List.mem_of_getElem? (i := 848) (by decide +kernel), List.mem_of_getElem? (i := 1216) (by decide +kernel), List.mem_of_getElem? (i := 1217) (by decide +kernel)⟩
theorem lw_p63 : lw_okq (⟨"LoanedRoundModel", "pastNow", "()I"⟩, 20) := ⟨⟨by decide +kernel, by decide +kernel⟩, List.mem_of_getElem? (i := 848) (by decide +kernel), List.mem_of_getElem? (i := 1247) (by decide +kernel), List.mem_of_getElem? (i := 1248) (by decide +kernel)⟩
def lw_privs_4 : List (MethodName × Nat) := [(⟨"LoanedRoundModel", "day1", "()V"⟩, 20), (⟨"LoanedRoundModel", "nextOne", "()I"⟩, 20), (⟨"LoanedRoundModel", "saves", "()V"⟩, 20), (⟨"LoanedRoundModel", "heardAll", "()I"⟩, 20), (⟨"LoanedRoundModel", "putsBack", "()V"⟩, 20), (⟨"LoanedRoundModel", "changePlaces", "(II)V"⟩, 20), (⟨"LoanedRoundModel", "viewWith", "(II)I"⟩, 20), (⟨"LoanedRoundModel", "kindNow", "()I"⟩, 20), (⟨"LoanedRoundModel", "cutsAs", "(II)I"⟩, 20), (⟨"LoanedRoundModel", "begins", "(I)V"⟩, 20), (⟨"LoanedRoundModel", "saysAs", "(II)I"⟩, 20), (⟨"LoanedRoundModel", "mNow", "()I"⟩, 20), (⟨"LoanedRoundModel", "steelsAs", "(II)I"⟩, 20), (⟨"LoanedRoundModel", "partsAs", "(II)I"⟩, 20), (⟨"LoanedRoundModel", "lacks", "(I)I"⟩, 20), (⟨"LoanedRoundModel", "pastNow", "()I"⟩, 20)]
theorem lw_r4 : ∀ q ∈ lw_privs_4, lw_okq q := List.forall_mem_cons.mpr ⟨lw_p48, List.forall_mem_cons.mpr ⟨lw_p49, List.forall_mem_cons.mpr ⟨lw_p50, List.forall_mem_cons.mpr ⟨lw_p51, List.forall_mem_cons.mpr ⟨lw_p52, List.forall_mem_cons.mpr ⟨lw_p53, List.forall_mem_cons.mpr ⟨lw_p54, List.forall_mem_cons.mpr ⟨lw_p55, List.forall_mem_cons.mpr ⟨lw_p56, List.forall_mem_cons.mpr ⟨lw_p57, List.forall_mem_cons.mpr ⟨lw_p58, List.forall_mem_cons.mpr ⟨lw_p59, List.forall_mem_cons.mpr ⟨lw_p60, List.forall_mem_cons.mpr ⟨lw_p61, List.forall_mem_cons.mpr ⟨lw_p62, List.forall_mem_cons.mpr ⟨lw_p63, fun _ h => absurd h List.not_mem_nil⟩⟩⟩⟩⟩⟩⟩⟩⟩⟩⟩⟩⟩⟩⟩⟩
def lw_privs : List (MethodName × Nat) := lw_privs_1 ++ (lw_privs_2 ++ (lw_privs_3 ++ (lw_privs_4)))
def lw_tbl : List Cond := k2_sels lw_privs ++ tables_1
theorem lw_privs_ok : ∀ q ∈ lw_privs, lw_okq q := by
  show ∀ q ∈ lw_privs_1 ++ (lw_privs_2 ++ (lw_privs_3 ++ (lw_privs_4))), lw_okq q
  exact List.forall_mem_append.mpr ⟨lw_r1, List.forall_mem_append.mpr ⟨lw_r2, List.forall_mem_append.mpr ⟨lw_r3, lw_r4⟩⟩⟩
end
section
/-! names of the classes, their fields, the methods: out of the printed names -/
def RX0 : String := "LoanedRound$Law"
def TX0 : u_T := fun k => match k with
  | 0 => ("LoanedRound$Law", "steps", "LLoanedRound$Row;", true)
  | 1 => ("LoanedRound$Law", "hold", "[I", true)
  | _ => ("LoanedRound$Law", "use", "I", true)
def tyX0 : Nat → FieldType := fun k => match k with
  | 0 => .object "LoanedRound$Row"
  | 1 => .array .int
  | _ => .int
theorem nmX0 : ∀ a, a < 3 → ∀ b, b < 3 → a ≠ b → (TX0 a).2.1 ≠ (TX0 b).2.1 := by decide +kernel
theorem tyX0_ok : ∀ k, k < 3 → parseFieldDescriptor (TX0 k).2.2.1 = some (tyX0 k) := by decide +kernel
abbrev cX0_init : ByteArray := prog_2_method_1_code
def yX0_init : MethodName := ⟨RX0, "<init>", "(I)V"⟩
abbrev cX0_takeSteps : ByteArray := prog_2_method_2_code
def yX0_takeSteps : MethodName := ⟨RX0, "takeSteps", "(LLoanedRound$Row;)V"⟩
abbrev cX0_gives : ByteArray := prog_2_method_3_code
def yX0_gives : MethodName := ⟨RX0, "gives", "(III)I"⟩
abbrev cX0_worth : ByteArray := prog_2_method_4_code
def yX0_worth : MethodName := ⟨RX0, "worth", "(IIII)I"⟩
abbrev cX0_combine : ByteArray := prog_2_method_5_code
def yX0_combine : MethodName := ⟨RX0, "combine", "(III)I"⟩
def RX1 : String := "LoanedRound$Reader"
def TX1 : u_T := fun k => match k with
  | 0 => ("LoanedRound$Reader", "steps", "LLoanedRound$Row;", true)
  | 1 => ("LoanedRound$Reader", "tape", "LLoanedRound$Row;", false)
  | 2 => ("LoanedRound$Reader", "names", "Ljava/lang/String;", false)
  | 3 => ("LoanedRound$Reader", "place", "I", false)
  | _ => ("LoanedRound$Reader", "fault", "I", false)
def tyX1 : Nat → FieldType := fun k => match k with
  | 0 => .object "LoanedRound$Row"
  | 1 => .object "LoanedRound$Row"
  | 2 => .object "java/lang/String"
  | 3 => .int
  | _ => .int
theorem nmX1 : ∀ a, a < 5 → ∀ b, b < 5 → a ≠ b → (TX1 a).2.1 ≠ (TX1 b).2.1 := by decide +kernel
theorem tyX1_ok : ∀ k, k < 5 → parseFieldDescriptor (TX1 k).2.2.1 = some (tyX1 k) := by decide +kernel
abbrev cX1_init : ByteArray := prog_3_method_1_code
def yX1_init : MethodName := ⟨RX1, "<init>", "()V"⟩
abbrev cX1_read : ByteArray := prog_3_method_2_code
def yX1_read : MethodName := ⟨RX1, "read", "(LLoanedRound$Row;I)I"⟩
abbrev cX1_next : ByteArray := prog_3_method_3_code
def yX1_next : MethodName := ⟨RX1, "next", "()I"⟩
abbrev cX1_fail : ByteArray := prog_3_method_4_code
def yX1_fail : MethodName := ⟨RX1, "fail", "()V"⟩
abbrev cX1_isNext : ByteArray := prog_3_method_5_code
def yX1_isNext : MethodName := ⟨RX1, "isNext", "(C)Z"⟩
abbrev cX1_readT : ByteArray := prog_3_method_6_code
def yX1_readT : MethodName := ⟨RX1, "readT", "(I)V"⟩
abbrev cX1_readA : ByteArray := prog_3_method_7_code
def yX1_readA : MethodName := ⟨RX1, "readA", "(I)V"⟩
abbrev cX1_readB : ByteArray := prog_3_method_8_code
def yX1_readB : MethodName := ⟨RX1, "readB", "(I)V"⟩
abbrev cX1_readS : ByteArray := prog_3_method_9_code
def yX1_readS : MethodName := ⟨RX1, "readS", "(I)V"⟩
abbrev cX1_readP : ByteArray := prog_3_method_10_code
def yX1_readP : MethodName := ⟨RX1, "readP", "(I)V"⟩
abbrev cX1_readQ : ByteArray := prog_3_method_11_code
def yX1_readQ : MethodName := ⟨RX1, "readQ", "(I)V"⟩
abbrev cX1_readClosing : ByteArray := prog_3_method_12_code
def yX1_readClosing : MethodName := ⟨RX1, "readClosing", "()V"⟩
abbrev cX1_readNumber : ByteArray := prog_3_method_13_code
def yX1_readNumber : MethodName := ⟨RX1, "readNumber", "()V"⟩
abbrev cX1_isDigit : ByteArray := prog_3_method_14_code
def yX1_isDigit : MethodName := ⟨RX1, "isDigit", "()Z"⟩
abbrev cX1_nameNext : ByteArray := prog_3_method_15_code
def yX1_nameNext : MethodName := ⟨RX1, "nameNext", "()I"⟩
def RX2 : String := "LoanedRound$Round"
def TX2 : u_T := fun k => match k with
  | 0 => ("LoanedRound$Round", "said", "LLoanedRound$Law;", true)
  | 1 => ("LoanedRound$Round", "behind", "LLoanedRound$Law;", true)
  | 2 => ("LoanedRound$Round", "kinds", "[I", true)
  | 3 => ("LoanedRound$Round", "ms", "[I", true)
  | 4 => ("LoanedRound$Round", "heard", "[I", true)
  | 5 => ("LoanedRound$Round", "turns", "[I", true)
  | 6 => ("LoanedRound$Round", "past", "I", false)
  | 7 => ("LoanedRound$Round", "homes", "I", false)
  | 8 => ("LoanedRound$Round", "day", "I", false)
  | 9 => ("LoanedRound$Round", "view", "I", false)
  | 10 => ("LoanedRound$Round", "sharp", "I", false)
  | 11 => ("LoanedRound$Round", "steel", "I", false)
  | 12 => ("LoanedRound$Round", "at", "I", false)
  | _ => ("LoanedRound$Round", "z", "I", false)
def tyX2 : Nat → FieldType := fun k => match k with
  | 0 => .object "LoanedRound$Law"
  | 1 => .object "LoanedRound$Law"
  | 2 => .array .int
  | 3 => .array .int
  | 4 => .array .int
  | 5 => .array .int
  | 6 => .int
  | 7 => .int
  | 8 => .int
  | 9 => .int
  | 10 => .int
  | 11 => .int
  | 12 => .int
  | _ => .int
theorem nmX2 : ∀ a, a < 14 → ∀ b, b < 14 → a ≠ b → (TX2 a).2.1 ≠ (TX2 b).2.1 := by decide +kernel
theorem tyX2_ok : ∀ k, k < 14 → parseFieldDescriptor (TX2 k).2.2.1 = some (tyX2 k) := by decide +kernel
abbrev cX2_init : ByteArray := prog_4_method_1_code
def yX2_init : MethodName := ⟨RX2, "<init>", "(LLoanedRound$Law;LLoanedRound$Law;)V"⟩
abbrev cX2_takeOver : ByteArray := prog_4_method_2_code
def yX2_takeOver : MethodName := ⟨RX2, "takeOver", "(LLoanedRound$Round;)V"⟩
abbrev cX2_has : ByteArray := prog_4_method_3_code
def yX2_has : MethodName := ⟨RX2, "has", "(I)Z"⟩
abbrev cX2_takeIn : ByteArray := prog_4_method_4_code
def yX2_takeIn : MethodName := ⟨RX2, "takeIn", "(I)I"⟩
abbrev cX2_pastAt : ByteArray := prog_4_method_5_code
def yX2_pastAt : MethodName := ⟨RX2, "pastAt", "(I)I"⟩
abbrev cX2_putPast : ByteArray := prog_4_method_6_code
def yX2_putPast : MethodName := ⟨RX2, "putPast", "(II)V"⟩
abbrev cX2_saidAt : ByteArray := prog_4_method_7_code
def yX2_saidAt : MethodName := ⟨RX2, "saidAt", "(I)I"⟩
abbrev cX2_behindAt : ByteArray := prog_4_method_8_code
def yX2_behindAt : MethodName := ⟨RX2, "behindAt", "(I)I"⟩
abbrev cX2_tellsAt : ByteArray := prog_4_method_9_code
def yX2_tellsAt : MethodName := ⟨RX2, "tellsAt", "(I)I"⟩
abbrev cX2_leavesAt : ByteArray := prog_4_method_10_code
def yX2_leavesAt : MethodName := ⟨RX2, "leavesAt", "(I)I"⟩
abbrev cX2_bluntsAt : ByteArray := prog_4_method_11_code
def yX2_bluntsAt : MethodName := ⟨RX2, "bluntsAt", "(I)I"⟩
abbrev cX2_passDays : ByteArray := prog_4_method_12_code
def yX2_passDays : MethodName := ⟨RX2, "passDays", "(I)V"⟩
abbrev cX2_passDaysFor : ByteArray := prog_4_method_13_code
def yX2_passDaysFor : MethodName := ⟨RX2, "passDaysFor", "(II)V"⟩
abbrev cX2_hear : ByteArray := prog_4_method_14_code
def yX2_hear : MethodName := ⟨RX2, "hear", "()V"⟩
abbrev cX2_carryOn : ByteArray := prog_4_method_15_code
def yX2_carryOn : MethodName := ⟨RX2, "carryOn", "()V"⟩
abbrev cX2_nextPlace : ByteArray := prog_4_method_16_code
def yX2_nextPlace : MethodName := ⟨RX2, "nextPlace", "()I"⟩
abbrev cX2_drawPlace : ByteArray := prog_4_method_17_code
def yX2_drawPlace : MethodName := ⟨RX2, "drawPlace", "()V"⟩
abbrev cX2_heardTogether : ByteArray := prog_4_method_18_code
def yX2_heardTogether : MethodName := ⟨RX2, "heardTogether", "()I"⟩
abbrev cX2_takeHeard : ByteArray := prog_4_method_19_code
def yX2_takeHeard : MethodName := ⟨RX2, "takeHeard", "(LLoanedRound$Row;)I"⟩
abbrev cX2_rightTurns : ByteArray := prog_4_method_20_code
def yX2_rightTurns : MethodName := ⟨RX2, "rightTurns", "(LLoanedRound$Row;)I"⟩
abbrev cX2_rightSaid : ByteArray := prog_4_method_21_code
def yX2_rightSaid : MethodName := ⟨RX2, "rightSaid", "(LLoanedRound$Row;)I"⟩
abbrev cX2_changePlaces : ByteArray := prog_4_method_22_code
def yX2_changePlaces : MethodName := ⟨RX2, "changePlaces", "(II)V"⟩
abbrev cX2_changeNumbers : ByteArray := prog_4_method_23_code
def yX2_changeNumbers : MethodName := ⟨RX2, "changeNumbers", "([III)V"⟩
def RX3 : String := "LoanedRound$Row"
def TX3 : u_T := fun k => match k with
  | 0 => ("LoanedRound$Row", "numbers", "[I", true)
  | _ => ("LoanedRound$Row", "size", "I", false)
def tyX3 : Nat → FieldType := fun k => match k with
  | 0 => .array .int
  | _ => .int
theorem nmX3 : ∀ a, a < 2 → ∀ b, b < 2 → a ≠ b → (TX3 a).2.1 ≠ (TX3 b).2.1 := by decide +kernel
theorem tyX3_ok : ∀ k, k < 2 → parseFieldDescriptor (TX3 k).2.2.1 = some (tyX3 k) := by decide +kernel
abbrev cX3_init : ByteArray := prog_5_method_1_code
def yX3_init : MethodName := ⟨RX3, "<init>", "(I)V"⟩
abbrev cX3_has : ByteArray := prog_5_method_2_code
def yX3_has : MethodName := ⟨RX3, "has", "(I)Z"⟩
abbrev cX3_hasRun : ByteArray := prog_5_method_3_code
def yX3_hasRun : MethodName := ⟨RX3, "hasRun", "(II)Z"⟩
abbrev cX3_add : ByteArray := prog_5_method_4_code
def yX3_add : MethodName := ⟨RX3, "add", "(I)V"⟩
abbrev cX3_empty : ByteArray := prog_5_method_5_code
def yX3_empty : MethodName := ⟨RX3, "empty", "()V"⟩
abbrev cX3_takeOver : ByteArray := prog_5_method_6_code
def yX3_takeOver : MethodName := ⟨RX3, "takeOver", "(LLoanedRound$Row;)V"⟩
def RX4 : String := "LoanedRound$Sheet"
def TX4 : u_T := fun k => match k with
  | 0 => ("LoanedRound$Sheet", "numbers", "LLoanedRound$Row;", true)
  | _ => ("LoanedRound$Sheet", "bits", "I", false)
def tyX4 : Nat → FieldType := fun k => match k with
  | 0 => .object "LoanedRound$Row"
  | _ => .int
theorem nmX4 : ∀ a, a < 2 → ∀ b, b < 2 → a ≠ b → (TX4 a).2.1 ≠ (TX4 b).2.1 := by decide +kernel
theorem tyX4_ok : ∀ k, k < 2 → parseFieldDescriptor (TX4 k).2.2.1 = some (tyX4 k) := by decide +kernel
abbrev cX4_init : ByteArray := prog_6_method_1_code
def yX4_init : MethodName := ⟨RX4, "<init>", "()V"⟩
abbrev cX4_isWidth : ByteArray := prog_6_method_2_code
def yX4_isWidth : MethodName := ⟨RX4, "isWidth", "(I)Z"⟩
abbrev cX4_isMissing : ByteArray := prog_6_method_3_code
def yX4_isMissing : MethodName := ⟨RX4, "isMissing", "()Z"⟩
abbrev cX4_layOut : ByteArray := prog_6_method_4_code
def yX4_layOut : MethodName := ⟨RX4, "layOut", "(II)V"⟩
abbrev cX4_lowestBits : ByteArray := prog_6_method_5_code
def yX4_lowestBits : MethodName := ⟨RX4, "lowestBits", "(I)I"⟩
def RX5 : String := "LoanedRound$State"
def TX5 : u_T := fun k => match k with
  | 0 => ("LoanedRound$State", "said", "LLoanedRound$Law;", true)
  | 1 => ("LoanedRound$State", "behind", "LLoanedRound$Law;", true)
  | 2 => ("LoanedRound$State", "round", "LLoanedRound$Round;", true)
  | 3 => ("LoanedRound$State", "tape", "LLoanedRound$Row;", true)
  | _ => ("LoanedRound$State", "waiting", "LLoanedRound$Row;", true)
def tyX5 : Nat → FieldType := fun k => match k with
  | 0 => .object "LoanedRound$Law"
  | 1 => .object "LoanedRound$Law"
  | 2 => .object "LoanedRound$Round"
  | 3 => .object "LoanedRound$Row"
  | _ => .object "LoanedRound$Row"
theorem nmX5 : ∀ a, a < 5 → ∀ b, b < 5 → a ≠ b → (TX5 a).2.1 ≠ (TX5 b).2.1 := by decide +kernel
theorem tyX5_ok : ∀ k, k < 5 → parseFieldDescriptor (TX5 k).2.2.1 = some (tyX5 k) := by decide +kernel
abbrev cX5_init : ByteArray := prog_7_method_1_code
def yX5_init : MethodName := ⟨RX5, "<init>", "()V"⟩
abbrev cX5_lawOf : ByteArray := prog_7_method_2_code
def yX5_lawOf : MethodName := ⟨RX5, "lawOf", "(I)LLoanedRound$Law;"⟩
abbrev cX5_takeOver : ByteArray := prog_7_method_3_code
def yX5_takeOver : MethodName := ⟨RX5, "takeOver", "(LLoanedRound$State;)V"⟩
def RX6 : String := "LoanedRound$Thought"
def TX6 : u_T := fun k => match k with
  | 0 => ("LoanedRound$Thought", "truth", "LLoanedRound$Round;", true)
  | 1 => ("LoanedRound$Thought", "trial", "LLoanedRound$Round;", true)
  | 2 => ("LoanedRound$Thought", "which", "I", false)
  | _ => ("LoanedRound$Thought", "much", "I", false)
def tyX6 : Nat → FieldType := fun k => match k with
  | 0 => .object "LoanedRound$Round"
  | 1 => .object "LoanedRound$Round"
  | 2 => .int
  | _ => .int
theorem nmX6 : ∀ a, a < 4 → ∀ b, b < 4 → a ≠ b → (TX6 a).2.1 ≠ (TX6 b).2.1 := by decide +kernel
theorem tyX6_ok : ∀ k, k < 4 → parseFieldDescriptor (TX6 k).2.2.1 = some (tyX6 k) := by decide +kernel
abbrev cX6_init : ByteArray := prog_8_method_1_code
def yX6_init : MethodName := ⟨RX6, "<init>", "(LLoanedRound$Round;)V"⟩
abbrev cX6_daysOn : ByteArray := prog_8_method_2_code
def yX6_daysOn : MethodName := ⟨RX6, "daysOn", "(I)LLoanedRound$Round;"⟩
abbrev cX6_daysUntil : ByteArray := prog_8_method_3_code
def yX6_daysUntil : MethodName := ⟨RX6, "daysUntil", "(II)I"⟩
abbrev cX6_seekStart : ByteArray := prog_8_method_4_code
def yX6_seekStart : MethodName := ⟨RX6, "seekStart", "(II)V"⟩
abbrev cX6_seekSwap : ByteArray := prog_8_method_5_code
def yX6_seekSwap : MethodName := ⟨RX6, "seekSwap", "(I)V"⟩
abbrev cX6_fewestPast : ByteArray := prog_8_method_6_code
def yX6_fewestPast : MethodName := ⟨RX6, "fewestPast", "(II)I"⟩
abbrev cX6_viewWithout : ByteArray := prog_8_method_7_code
def yX6_viewWithout : MethodName := ⟨RX6, "viewWithout", "(II)I"⟩
abbrev cX6_likelyViews : ByteArray := prog_8_method_8_code
def yX6_likelyViews : MethodName := ⟨RX6, "likelyViews", "(III)I"⟩
abbrev cX6_placesThatFit : ByteArray := prog_8_method_9_code
def yX6_placesThatFit : MethodName := ⟨RX6, "placesThatFit", "(LLoanedRound$Row;)I"⟩
abbrev cX6_isFitting : ByteArray := prog_8_method_10_code
def yX6_isFitting : MethodName := ⟨RX6, "isFitting", "(ILLoanedRound$Row;)Z"⟩
def RX7 : String := "LoanedRound$Voices"
def TX7 : u_T := fun k => match k with
  | 0 => ("LoanedRound$Voices", "trace", "LLoanedRound$Row;", true)
  | 1 => ("LoanedRound$Voices", "parted", "Z", false)
  | 2 => ("LoanedRound$Voices", "kind", "I", false)
  | 3 => ("LoanedRound$Voices", "k", "I", false)
  | _ => ("LoanedRound$Voices", "m", "I", false)
def tyX7 : Nat → FieldType := fun k => match k with
  | 0 => .object "LoanedRound$Row"
  | 1 => .boolean
  | 2 => .int
  | 3 => .int
  | _ => .int
theorem nmX7 : ∀ a, a < 5 → ∀ b, b < 5 → a ≠ b → (TX7 a).2.1 ≠ (TX7 b).2.1 := by decide +kernel
theorem tyX7_ok : ∀ k, k < 5 → parseFieldDescriptor (TX7 k).2.2.1 = some (tyX7 k) := by decide +kernel
abbrev cX7_init : ByteArray := prog_9_method_1_code
def yX7_init : MethodName := ⟨RX7, "<init>", "()V"⟩
abbrev cX7_answer : ByteArray := prog_9_method_2_code
def yX7_answer : MethodName := ⟨RX7, "answer", "(LLoanedRound$Round;III)I"⟩
abbrev cX7_speak : ByteArray := prog_9_method_3_code
def yX7_speak : MethodName := ⟨RX7, "speak", "(IIII)I"⟩
abbrev cX7_ownerOf : ByteArray := prog_9_method_4_code
def yX7_ownerOf : MethodName := ⟨RX7, "ownerOf", "(II)I"⟩
abbrev cX7_part : ByteArray := prog_9_method_5_code
def yX7_part : MethodName := ⟨RX7, "part", "(I)I"⟩
def RX8 : String := "LoanedRound"
def TX8 : u_T := fun k => match k with
  | 0 => ("LoanedRound", "now", "LLoanedRound$State;", true)
  | 1 => ("LoanedRound", "kept", "LLoanedRound$State;", true)
  | 2 => ("LoanedRound", "reader", "LLoanedRound$Reader;", true)
  | 3 => ("LoanedRound", "thought", "LLoanedRound$Thought;", true)
  | 4 => ("LoanedRound", "voices", "LLoanedRound$Voices;", true)
  | 5 => ("LoanedRound", "sheets", "[LLoanedRound$Sheet;", true)
  | 6 => ("LoanedRound", "errors", "[I", true)
  | _ => ("LoanedRound", "images", "I", false)
def tyX8 : Nat → FieldType := fun k => match k with
  | 0 => .object "LoanedRound$State"
  | 1 => .object "LoanedRound$State"
  | 2 => .object "LoanedRound$Reader"
  | 3 => .object "LoanedRound$Thought"
  | 4 => .object "LoanedRound$Voices"
  | 5 => .array (.object "LoanedRound$Sheet")
  | 6 => .array .int
  | _ => .int
theorem nmX8 : ∀ a, a < 8 → ∀ b, b < 8 → a ≠ b → (TX8 a).2.1 ≠ (TX8 b).2.1 := by decide +kernel
theorem tyX8_ok : ∀ k, k < 8 → parseFieldDescriptor (TX8 k).2.2.1 = some (tyX8 k) := by decide +kernel
abbrev cX8_init : ByteArray := prog_1_method_1_code
def yX8_init : MethodName := ⟨RX8, "<init>", "()V"⟩
abbrev cX8_home : ByteArray := prog_1_method_2_code
def yX8_home : MethodName := ⟨RX8, "home", "(I)I"⟩
abbrev cX8_homeIs : ByteArray := prog_1_method_3_code
def yX8_homeIs : MethodName := ⟨RX8, "homeIs", "(II)I"⟩
abbrev cX8_become : ByteArray := prog_1_method_4_code
def yX8_become : MethodName := ⟨RX8, "become", "(II)I"⟩
abbrev cX8_as : ByteArray := prog_1_method_5_code
def yX8_as : MethodName := ⟨RX8, "as", "(II)I"⟩
abbrev cX8_past : ByteArray := prog_1_method_6_code
def yX8_past : MethodName := ⟨RX8, "past", "(II)I"⟩
abbrev cX8_goes : ByteArray := prog_1_method_7_code
def yX8_goes : MethodName := ⟨RX8, "goes", "(I)I"⟩
abbrev cX8_set : ByteArray := prog_1_method_8_code
def yX8_set : MethodName := ⟨RX8, "set", "(II)I"⟩
abbrev cX8_hears : ByteArray := prog_1_method_9_code
def yX8_hears : MethodName := ⟨RX8, "hears", "(II)I"⟩
abbrev cX8_feed : ByteArray := prog_1_method_10_code
def yX8_feed : MethodName := ⟨RX8, "feed", "(JI)I"⟩
abbrev cX8_text : ByteArray := prog_1_method_11_code
def yX8_text : MethodName := ⟨RX8, "text", "(I)I"⟩
abbrev cX8_untell : ByteArray := prog_1_method_12_code
def yX8_untell : MethodName := ⟨RX8, "untell", "(I)I"⟩
abbrev cX8_law : ByteArray := prog_1_method_13_code
def yX8_law : MethodName := ⟨RX8, "law", "(IIII)I"⟩
abbrev cX8_days : ByteArray := prog_1_method_14_code
def yX8_days : MethodName := ⟨RX8, "days", "(I)I"⟩
abbrev cX8_loose : ByteArray := prog_1_method_15_code
def yX8_loose : MethodName := ⟨RX8, "loose", "(I)I"⟩
abbrev cX8_day : ByteArray := prog_1_method_16_code
def yX8_day : MethodName := ⟨RX8, "day", "(I)I"⟩
abbrev cX8_seed : ByteArray := prog_1_method_17_code
def yX8_seed : MethodName := ⟨RX8, "seed", "(I)I"⟩
abbrev cX8_then : ByteArray := prog_1_method_18_code
def yX8_then : MethodName := ⟨RX8, "then", "(II)I"⟩
abbrev cX8_soonest : ByteArray := prog_1_method_19_code
def yX8_soonest : MethodName := ⟨RX8, "soonest", "(II)I"⟩
abbrev cX8_startFor : ByteArray := prog_1_method_20_code
def yX8_startFor : MethodName := ⟨RX8, "startFor", "(III)I"⟩
abbrev cX8_swapFor : ByteArray := prog_1_method_21_code
def yX8_swapFor : MethodName := ⟨RX8, "swapFor", "(II)I"⟩
abbrev cX8_spare : ByteArray := prog_1_method_22_code
def yX8_spare : MethodName := ⟨RX8, "spare", "(II)I"⟩
abbrev cX8_odds : ByteArray := prog_1_method_23_code
def yX8_odds : MethodName := ⟨RX8, "odds", "(IIII)I"⟩
abbrev cX8_fits : ByteArray := prog_1_method_24_code
def yX8_fits : MethodName := ⟨RX8, "fits", "(II)I"⟩
abbrev cX8_voice : ByteArray := prog_1_method_25_code
def yX8_voice : MethodName := ⟨RX8, "voice", "(III)I"⟩
abbrev cX8_body : ByteArray := prog_1_method_26_code
def yX8_body : MethodName := ⟨RX8, "body", "(I)I"⟩
abbrev cX8_sheet : ByteArray := prog_1_method_27_code
def yX8_sheet : MethodName := ⟨RX8, "sheet", "(III)I"⟩
abbrev cX8_put : ByteArray := prog_1_method_28_code
def yX8_put : MethodName := ⟨RX8, "put", "(III)I"⟩
abbrev cX8_move : ByteArray := prog_1_method_29_code
def yX8_move : MethodName := ⟨RX8, "move", "(IIIII)I"⟩
abbrev cX8_hearAll : ByteArray := prog_1_method_30_code
def yX8_hearAll : MethodName := ⟨RX8, "hearAll", "(I)I"⟩
abbrev cX8_judge : ByteArray := prog_1_method_31_code
def yX8_judge : MethodName := ⟨RX8, "judge", "(I)I"⟩
abbrev cX8_image : ByteArray := prog_1_method_32_code
def yX8_image : MethodName := ⟨RX8, "image", "()I"⟩
abbrev cX8_restore : ByteArray := prog_1_method_33_code
def yX8_restore : MethodName := ⟨RX8, "restore", "()I"⟩
abbrev cX8_tell : ByteArray := prog_1_method_34_code
def yX8_tell : MethodName := ⟨RX8, "tell", "(I)I"⟩
abbrev cX8_check : ByteArray := prog_1_method_35_code
def yX8_check : MethodName := ⟨RX8, "check", "()I"⟩
abbrev cX8_count : ByteArray := prog_1_method_36_code
def yX8_count : MethodName := ⟨RX8, "count", "(I)I"⟩
abbrev cX8_told : ByteArray := prog_1_method_37_code
def yX8_told : MethodName := ⟨RX8, "told", "(I)I"⟩
abbrev cX8_error : ByteArray := prog_1_method_38_code
def yX8_error : MethodName := ⟨RX8, "error", "(I)I"⟩
abbrev cX8_becomeView : ByteArray := prog_1_method_39_code
def yX8_becomeView : MethodName := ⟨RX8, "becomeView", "(I)I"⟩
abbrev cX8_becomeSharp : ByteArray := prog_1_method_40_code
def yX8_becomeSharp : MethodName := ⟨RX8, "becomeSharp", "(I)I"⟩
abbrev cX8_becomeSteel : ByteArray := prog_1_method_41_code
def yX8_becomeSteel : MethodName := ⟨RX8, "becomeSteel", "(I)I"⟩
abbrev cX8_isWithin : ByteArray := prog_1_method_42_code
def yX8_isWithin : MethodName := ⟨RX8, "isWithin", "(III)Z"⟩
abbrev cX8_isUse : ByteArray := prog_1_method_43_code
def yX8_isUse : MethodName := ⟨RX8, "isUse", "(I)Z"⟩
abbrev cX8_isSheet : ByteArray := prog_1_method_44_code
def yX8_isSheet : MethodName := ⟨RX8, "isSheet", "(I)Z"⟩
abbrev cX8_isOfKind : ByteArray := prog_1_method_45_code
def yX8_isOfKind : MethodName := ⟨RX8, "isOfKind", "(II)Z"⟩
abbrev cX8_greatestShared : ByteArray := prog_1_method_46_code
def yX8_greatestShared : MethodName := ⟨RX8, "greatestShared", "(II)I"⟩
def RX9 : String := "LoanedRoundModel"
def TX9 : u_T := fun k => match k with
  | 0 => ("LoanedRoundModel", "s", "[I", true)
  | 1 => ("LoanedRoundModel", "kept", "[I", true)
  | 2 => ("LoanedRoundModel", "beside", "[I", true)
  | 3 => ("LoanedRoundModel", "images", "I", false)
  | 4 => ("LoanedRoundModel", "errors", "[I", true)
  | 5 => ("LoanedRoundModel", "at", "I", false)
  | 6 => ("LoanedRoundModel", "open", "I", false)
  | 7 => ("LoanedRoundModel", "steps", "I", false)
  | 8 => ("LoanedRoundModel", "use", "I", false)
  | 9 => ("LoanedRoundModel", "step", "[I", true)
  | 10 => ("LoanedRoundModel", "named", "[I", true)
  | 11 => ("LoanedRoundModel", "pile", "[I", true)
  | 12 => ("LoanedRoundModel", "traced", "I", false)
  | 13 => ("LoanedRoundModel", "trace", "[I", true)
  | 14 => ("LoanedRoundModel", "speaks", "I", false)
  | 15 => ("LoanedRoundModel", "isParted", "Z", false)
  | 16 => ("LoanedRoundModel", "bits", "[I", true)
  | 17 => ("LoanedRoundModel", "sizes", "[I", true)
  | 18 => ("LoanedRoundModel", "number", "[I", true)
  | _ => ("LoanedRoundModel", "aside", "[I", true)
def tyX9 : Nat → FieldType := fun k => match k with
  | 0 => .array .int
  | 1 => .array .int
  | 2 => .array .int
  | 3 => .int
  | 4 => .array .int
  | 5 => .int
  | 6 => .int
  | 7 => .int
  | 8 => .int
  | 9 => .array .int
  | 10 => .array .int
  | 11 => .array .int
  | 12 => .int
  | 13 => .array .int
  | 14 => .int
  | 15 => .boolean
  | 16 => .array .int
  | 17 => .array .int
  | 18 => .array .int
  | _ => .array .int
theorem nmX9 : ∀ a, a < 20 → ∀ b, b < 20 → a ≠ b → (TX9 a).2.1 ≠ (TX9 b).2.1 := by decide +kernel
theorem tyX9_ok : ∀ k, k < 20 → parseFieldDescriptor (TX9 k).2.2.1 = some (tyX9 k) := by decide +kernel
abbrev cX9_init : ByteArray := prog_11_method_1_code
def yX9_init : MethodName := ⟨RX9, "<init>", "()V"⟩
abbrev cX9_error : ByteArray := prog_11_method_2_code
def yX9_error : MethodName := ⟨RX9, "error", "(I)I"⟩
abbrev cX9_in : ByteArray := prog_11_method_3_code
def yX9_in : MethodName := ⟨RX9, "in", "(III)Z"⟩
abbrev cX9_held : ByteArray := prog_11_method_4_code
def yX9_held : MethodName := ⟨RX9, "held", "(III)I"⟩
abbrev cX9_copyAll : ByteArray := prog_11_method_5_code
def yX9_copyAll : MethodName := ⟨RX9, "copyAll", "([I[I)V"⟩
abbrev cX9_saves : ByteArray := prog_11_method_6_code
def yX9_saves : MethodName := ⟨RX9, "saves", "()V"⟩
abbrev cX9_putsBack : ByteArray := prog_11_method_7_code
def yX9_putsBack : MethodName := ⟨RX9, "putsBack", "()V"⟩
abbrev cX9_isHome : ByteArray := prog_11_method_8_code
def yX9_isHome : MethodName := ⟨RX9, "isHome", "(I)Z"⟩
abbrev cX9_its : ByteArray := prog_11_method_9_code
def yX9_its : MethodName := ⟨RX9, "its", "(II)I"⟩
abbrev cX9_lays1 : ByteArray := prog_11_method_10_code
def yX9_lays1 : MethodName := ⟨RX9, "lays1", "(III)V"⟩
abbrev cX9_change1 : ByteArray := prog_11_method_11_code
def yX9_change1 : MethodName := ⟨RX9, "change1", "(II)I"⟩
abbrev cX9_feed : ByteArray := prog_11_method_12_code
def yX9_feed : MethodName := ⟨RX9, "feed", "(JI)I"⟩
abbrev cX9_look : ByteArray := prog_11_method_13_code
def yX9_look : MethodName := ⟨RX9, "look", "()I"⟩
abbrev cX9_isName : ByteArray := prog_11_method_14_code
def yX9_isName : MethodName := ⟨RX9, "isName", "(I)Z"⟩
abbrev cX9_step1 : ByteArray := prog_11_method_15_code
def yX9_step1 : MethodName := ⟨RX9, "step1", "(II)V"⟩
abbrev cX9_whole : ByteArray := prog_11_method_16_code
def yX9_whole : MethodName := ⟨RX9, "whole", "()Z"⟩
abbrev cX9_both : ByteArray := prog_11_method_17_code
def yX9_both : MethodName := ⟨RX9, "both", "()Z"⟩
abbrev cX9_compared : ByteArray := prog_11_method_18_code
def yX9_compared : MethodName := ⟨RX9, "compared", "()Z"⟩
abbrev cX9_sum : ByteArray := prog_11_method_19_code
def yX9_sum : MethodName := ⟨RX9, "sum", "()Z"⟩
abbrev cX9_product : ByteArray := prog_11_method_20_code
def yX9_product : MethodName := ⟨RX9, "product", "()Z"⟩
abbrev cX9_opens : ByteArray := prog_11_method_21_code
def yX9_opens : MethodName := ⟨RX9, "opens", "()Z"⟩
abbrev cX9_one : ByteArray := prog_11_method_22_code
def yX9_one : MethodName := ⟨RX9, "one", "()Z"⟩
abbrev cX9_hasText : ByteArray := prog_11_method_23_code
def yX9_hasText : MethodName := ⟨RX9, "hasText", "(I)Z"⟩
abbrev cX9_text : ByteArray := prog_11_method_24_code
def yX9_text : MethodName := ⟨RX9, "text", "(I)I"⟩
abbrev cX9_untell : ByteArray := prog_11_method_25_code
def yX9_untell : MethodName := ⟨RX9, "untell", "(I)I"⟩
abbrev cX9_joined : ByteArray := prog_11_method_26_code
def yX9_joined : MethodName := ⟨RX9, "joined", "(III)I"⟩
abbrev cX9_worked : ByteArray := prog_11_method_27_code
def yX9_worked : MethodName := ⟨RX9, "worked", "(I)I"⟩
abbrev cX9_tellsOf : ByteArray := prog_11_method_28_code
def yX9_tellsOf : MethodName := ⟨RX9, "tellsOf", "(I)I"⟩
abbrev cX9_leavesOf : ByteArray := prog_11_method_29_code
def yX9_leavesOf : MethodName := ⟨RX9, "leavesOf", "(I)I"⟩
abbrev cX9_bluntsOf : ByteArray := prog_11_method_30_code
def yX9_bluntsOf : MethodName := ⟨RX9, "bluntsOf", "(I)I"⟩
abbrev cX9_restOf : ByteArray := prog_11_method_31_code
def yX9_restOf : MethodName := ⟨RX9, "restOf", "(I)I"⟩
abbrev cX9_givenBy : ByteArray := prog_11_method_32_code
def yX9_givenBy : MethodName := ⟨RX9, "givenBy", "(IIII)I"⟩
abbrev cX9_saidAt : ByteArray := prog_11_method_33_code
def yX9_saidAt : MethodName := ⟨RX9, "saidAt", "(I)I"⟩
abbrev cX9_behindAt : ByteArray := prog_11_method_34_code
def yX9_behindAt : MethodName := ⟨RX9, "behindAt", "(I)I"⟩
abbrev cX9_nextOne : ByteArray := prog_11_method_35_code
def yX9_nextOne : MethodName := ⟨RX9, "nextOne", "()I"⟩
abbrev cX9_day1 : ByteArray := prog_11_method_36_code
def yX9_day1 : MethodName := ⟨RX9, "day1", "()V"⟩
abbrev cX9_goesOn : ByteArray := prog_11_method_37_code
def yX9_goesOn : MethodName := ⟨RX9, "goesOn", "(I)V"⟩
abbrev cX9_heardAll : ByteArray := prog_11_method_38_code
def yX9_heardAll : MethodName := ⟨RX9, "heardAll", "()I"⟩
abbrev cX9_isKm : ByteArray := prog_11_method_39_code
def yX9_isKm : MethodName := ⟨RX9, "isKm", "(I)Z"⟩
abbrev cX9_home : ByteArray := prog_11_method_40_code
def yX9_home : MethodName := ⟨RX9, "home", "(I)I"⟩
abbrev cX9_homeIs : ByteArray := prog_11_method_41_code
def yX9_homeIs : MethodName := ⟨RX9, "homeIs", "(II)I"⟩
abbrev cX9_become : ByteArray := prog_11_method_42_code
def yX9_become : MethodName := ⟨RX9, "become", "(II)I"⟩
abbrev cX9_as : ByteArray := prog_11_method_43_code
def yX9_as : MethodName := ⟨RX9, "as", "(II)I"⟩
abbrev cX9_past : ByteArray := prog_11_method_44_code
def yX9_past : MethodName := ⟨RX9, "past", "(II)I"⟩
abbrev cX9_goes : ByteArray := prog_11_method_45_code
def yX9_goes : MethodName := ⟨RX9, "goes", "(I)I"⟩
abbrev cX9_set : ByteArray := prog_11_method_46_code
def yX9_set : MethodName := ⟨RX9, "set", "(II)I"⟩
abbrev cX9_hears : ByteArray := prog_11_method_47_code
def yX9_hears : MethodName := ⟨RX9, "hears", "(II)I"⟩
abbrev cX9_law : ByteArray := prog_11_method_48_code
def yX9_law : MethodName := ⟨RX9, "law", "(IIII)I"⟩
abbrev cX9_days : ByteArray := prog_11_method_49_code
def yX9_days : MethodName := ⟨RX9, "days", "(I)I"⟩
abbrev cX9_loose : ByteArray := prog_11_method_50_code
def yX9_loose : MethodName := ⟨RX9, "loose", "(I)I"⟩
abbrev cX9_day : ByteArray := prog_11_method_51_code
def yX9_day : MethodName := ⟨RX9, "day", "(I)I"⟩
abbrev cX9_seed : ByteArray := prog_11_method_52_code
def yX9_seed : MethodName := ⟨RX9, "seed", "(I)I"⟩
abbrev cX9_then : ByteArray := prog_11_method_53_code
def yX9_then : MethodName := ⟨RX9, "then", "(II)I"⟩
abbrev cX9_soonest : ByteArray := prog_11_method_54_code
def yX9_soonest : MethodName := ⟨RX9, "soonest", "(II)I"⟩
abbrev cX9_isAsked : ByteArray := prog_11_method_55_code
def yX9_isAsked : MethodName := ⟨RX9, "isAsked", "(II)Z"⟩
abbrev cX9_startFor : ByteArray := prog_11_method_56_code
def yX9_startFor : MethodName := ⟨RX9, "startFor", "(III)I"⟩
abbrev cX9_changePlaces : ByteArray := prog_11_method_57_code
def yX9_changePlaces : MethodName := ⟨RX9, "changePlaces", "(II)V"⟩
abbrev cX9_swapFor : ByteArray := prog_11_method_58_code
def yX9_swapFor : MethodName := ⟨RX9, "swapFor", "(II)I"⟩
abbrev cX9_ones : ByteArray := prog_11_method_59_code
def yX9_ones : MethodName := ⟨RX9, "ones", "(I)I"⟩
abbrev cX9_viewWith : ByteArray := prog_11_method_60_code
def yX9_viewWith : MethodName := ⟨RX9, "viewWith", "(II)I"⟩
abbrev cX9_spare : ByteArray := prog_11_method_61_code
def yX9_spare : MethodName := ⟨RX9, "spare", "(II)I"⟩
abbrev cX9_common : ByteArray := prog_11_method_62_code
def yX9_common : MethodName := ⟨RX9, "common", "(II)I"⟩
abbrev cX9_odds : ByteArray := prog_11_method_63_code
def yX9_odds : MethodName := ⟨RX9, "odds", "(IIII)I"⟩
abbrev cX9_fits : ByteArray := prog_11_method_64_code
def yX9_fits : MethodName := ⟨RX9, "fits", "(II)I"⟩
abbrev cX9_begins : ByteArray := prog_11_method_65_code
def yX9_begins : MethodName := ⟨RX9, "begins", "(I)V"⟩
abbrev cX9_above : ByteArray := prog_11_method_66_code
def yX9_above : MethodName := ⟨RX9, "above", "(I)I"⟩
abbrev cX9_kindNow : ByteArray := prog_11_method_67_code
def yX9_kindNow : MethodName := ⟨RX9, "kindNow", "()I"⟩
abbrev cX9_mNow : ByteArray := prog_11_method_68_code
def yX9_mNow : MethodName := ⟨RX9, "mNow", "()I"⟩
abbrev cX9_cutsAs : ByteArray := prog_11_method_69_code
def yX9_cutsAs : MethodName := ⟨RX9, "cutsAs", "(II)I"⟩
abbrev cX9_saysAs : ByteArray := prog_11_method_70_code
def yX9_saysAs : MethodName := ⟨RX9, "saysAs", "(II)I"⟩
abbrev cX9_steelsAs : ByteArray := prog_11_method_71_code
def yX9_steelsAs : MethodName := ⟨RX9, "steelsAs", "(II)I"⟩
abbrev cX9_partsAs : ByteArray := prog_11_method_72_code
def yX9_partsAs : MethodName := ⟨RX9, "partsAs", "(II)I"⟩
abbrev cX9_voice : ByteArray := prog_11_method_73_code
def yX9_voice : MethodName := ⟨RX9, "voice", "(III)I"⟩
abbrev cX9_body : ByteArray := prog_11_method_74_code
def yX9_body : MethodName := ⟨RX9, "body", "(I)I"⟩
abbrev cX9_isSheet : ByteArray := prog_11_method_75_code
def yX9_isSheet : MethodName := ⟨RX9, "isSheet", "(I)Z"⟩
abbrev cX9_sheet : ByteArray := prog_11_method_76_code
def yX9_sheet : MethodName := ⟨RX9, "sheet", "(III)I"⟩
abbrev cX9_put : ByteArray := prog_11_method_77_code
def yX9_put : MethodName := ⟨RX9, "put", "(III)I"⟩
abbrev cX9_move : ByteArray := prog_11_method_78_code
def yX9_move : MethodName := ⟨RX9, "move", "(IIIII)I"⟩
abbrev cX9_lacks : ByteArray := prog_11_method_79_code
def yX9_lacks : MethodName := ⟨RX9, "lacks", "(I)I"⟩
abbrev cX9_hearAll : ByteArray := prog_11_method_80_code
def yX9_hearAll : MethodName := ⟨RX9, "hearAll", "(I)I"⟩
abbrev cX9_judge : ByteArray := prog_11_method_81_code
def yX9_judge : MethodName := ⟨RX9, "judge", "(I)I"⟩
abbrev cX9_image : ByteArray := prog_11_method_82_code
def yX9_image : MethodName := ⟨RX9, "image", "()I"⟩
abbrev cX9_restore : ByteArray := prog_11_method_83_code
def yX9_restore : MethodName := ⟨RX9, "restore", "()I"⟩
abbrev cX9_tell : ByteArray := prog_11_method_84_code
def yX9_tell : MethodName := ⟨RX9, "tell", "(I)I"⟩
abbrev cX9_check : ByteArray := prog_11_method_85_code
def yX9_check : MethodName := ⟨RX9, "check", "()I"⟩
abbrev cX9_pastNow : ByteArray := prog_11_method_86_code
def yX9_pastNow : MethodName := ⟨RX9, "pastNow", "()I"⟩
abbrev cX9_count : ByteArray := prog_11_method_87_code
def yX9_count : MethodName := ⟨RX9, "count", "(I)I"⟩
abbrev cX9_told : ByteArray := prog_11_method_88_code
def yX9_told : MethodName := ⟨RX9, "told", "(I)I"⟩
def RJ11 : String := "java/lang/Character"
def TJ11 : u_T := fun k => match k with
  | _ => ("", "", "", false)
def tyJ11 : Nat → FieldType := fun k => match k with
  | _ => .int
theorem nmJ11 : ∀ a, a < 0 → ∀ b, b < 0 → a ≠ b → (TJ11 a).2.1 ≠ (TJ11 b).2.1 := by decide +kernel
theorem tyJ11_ok : ∀ k, k < 0 → parseFieldDescriptor (TJ11 k).2.2.1 = some (tyJ11 k) := by decide +kernel
abbrev cJ11_isValidCodePoint_9a6ad : ByteArray := prog_12_method_11_code
def yJ11_isValidCodePoint_9a6ad : MethodName := ⟨RJ11, "isValidCodePoint", "(I)Z"⟩
abbrev cJ11_highSurrogate_5068e : ByteArray := prog_12_method_28_code
def yJ11_highSurrogate_5068e : MethodName := ⟨RJ11, "highSurrogate", "(I)C"⟩
abbrev cJ11_lowSurrogate_5068e : ByteArray := prog_12_method_29_code
def yJ11_lowSurrogate_5068e : MethodName := ⟨RJ11, "lowSurrogate", "(I)C"⟩
def RJ6 : String := "java/lang/Integer"
def TJ6 : u_T := fun k => match k with
  | _ => ("", "", "", false)
def tyJ6 : Nat → FieldType := fun k => match k with
  | _ => .int
theorem nmJ6 : ∀ a, a < 0 → ∀ b, b < 0 → a ≠ b → (TJ6 a).2.1 ≠ (TJ6 b).2.1 := by decide +kernel
theorem tyJ6_ok : ∀ k, k < 0 → parseFieldDescriptor (TJ6 k).2.2.1 = some (tyJ6 k) := by decide +kernel
abbrev cJ6_bitCount_0f7a4 : ByteArray := prog_13_method_49_code
def yJ6_bitCount_0f7a4 : MethodName := ⟨RJ6, "bitCount", "(I)I"⟩
def RJ9 : String := "java/lang/Math"
def TJ9 : u_T := fun k => match k with
  | _ => ("", "", "", false)
def tyJ9 : Nat → FieldType := fun k => match k with
  | _ => .int
theorem nmJ9 : ∀ a, a < 0 → ∀ b, b < 0 → a ≠ b → (TJ9 a).2.1 ≠ (TJ9 b).2.1 := by decide +kernel
theorem tyJ9_ok : ∀ k, k < 0 → parseFieldDescriptor (TJ9 k).2.2.1 = some (tyJ9 k) := by decide +kernel
abbrev cJ9_floorMod_7cf53 : ByteArray := prog_14_method_50_code
def yJ9_floorMod_7cf53 : MethodName := ⟨RJ9, "floorMod", "(II)I"⟩
abbrev cJ9_max_7cf53 : ByteArray := prog_14_method_65_code
def yJ9_max_7cf53 : MethodName := ⟨RJ9, "max", "(II)I"⟩
abbrev cJ9_min_7cf53 : ByteArray := prog_14_method_69_code
def yJ9_min_7cf53 : MethodName := ⟨RJ9, "min", "(II)I"⟩
def RJ0 : String := "java/lang/String"
def TJ0 : u_T := fun k => match k with
  | _ => ("", "", "", false)
def tyJ0 : Nat → FieldType := fun k => match k with
  | _ => .int
theorem nmJ0 : ∀ a, a < 0 → ∀ b, b < 0 → a ≠ b → (TJ0 a).2.1 ≠ (TJ0 b).2.1 := by decide +kernel
theorem tyJ0_ok : ∀ k, k < 0 → parseFieldDescriptor (TJ0 k).2.2.1 = some (tyJ0 k) := by decide +kernel
abbrev cJ0_length_8abf5 : ByteArray := prog_15_method_54_code
def yJ0_length_8abf5 : MethodName := ⟨RJ0, "length", "()I"⟩
abbrev cJ0_indexOf_0f7a4 : ByteArray := prog_15_method_79_code
def yJ0_indexOf_0f7a4 : MethodName := ⟨RJ0, "indexOf", "(I)I"⟩
abbrev cJ0_indexOf_7cf53 : ByteArray := prog_15_method_80_code
def yJ0_indexOf_7cf53 : MethodName := ⟨RJ0, "indexOf", "(II)I"⟩
abbrev cJ0_coder_7d493 : ByteArray := prog_15_method_152_code
def yJ0_coder_7d493 : MethodName := ⟨RJ0, "coder", "()B"⟩
abbrev cJ0_isLatin1_aae02 : ByteArray := prog_15_method_154_code
def yJ0_isLatin1_aae02 : MethodName := ⟨RJ0, "isLatin1", "()Z"⟩
abbrev cJ0_checkBoundsBeginEnd_23922 : ByteArray := prog_15_method_158_code
def yJ0_checkBoundsBeginEnd_23922 : MethodName := ⟨RJ0, "checkBoundsBeginEnd", "(III)V"⟩
def RJ1 : String := "java/lang/StringLatin1"
def TJ1 : u_T := fun k => match k with
  | _ => ("", "", "", false)
def tyJ1 : Nat → FieldType := fun k => match k with
  | _ => .int
theorem nmJ1 : ∀ a, a < 0 → ∀ b, b < 0 → a ≠ b → (TJ1 a).2.1 ≠ (TJ1 b).2.1 := by decide +kernel
theorem tyJ1_ok : ∀ k, k < 0 → parseFieldDescriptor (TJ1 k).2.2.1 = some (tyJ1 k) := by decide +kernel
abbrev cJ1_canEncode_9a6ad : ByteArray := prog_16_method_4_code
def yJ1_canEncode_9a6ad : MethodName := ⟨RJ1, "canEncode", "(I)Z"⟩
abbrev cJ1_indexOf_4cfef : ByteArray := prog_16_method_22_code
def yJ1_indexOf_4cfef : MethodName := ⟨RJ1, "indexOf", "([BIII)I"⟩
abbrev cJ1_indexOfChar_4cfef : ByteArray := prog_16_method_23_code
def yJ1_indexOfChar_4cfef : MethodName := ⟨RJ1, "indexOfChar", "([BIII)I"⟩
def RJ2 : String := "java/lang/StringUTF16"
def TJ2 : u_T := fun k => match k with
  | _ => ("", "", "", false)
def tyJ2 : Nat → FieldType := fun k => match k with
  | _ => .int
theorem nmJ2 : ∀ a, a < 0 → ∀ b, b < 0 → a ≠ b → (TJ2 a).2.1 ≠ (TJ2 b).2.1 := by decide +kernel
theorem tyJ2_ok : ∀ k, k < 0 → parseFieldDescriptor (TJ2 k).2.2.1 = some (tyJ2 k) := by decide +kernel
abbrev cJ2_getChar_3b067 : ByteArray := prog_17_method_5_code
def yJ2_getChar_3b067 : MethodName := ⟨RJ2, "getChar", "([BI)C"⟩
abbrev cJ2_length_9d52b : ByteArray := prog_17_method_6_code
def yJ2_length_9d52b : MethodName := ⟨RJ2, "length", "([B)I"⟩
abbrev cJ2_indexOf_4cfef : ByteArray := prog_17_method_40_code
def yJ2_indexOf_4cfef : MethodName := ⟨RJ2, "indexOf", "([BIII)I"⟩
abbrev cJ2_indexOfChar_4cfef : ByteArray := prog_17_method_47_code
def yJ2_indexOfChar_4cfef : MethodName := ⟨RJ2, "indexOfChar", "([BIII)I"⟩
abbrev cJ2_indexOfCharUnsafe_4cfef : ByteArray := prog_17_method_48_code
def yJ2_indexOfCharUnsafe_4cfef : MethodName := ⟨RJ2, "indexOfCharUnsafe", "([BIII)I"⟩
abbrev cJ2_indexOfSupplementary_4cfef : ByteArray := prog_17_method_49_code
def yJ2_indexOfSupplementary_4cfef : MethodName := ⟨RJ2, "indexOfSupplementary", "([BIII)I"⟩
abbrev cJ2_checkBoundsBeginEnd_d044e : ByteArray := prog_17_method_93_code
def yJ2_checkBoundsBeginEnd_d044e : MethodName := ⟨RJ2, "checkBoundsBeginEnd", "(II[B)V"⟩
def RJ10 : String := "java/lang/System"
def TJ10 : u_T := fun k => match k with
  | _ => ("", "", "", false)
def tyJ10 : Nat → FieldType := fun k => match k with
  | _ => .int
theorem nmJ10 : ∀ a, a < 0 → ∀ b, b < 0 → a ≠ b → (TJ10 a).2.1 ≠ (TJ10 b).2.1 := by decide +kernel
theorem tyJ10_ok : ∀ k, k < 0 → parseFieldDescriptor (TJ10 k).2.2.1 = some (tyJ10 k) := by decide +kernel
def RJ3 : String := "jdk/internal/util/Preconditions"
def TJ3 : u_T := fun k => match k with
  | _ => ("", "", "", false)
def tyJ3 : Nat → FieldType := fun k => match k with
  | _ => .int
theorem nmJ3 : ∀ a, a < 0 → ∀ b, b < 0 → a ≠ b → (TJ3 a).2.1 ≠ (TJ3 b).2.1 := by decide +kernel
theorem tyJ3_ok : ∀ k, k < 0 → parseFieldDescriptor (TJ3 k).2.2.1 = some (tyJ3 k) := by decide +kernel
abbrev cJ3_checkFromToIndex_8c36e : ByteArray := prog_19_method_12_code
def yJ3_checkFromToIndex_8c36e : MethodName := ⟨RJ3, "checkFromToIndex", "(IIILjava/util/function/BiFunction;)I"⟩
def RL : String := "LoanedRoundLaw"
abbrev cL_law : ByteArray := code
def yL_law : MethodName := ⟨RL, "law", "([I)Z"⟩
abbrev vwCl : List vw_C := [(RX0, TX0, 3), (RX1, TX1, 5), (RX2, TX2, 14), (RX3, TX3, 2), (RX4, TX4, 2), (RX5, TX5, 5), (RX6, TX6, 4), (RX7, TX7, 5), (RX8, TX8, 8), (RX9, TX9, 20)]
/-- the words that stay true while the machine runs -/
def lw_g : List Cond := lw_tbl.filter goodWord
theorem lg_m {w : Cond} (i : Nat) (h : lw_tbl[i]? = some w) (hg : goodWord w = true) : w ∈ lw_g := List.mem_filter.mpr ⟨List.mem_of_getElem? h, hg⟩
theorem lg_good {y : MethodName} {b : ByteArray} {n : Nat} {r : Option FieldType} (h : Cond.code y b n r ∈ lw_g) : GoodIn lw_g (Cond.code y b n r :: lw_g) := by
  intro w hw
  have hm : w ∈ lw_g := by
    rcases List.mem_cons.mp hw with rfl | h1
    · exact h
    · exact h1
  exact ⟨hm, good_of_word (List.mem_filter.mp hm).2⟩
/-- a class whose objects the worlds hold -/
def CK (ci : Nat) (C : String) (T : u_T) (N : Nat) : Prop := vwCl[ci]? = some (C, T, N) ∧ (∀ w ∈ u_ws C T N, w ∈ lw_g) ∧ (∃ ty : Nat → FieldType, ∀ k, k < N → parseFieldDescriptor (T k).2.2.1 = some (ty k)) ∧ (∀ a, a < N → ∀ b, b < N → a ≠ b → (T a).2.1 ≠ (T b).2.1)
/-- field number k of class number ci, as place idx of the class own links it -/
def FK (own : String) (idx ci k : Nat) (fin : Bool) (ty : FieldType) : Prop := ∃ (C : String) (T : u_T) (N : Nat), CK ci C T N ∧ k < N ∧ Cond.fieldLink own idx C (T k).2.1 (T k).2.2.1 ∈ lw_g ∧ (T k).1 = C ∧ (T k).2.2.2 = fin ∧ parseFieldDescriptor (T k).2.2.1 = some ty
/-- a method, as place idx of the class own links it: its code, its words -/
def MK (own : String) (idx : Nat) (y : MethodName) (cc : ByteArray) (nL : Nat) (ret : Option FieldType) (np : Nat) : Prop := Cond.methodLink own idx y ∈ lw_g ∧ Cond.code y cc nL ret ∈ lw_g ∧ Cond.initialized y.cls ∈ lw_g ∧ y.cls ≠ "java/lang/invoke/MethodHandle" ∧ y.cls ≠ "java/lang/invoke/VarHandle" ∧ (parseMethodDescriptor y.desc).map (fun d => d.parameters.length) = some np
def MKV (own : String) (idx : Nat) (y : MethodName) (cc : ByteArray) (nL : Nat) (ret : Option FieldType) (np : Nat) (ci : Nat) : Prop := MK own idx y cc nL ret np ∧ Cond.instanceMethod y ∈ lw_g ∧ Cond.selects y.cls y y ∈ lw_g ∧ ∃ (T : u_T) (N : Nat), vwCl[ci]? = some (y.cls, T, N)
def MKS (own : String) (idx : Nat) (y : MethodName) (cc : ByteArray) (nL : Nat) (ret : Option FieldType) (np : Nat) : Prop := MK own idx y cc nL ret np ∧ Cond.static y ∈ lw_g
def MKI (own : String) (idx : Nat) (y : MethodName) (cc : ByteArray) (nL : Nat) (np : Nat) : Prop := MK own idx y cc nL none np ∧ Cond.instanceMethod y ∈ lw_g ∧ y.name = "<init>"

theorem layX0 : ∀ w ∈ u_ws RX0 TX0 3, w ∈ lw_g := by
  intro w hw
  rw [show u_ws RX0 TX0 3 = [134, 136, 138].filterMap (fun i => lw_tbl[i]?) by decide +kernel] at hw
  obtain ⟨i, -, hi⟩ := List.mem_filterMap.mp hw
  have hg : ∀ w ∈ u_ws RX0 TX0 3, goodWord w = true := by decide +kernel
  refine lg_m i hi (hg w ?_)
  rw [show u_ws RX0 TX0 3 = [134, 136, 138].filterMap (fun i => lw_tbl[i]?) by decide +kernel]
  exact hw
theorem ckX0 : CK 0 RX0 TX0 3 := ⟨rfl, layX0, ⟨tyX0, tyX0_ok⟩, nmX0⟩
theorem layX1 : ∀ w ∈ u_ws RX1 TX1 5, w ∈ lw_g := by
  intro w hw
  rw [show u_ws RX1 TX1 5 = [247, 249, 251, 253, 255].filterMap (fun i => lw_tbl[i]?) by decide +kernel] at hw
  obtain ⟨i, -, hi⟩ := List.mem_filterMap.mp hw
  have hg : ∀ w ∈ u_ws RX1 TX1 5, goodWord w = true := by decide +kernel
  refine lg_m i hi (hg w ?_)
  rw [show u_ws RX1 TX1 5 = [247, 249, 251, 253, 255].filterMap (fun i => lw_tbl[i]?) by decide +kernel]
  exact hw
theorem ckX1 : CK 1 RX1 TX1 5 := ⟨rfl, layX1, ⟨tyX1, tyX1_ok⟩, nmX1⟩
theorem layX2 : ∀ w ∈ u_ws RX2 TX2 14, w ∈ lw_g := by
  intro w hw
  rw [show u_ws RX2 TX2 14 = [182, 184, 186, 188, 190, 192, 194, 196, 198, 200, 202, 204, 206, 208].filterMap (fun i => lw_tbl[i]?) by decide +kernel] at hw
  obtain ⟨i, -, hi⟩ := List.mem_filterMap.mp hw
  have hg : ∀ w ∈ u_ws RX2 TX2 14, goodWord w = true := by decide +kernel
  refine lg_m i hi (hg w ?_)
  rw [show u_ws RX2 TX2 14 = [182, 184, 186, 188, 190, 192, 194, 196, 198, 200, 202, 204, 206, 208].filterMap (fun i => lw_tbl[i]?) by decide +kernel]
  exact hw
theorem ckX2 : CK 2 RX2 TX2 14 := ⟨rfl, layX2, ⟨tyX2, tyX2_ok⟩, nmX2⟩
theorem layX3 : ∀ w ∈ u_ws RX3 TX3 2, w ∈ lw_g := by
  intro w hw
  rw [show u_ws RX3 TX3 2 = [123, 125].filterMap (fun i => lw_tbl[i]?) by decide +kernel] at hw
  obtain ⟨i, -, hi⟩ := List.mem_filterMap.mp hw
  have hg : ∀ w ∈ u_ws RX3 TX3 2, goodWord w = true := by decide +kernel
  refine lg_m i hi (hg w ?_)
  rw [show u_ws RX3 TX3 2 = [123, 125].filterMap (fun i => lw_tbl[i]?) by decide +kernel]
  exact hw
theorem ckX3 : CK 3 RX3 TX3 2 := ⟨rfl, layX3, ⟨tyX3, tyX3_ok⟩, nmX3⟩
theorem layX4 : ∀ w ∈ u_ws RX4 TX4 2, w ∈ lw_g := by
  intro w hw
  rw [show u_ws RX4 TX4 2 = [321, 323].filterMap (fun i => lw_tbl[i]?) by decide +kernel] at hw
  obtain ⟨i, -, hi⟩ := List.mem_filterMap.mp hw
  have hg : ∀ w ∈ u_ws RX4 TX4 2, goodWord w = true := by decide +kernel
  refine lg_m i hi (hg w ?_)
  rw [show u_ws RX4 TX4 2 = [321, 323].filterMap (fun i => lw_tbl[i]?) by decide +kernel]
  exact hw
theorem ckX4 : CK 4 RX4 TX4 2 := ⟨rfl, layX4, ⟨tyX4, tyX4_ok⟩, nmX4⟩
theorem layX5 : ∀ w ∈ u_ws RX5 TX5 5, w ∈ lw_g := by
  intro w hw
  rw [show u_ws RX5 TX5 5 = [221, 223, 225, 227, 229].filterMap (fun i => lw_tbl[i]?) by decide +kernel] at hw
  obtain ⟨i, -, hi⟩ := List.mem_filterMap.mp hw
  have hg : ∀ w ∈ u_ws RX5 TX5 5, goodWord w = true := by decide +kernel
  refine lg_m i hi (hg w ?_)
  rw [show u_ws RX5 TX5 5 = [221, 223, 225, 227, 229].filterMap (fun i => lw_tbl[i]?) by decide +kernel]
  exact hw
theorem ckX5 : CK 5 RX5 TX5 5 := ⟨rfl, layX5, ⟨tyX5, tyX5_ok⟩, nmX5⟩
theorem layX6 : ∀ w ∈ u_ws RX6 TX6 4, w ∈ lw_g := by
  intro w hw
  rw [show u_ws RX6 TX6 4 = [273, 275, 277, 279].filterMap (fun i => lw_tbl[i]?) by decide +kernel] at hw
  obtain ⟨i, -, hi⟩ := List.mem_filterMap.mp hw
  have hg : ∀ w ∈ u_ws RX6 TX6 4, goodWord w = true := by decide +kernel
  refine lg_m i hi (hg w ?_)
  rw [show u_ws RX6 TX6 4 = [273, 275, 277, 279].filterMap (fun i => lw_tbl[i]?) by decide +kernel]
  exact hw
theorem ckX6 : CK 6 RX6 TX6 4 := ⟨rfl, layX6, ⟨tyX6, tyX6_ok⟩, nmX6⟩
theorem layX7 : ∀ w ∈ u_ws RX7 TX7 5, w ∈ lw_g := by
  intro w hw
  rw [show u_ws RX7 TX7 5 = [297, 299, 301, 303, 305].filterMap (fun i => lw_tbl[i]?) by decide +kernel] at hw
  obtain ⟨i, -, hi⟩ := List.mem_filterMap.mp hw
  have hg : ∀ w ∈ u_ws RX7 TX7 5, goodWord w = true := by decide +kernel
  refine lg_m i hi (hg w ?_)
  rw [show u_ws RX7 TX7 5 = [297, 299, 301, 303, 305].filterMap (fun i => lw_tbl[i]?) by decide +kernel]
  exact hw
theorem ckX7 : CK 7 RX7 TX7 5 := ⟨rfl, layX7, ⟨tyX7, tyX7_ok⟩, nmX7⟩
theorem layX8 : ∀ w ∈ u_ws RX8 TX8 8, w ∈ lw_g := by
  intro w hw
  rw [show u_ws RX8 TX8 8 = [334, 336, 338, 340, 342, 344, 346, 348].filterMap (fun i => lw_tbl[i]?) by decide +kernel] at hw
  obtain ⟨i, -, hi⟩ := List.mem_filterMap.mp hw
  have hg : ∀ w ∈ u_ws RX8 TX8 8, goodWord w = true := by decide +kernel
  refine lg_m i hi (hg w ?_)
  rw [show u_ws RX8 TX8 8 = [334, 336, 338, 340, 342, 344, 346, 348].filterMap (fun i => lw_tbl[i]?) by decide +kernel]
  exact hw
theorem ckX8 : CK 8 RX8 TX8 8 := ⟨rfl, layX8, ⟨tyX8, tyX8_ok⟩, nmX8⟩
theorem layX9 : ∀ w ∈ u_ws RX9 TX9 20, w ∈ lw_g := by
  intro w hw
  rw [show u_ws RX9 TX9 20 = [937, 939, 941, 943, 945, 947, 949, 951, 953, 955, 957, 959, 961, 963, 965, 967, 969, 971, 973, 975].filterMap (fun i => lw_tbl[i]?) by decide +kernel] at hw
  obtain ⟨i, -, hi⟩ := List.mem_filterMap.mp hw
  have hg : ∀ w ∈ u_ws RX9 TX9 20, goodWord w = true := by decide +kernel
  refine lg_m i hi (hg w ?_)
  rw [show u_ws RX9 TX9 20 = [937, 939, 941, 943, 945, 947, 949, 951, 953, 955, 957, 959, 961, 963, 965, 967, 969, 971, 973, 975].filterMap (fun i => lw_tbl[i]?) by decide +kernel]
  exact hw
theorem ckX9 : CK 9 RX9 TX9 20 := ⟨rfl, layX9, ⟨tyX9, tyX9_ok⟩, nmX9⟩
theorem fkX3_19 : FK RX3 19 3 0 true (.array .int) := ⟨_, _, _, ckX3, Nat.le_of_ble_eq_true rfl, lg_m 112 (by decide +kernel) rfl, rfl, rfl, by decide +kernel⟩
theorem fkX1_57 : FK RX1 57 3 0 true (.array .int) := ⟨_, _, _, ckX3, Nat.le_of_ble_eq_true rfl, lg_m 113 (by decide +kernel) rfl, rfl, rfl, by decide +kernel⟩
theorem fkX0_35 : FK RX0 35 3 0 true (.array .int) := ⟨_, _, _, ckX3, Nat.le_of_ble_eq_true rfl, lg_m 114 (by decide +kernel) rfl, rfl, rfl, by decide +kernel⟩
theorem fkX6_94 : FK RX6 94 3 0 true (.array .int) := ⟨_, _, _, ckX3, Nat.le_of_ble_eq_true rfl, lg_m 115 (by decide +kernel) rfl, rfl, rfl, by decide +kernel⟩
theorem fkX2_116 : FK RX2 116 3 0 true (.array .int) := ⟨_, _, _, ckX3, Nat.le_of_ble_eq_true rfl, lg_m 116 (by decide +kernel) rfl, rfl, rfl, by decide +kernel⟩
theorem fkX8_248 : FK RX8 248 3 0 true (.array .int) := ⟨_, _, _, ckX3, Nat.le_of_ble_eq_true rfl, lg_m 117 (by decide +kernel) rfl, rfl, rfl, by decide +kernel⟩
theorem fkX3_7 : FK RX3 7 3 1 false .int := ⟨_, _, _, ckX3, Nat.le_of_ble_eq_true rfl, lg_m 118 (by decide +kernel) rfl, rfl, rfl, by decide +kernel⟩
theorem fkX0_32 : FK RX0 32 3 1 false .int := ⟨_, _, _, ckX3, Nat.le_of_ble_eq_true rfl, lg_m 119 (by decide +kernel) rfl, rfl, rfl, by decide +kernel⟩
theorem fkX8_129 : FK RX8 129 3 1 false .int := ⟨_, _, _, ckX3, Nat.le_of_ble_eq_true rfl, lg_m 120 (by decide +kernel) rfl, rfl, rfl, by decide +kernel⟩
theorem fkX6_89 : FK RX6 89 3 1 false .int := ⟨_, _, _, ckX3, Nat.le_of_ble_eq_true rfl, lg_m 121 (by decide +kernel) rfl, rfl, rfl, by decide +kernel⟩
theorem fkX2_111 : FK RX2 111 3 1 false .int := ⟨_, _, _, ckX3, Nat.le_of_ble_eq_true rfl, lg_m 122 (by decide +kernel) rfl, rfl, rfl, by decide +kernel⟩
theorem fkX0_14 : FK RX0 14 0 0 true (.object "LoanedRound$Row") := ⟨_, _, _, ckX0, Nat.le_of_ble_eq_true rfl, lg_m 129 (by decide +kernel) rfl, rfl, rfl, by decide +kernel⟩
theorem fkX5_42 : FK RX5 42 0 0 true (.object "LoanedRound$Row") := ⟨_, _, _, ckX0, Nat.le_of_ble_eq_true rfl, lg_m 130 (by decide +kernel) rfl, rfl, rfl, by decide +kernel⟩
theorem fkX8_161 : FK RX8 161 0 0 true (.object "LoanedRound$Row") := ⟨_, _, _, ckX0, Nat.le_of_ble_eq_true rfl, lg_m 131 (by decide +kernel) rfl, rfl, rfl, by decide +kernel⟩
theorem fkX0_20 : FK RX0 20 0 1 true (.array .int) := ⟨_, _, _, ckX0, Nat.le_of_ble_eq_true rfl, lg_m 132 (by decide +kernel) rfl, rfl, rfl, by decide +kernel⟩
theorem fkX0_24 : FK RX0 24 0 2 true .int := ⟨_, _, _, ckX0, Nat.le_of_ble_eq_true rfl, lg_m 133 (by decide +kernel) rfl, rfl, rfl, by decide +kernel⟩
theorem fkX6_24 : FK RX6 24 2 0 true (.object "LoanedRound$Law") := ⟨_, _, _, ckX2, Nat.le_of_ble_eq_true rfl, lg_m 147 (by decide +kernel) rfl, rfl, rfl, by decide +kernel⟩
theorem fkX2_49 : FK RX2 49 2 0 true (.object "LoanedRound$Law") := ⟨_, _, _, ckX2, Nat.le_of_ble_eq_true rfl, lg_m 148 (by decide +kernel) rfl, rfl, rfl, by decide +kernel⟩
theorem fkX6_28 : FK RX6 28 2 1 true (.object "LoanedRound$Law") := ⟨_, _, _, ckX2, Nat.le_of_ble_eq_true rfl, lg_m 149 (by decide +kernel) rfl, rfl, rfl, by decide +kernel⟩
theorem fkX2_53 : FK RX2 53 2 1 true (.object "LoanedRound$Law") := ⟨_, _, _, ckX2, Nat.le_of_ble_eq_true rfl, lg_m 150 (by decide +kernel) rfl, rfl, rfl, by decide +kernel⟩
theorem fkX2_9 : FK RX2 9 2 2 true (.array .int) := ⟨_, _, _, ckX2, Nat.le_of_ble_eq_true rfl, lg_m 151 (by decide +kernel) rfl, rfl, rfl, by decide +kernel⟩
theorem fkX7_37 : FK RX7 37 2 2 true (.array .int) := ⟨_, _, _, ckX2, Nat.le_of_ble_eq_true rfl, lg_m 152 (by decide +kernel) rfl, rfl, rfl, by decide +kernel⟩
theorem fkX8_81 : FK RX8 81 2 2 true (.array .int) := ⟨_, _, _, ckX2, Nat.le_of_ble_eq_true rfl, lg_m 153 (by decide +kernel) rfl, rfl, rfl, by decide +kernel⟩
theorem fkX2_15 : FK RX2 15 2 3 true (.array .int) := ⟨_, _, _, ckX2, Nat.le_of_ble_eq_true rfl, lg_m 154 (by decide +kernel) rfl, rfl, rfl, by decide +kernel⟩
theorem fkX7_43 : FK RX7 43 2 3 true (.array .int) := ⟨_, _, _, ckX2, Nat.le_of_ble_eq_true rfl, lg_m 155 (by decide +kernel) rfl, rfl, rfl, by decide +kernel⟩
theorem fkX8_84 : FK RX8 84 2 3 true (.array .int) := ⟨_, _, _, ckX2, Nat.le_of_ble_eq_true rfl, lg_m 156 (by decide +kernel) rfl, rfl, rfl, by decide +kernel⟩
theorem fkX2_18 : FK RX2 18 2 4 true (.array .int) := ⟨_, _, _, ckX2, Nat.le_of_ble_eq_true rfl, lg_m 157 (by decide +kernel) rfl, rfl, rfl, by decide +kernel⟩
theorem fkX6_45 : FK RX6 45 2 4 true (.array .int) := ⟨_, _, _, ckX2, Nat.le_of_ble_eq_true rfl, lg_m 158 (by decide +kernel) rfl, rfl, rfl, by decide +kernel⟩
theorem fkX8_87 : FK RX8 87 2 4 true (.array .int) := ⟨_, _, _, ckX2, Nat.le_of_ble_eq_true rfl, lg_m 159 (by decide +kernel) rfl, rfl, rfl, by decide +kernel⟩
theorem fkX2_21 : FK RX2 21 2 5 true (.array .int) := ⟨_, _, _, ckX2, Nat.le_of_ble_eq_true rfl, lg_m 160 (by decide +kernel) rfl, rfl, rfl, by decide +kernel⟩
theorem fkX8_90 : FK RX8 90 2 5 true (.array .int) := ⟨_, _, _, ckX2, Nat.le_of_ble_eq_true rfl, lg_m 161 (by decide +kernel) rfl, rfl, rfl, by decide +kernel⟩
theorem fkX2_24 : FK RX2 24 2 6 false .int := ⟨_, _, _, ckX2, Nat.le_of_ble_eq_true rfl, lg_m 162 (by decide +kernel) rfl, rfl, rfl, by decide +kernel⟩
theorem fkX6_72 : FK RX6 72 2 6 false .int := ⟨_, _, _, ckX2, Nat.le_of_ble_eq_true rfl, lg_m 163 (by decide +kernel) rfl, rfl, rfl, by decide +kernel⟩
theorem fkX8_290 : FK RX8 290 2 6 false .int := ⟨_, _, _, ckX2, Nat.le_of_ble_eq_true rfl, lg_m 164 (by decide +kernel) rfl, rfl, rfl, by decide +kernel⟩
theorem fkX2_28 : FK RX2 28 2 7 false .int := ⟨_, _, _, ckX2, Nat.le_of_ble_eq_true rfl, lg_m 165 (by decide +kernel) rfl, rfl, rfl, by decide +kernel⟩
theorem fkX8_69 : FK RX8 69 2 7 false .int := ⟨_, _, _, ckX2, Nat.le_of_ble_eq_true rfl, lg_m 166 (by decide +kernel) rfl, rfl, rfl, by decide +kernel⟩
theorem fkX6_53 : FK RX6 53 2 7 false .int := ⟨_, _, _, ckX2, Nat.le_of_ble_eq_true rfl, lg_m 167 (by decide +kernel) rfl, rfl, rfl, by decide +kernel⟩
theorem fkX2_31 : FK RX2 31 2 8 false .int := ⟨_, _, _, ckX2, Nat.le_of_ble_eq_true rfl, lg_m 168 (by decide +kernel) rfl, rfl, rfl, by decide +kernel⟩
theorem fkX8_166 : FK RX8 166 2 8 false .int := ⟨_, _, _, ckX2, Nat.le_of_ble_eq_true rfl, lg_m 169 (by decide +kernel) rfl, rfl, rfl, by decide +kernel⟩
theorem fkX2_34 : FK RX2 34 2 9 false .int := ⟨_, _, _, ckX2, Nat.le_of_ble_eq_true rfl, lg_m 170 (by decide +kernel) rfl, rfl, rfl, by decide +kernel⟩
theorem fkX6_82 : FK RX6 82 2 9 false .int := ⟨_, _, _, ckX2, Nat.le_of_ble_eq_true rfl, lg_m 171 (by decide +kernel) rfl, rfl, rfl, by decide +kernel⟩
theorem fkX8_172 : FK RX8 172 2 9 false .int := ⟨_, _, _, ckX2, Nat.le_of_ble_eq_true rfl, lg_m 172 (by decide +kernel) rfl, rfl, rfl, by decide +kernel⟩
theorem fkX2_37 : FK RX2 37 2 10 false .int := ⟨_, _, _, ckX2, Nat.le_of_ble_eq_true rfl, lg_m 173 (by decide +kernel) rfl, rfl, rfl, by decide +kernel⟩
theorem fkX8_185 : FK RX8 185 2 10 false .int := ⟨_, _, _, ckX2, Nat.le_of_ble_eq_true rfl, lg_m 174 (by decide +kernel) rfl, rfl, rfl, by decide +kernel⟩
theorem fkX2_40 : FK RX2 40 2 11 false .int := ⟨_, _, _, ckX2, Nat.le_of_ble_eq_true rfl, lg_m 175 (by decide +kernel) rfl, rfl, rfl, by decide +kernel⟩
theorem fkX8_287 : FK RX8 287 2 11 false .int := ⟨_, _, _, ckX2, Nat.le_of_ble_eq_true rfl, lg_m 176 (by decide +kernel) rfl, rfl, rfl, by decide +kernel⟩
theorem fkX2_43 : FK RX2 43 2 12 false .int := ⟨_, _, _, ckX2, Nat.le_of_ble_eq_true rfl, lg_m 177 (by decide +kernel) rfl, rfl, rfl, by decide +kernel⟩
theorem fkX6_56 : FK RX6 56 2 12 false .int := ⟨_, _, _, ckX2, Nat.le_of_ble_eq_true rfl, lg_m 178 (by decide +kernel) rfl, rfl, rfl, by decide +kernel⟩
theorem fkX8_113 : FK RX8 113 2 12 false .int := ⟨_, _, _, ckX2, Nat.le_of_ble_eq_true rfl, lg_m 179 (by decide +kernel) rfl, rfl, rfl, by decide +kernel⟩
theorem fkX2_46 : FK RX2 46 2 13 false .int := ⟨_, _, _, ckX2, Nat.le_of_ble_eq_true rfl, lg_m 180 (by decide +kernel) rfl, rfl, rfl, by decide +kernel⟩
theorem fkX8_178 : FK RX8 178 2 13 false .int := ⟨_, _, _, ckX2, Nat.le_of_ble_eq_true rfl, lg_m 181 (by decide +kernel) rfl, rfl, rfl, by decide +kernel⟩
theorem fkX5_14 : FK RX5 14 5 0 true (.object "LoanedRound$Law") := ⟨_, _, _, ckX5, Nat.le_of_ble_eq_true rfl, lg_m 213 (by decide +kernel) rfl, rfl, rfl, by decide +kernel⟩
theorem fkX5_20 : FK RX5 20 5 1 true (.object "LoanedRound$Law") := ⟨_, _, _, ckX5, Nat.le_of_ble_eq_true rfl, lg_m 214 (by decide +kernel) rfl, rfl, rfl, by decide +kernel⟩
theorem fkX5_28 : FK RX5 28 5 2 true (.object "LoanedRound$Round") := ⟨_, _, _, ckX5, Nat.le_of_ble_eq_true rfl, lg_m 215 (by decide +kernel) rfl, rfl, rfl, by decide +kernel⟩
theorem fkX8_28 : FK RX8 28 5 2 true (.object "LoanedRound$Round") := ⟨_, _, _, ckX5, Nat.le_of_ble_eq_true rfl, lg_m 216 (by decide +kernel) rfl, rfl, rfl, by decide +kernel⟩
theorem fkX5_35 : FK RX5 35 5 3 true (.object "LoanedRound$Row") := ⟨_, _, _, ckX5, Nat.le_of_ble_eq_true rfl, lg_m 217 (by decide +kernel) rfl, rfl, rfl, by decide +kernel⟩
theorem fkX8_125 : FK RX8 125 5 3 true (.object "LoanedRound$Row") := ⟨_, _, _, ckX5, Nat.le_of_ble_eq_true rfl, lg_m 218 (by decide +kernel) rfl, rfl, rfl, by decide +kernel⟩
theorem fkX5_39 : FK RX5 39 5 4 true (.object "LoanedRound$Row") := ⟨_, _, _, ckX5, Nat.le_of_ble_eq_true rfl, lg_m 219 (by decide +kernel) rfl, rfl, rfl, by decide +kernel⟩
theorem fkX8_281 : FK RX8 281 5 4 true (.object "LoanedRound$Row") := ⟨_, _, _, ckX5, Nat.le_of_ble_eq_true rfl, lg_m 220 (by decide +kernel) rfl, rfl, rfl, by decide +kernel⟩
theorem fkX1_14 : FK RX1 14 1 0 true (.object "LoanedRound$Row") := ⟨_, _, _, ckX1, Nat.le_of_ble_eq_true rfl, lg_m 241 (by decide +kernel) rfl, rfl, rfl, by decide +kernel⟩
theorem fkX8_152 : FK RX8 152 1 0 true (.object "LoanedRound$Row") := ⟨_, _, _, ckX1, Nat.le_of_ble_eq_true rfl, lg_m 242 (by decide +kernel) rfl, rfl, rfl, by decide +kernel⟩
theorem fkX1_20 : FK RX1 20 1 1 false (.object "LoanedRound$Row") := ⟨_, _, _, ckX1, Nat.le_of_ble_eq_true rfl, lg_m 243 (by decide +kernel) rfl, rfl, rfl, by decide +kernel⟩
theorem fkX1_25 : FK RX1 25 1 2 false (.object "java/lang/String") := ⟨_, _, _, ckX1, Nat.le_of_ble_eq_true rfl, lg_m 244 (by decide +kernel) rfl, rfl, rfl, by decide +kernel⟩
theorem fkX1_29 : FK RX1 29 1 3 false .int := ⟨_, _, _, ckX1, Nat.le_of_ble_eq_true rfl, lg_m 245 (by decide +kernel) rfl, rfl, rfl, by decide +kernel⟩
theorem fkX1_33 : FK RX1 33 1 4 false .int := ⟨_, _, _, ckX1, Nat.le_of_ble_eq_true rfl, lg_m 246 (by decide +kernel) rfl, rfl, rfl, by decide +kernel⟩
theorem fkX6_18 : FK RX6 18 6 0 true (.object "LoanedRound$Round") := ⟨_, _, _, ckX6, Nat.le_of_ble_eq_true rfl, lg_m 267 (by decide +kernel) rfl, rfl, rfl, by decide +kernel⟩
theorem fkX6_34 : FK RX6 34 6 1 true (.object "LoanedRound$Round") := ⟨_, _, _, ckX6, Nat.le_of_ble_eq_true rfl, lg_m 268 (by decide +kernel) rfl, rfl, rfl, by decide +kernel⟩
theorem fkX6_9 : FK RX6 9 6 2 false .int := ⟨_, _, _, ckX6, Nat.le_of_ble_eq_true rfl, lg_m 269 (by decide +kernel) rfl, rfl, rfl, by decide +kernel⟩
theorem fkX8_199 : FK RX8 199 6 2 false .int := ⟨_, _, _, ckX6, Nat.le_of_ble_eq_true rfl, lg_m 270 (by decide +kernel) rfl, rfl, rfl, by decide +kernel⟩
theorem fkX6_15 : FK RX6 15 6 3 false .int := ⟨_, _, _, ckX6, Nat.le_of_ble_eq_true rfl, lg_m 271 (by decide +kernel) rfl, rfl, rfl, by decide +kernel⟩
theorem fkX8_202 : FK RX8 202 6 3 false .int := ⟨_, _, _, ckX6, Nat.le_of_ble_eq_true rfl, lg_m 272 (by decide +kernel) rfl, rfl, rfl, by decide +kernel⟩
theorem fkX7_14 : FK RX7 14 7 0 true (.object "LoanedRound$Row") := ⟨_, _, _, ckX7, Nat.le_of_ble_eq_true rfl, lg_m 290 (by decide +kernel) rfl, rfl, rfl, by decide +kernel⟩
theorem fkX8_244 : FK RX8 244 7 0 true (.object "LoanedRound$Row") := ⟨_, _, _, ckX7, Nat.le_of_ble_eq_true rfl, lg_m 291 (by decide +kernel) rfl, rfl, rfl, by decide +kernel⟩
theorem fkX7_20 : FK RX7 20 7 1 false .boolean := ⟨_, _, _, ckX7, Nat.le_of_ble_eq_true rfl, lg_m 292 (by decide +kernel) rfl, rfl, rfl, by decide +kernel⟩
theorem fkX8_240 : FK RX8 240 7 1 false .boolean := ⟨_, _, _, ckX7, Nat.le_of_ble_eq_true rfl, lg_m 293 (by decide +kernel) rfl, rfl, rfl, by decide +kernel⟩
theorem fkX7_24 : FK RX7 24 7 2 false .int := ⟨_, _, _, ckX7, Nat.le_of_ble_eq_true rfl, lg_m 294 (by decide +kernel) rfl, rfl, rfl, by decide +kernel⟩
theorem fkX7_28 : FK RX7 28 7 3 false .int := ⟨_, _, _, ckX7, Nat.le_of_ble_eq_true rfl, lg_m 295 (by decide +kernel) rfl, rfl, rfl, by decide +kernel⟩
theorem fkX7_31 : FK RX7 31 7 4 false .int := ⟨_, _, _, ckX7, Nat.le_of_ble_eq_true rfl, lg_m 296 (by decide +kernel) rfl, rfl, rfl, by decide +kernel⟩
theorem fkX4_14 : FK RX4 14 4 0 true (.object "LoanedRound$Row") := ⟨_, _, _, ckX4, Nat.le_of_ble_eq_true rfl, lg_m 317 (by decide +kernel) rfl, rfl, rfl, by decide +kernel⟩
theorem fkX8_224 : FK RX8 224 4 0 true (.object "LoanedRound$Row") := ⟨_, _, _, ckX4, Nat.le_of_ble_eq_true rfl, lg_m 318 (by decide +kernel) rfl, rfl, rfl, by decide +kernel⟩
theorem fkX4_20 : FK RX4 20 4 1 false .int := ⟨_, _, _, ckX4, Nat.le_of_ble_eq_true rfl, lg_m 319 (by decide +kernel) rfl, rfl, rfl, by decide +kernel⟩
theorem fkX8_259 : FK RX8 259 4 1 false .int := ⟨_, _, _, ckX4, Nat.le_of_ble_eq_true rfl, lg_m 320 (by decide +kernel) rfl, rfl, rfl, by decide +kernel⟩
theorem fkX8_10 : FK RX8 10 8 0 true (.object "LoanedRound$State") := ⟨_, _, _, ckX8, Nat.le_of_ble_eq_true rfl, lg_m 326 (by decide +kernel) rfl, rfl, rfl, by decide +kernel⟩
theorem fkX8_16 : FK RX8 16 8 1 true (.object "LoanedRound$State") := ⟨_, _, _, ckX8, Nat.le_of_ble_eq_true rfl, lg_m 327 (by decide +kernel) rfl, rfl, rfl, by decide +kernel⟩
theorem fkX8_22 : FK RX8 22 8 2 true (.object "LoanedRound$Reader") := ⟨_, _, _, ckX8, Nat.le_of_ble_eq_true rfl, lg_m 328 (by decide +kernel) rfl, rfl, rfl, by decide +kernel⟩
theorem fkX8_35 : FK RX8 35 8 3 true (.object "LoanedRound$Thought") := ⟨_, _, _, ckX8, Nat.le_of_ble_eq_true rfl, lg_m 329 (by decide +kernel) rfl, rfl, rfl, by decide +kernel⟩
theorem fkX8_42 : FK RX8 42 8 4 true (.object "LoanedRound$Voices") := ⟨_, _, _, ckX8, Nat.le_of_ble_eq_true rfl, lg_m 330 (by decide +kernel) rfl, rfl, rfl, by decide +kernel⟩
theorem fkX8_48 : FK RX8 48 8 5 true (.array (.object "LoanedRound$Sheet")) := ⟨_, _, _, ckX8, Nat.le_of_ble_eq_true rfl, lg_m 331 (by decide +kernel) rfl, rfl, rfl, by decide +kernel⟩
theorem fkX8_52 : FK RX8 52 8 6 true (.array .int) := ⟨_, _, _, ckX8, Nat.le_of_ble_eq_true rfl, lg_m 332 (by decide +kernel) rfl, rfl, rfl, by decide +kernel⟩
theorem fkX8_56 : FK RX8 56 8 7 false .int := ⟨_, _, _, ckX8, Nat.le_of_ble_eq_true rfl, lg_m 333 (by decide +kernel) rfl, rfl, rfl, by decide +kernel⟩
theorem fkX9_7 : FK RX9 7 9 0 true (.array .int) := ⟨_, _, _, ckX9, Nat.le_of_ble_eq_true rfl, lg_m 917 (by decide +kernel) rfl, rfl, rfl, by decide +kernel⟩
theorem fkX9_13 : FK RX9 13 9 1 true (.array .int) := ⟨_, _, _, ckX9, Nat.le_of_ble_eq_true rfl, lg_m 918 (by decide +kernel) rfl, rfl, rfl, by decide +kernel⟩
theorem fkX9_16 : FK RX9 16 9 2 true (.array .int) := ⟨_, _, _, ckX9, Nat.le_of_ble_eq_true rfl, lg_m 919 (by decide +kernel) rfl, rfl, rfl, by decide +kernel⟩
theorem fkX9_236 : FK RX9 236 9 3 false .int := ⟨_, _, _, ckX9, Nat.le_of_ble_eq_true rfl, lg_m 920 (by decide +kernel) rfl, rfl, rfl, by decide +kernel⟩
theorem fkX9_19 : FK RX9 19 9 4 true (.array .int) := ⟨_, _, _, ckX9, Nat.le_of_ble_eq_true rfl, lg_m 921 (by decide +kernel) rfl, rfl, rfl, by decide +kernel⟩
theorem fkX9_57 : FK RX9 57 9 5 false .int := ⟨_, _, _, ckX9, Nat.le_of_ble_eq_true rfl, lg_m 922 (by decide +kernel) rfl, rfl, rfl, by decide +kernel⟩
theorem fkX9_91 : FK RX9 91 9 6 false .int := ⟨_, _, _, ckX9, Nat.le_of_ble_eq_true rfl, lg_m 923 (by decide +kernel) rfl, rfl, rfl, by decide +kernel⟩
theorem fkX9_64 : FK RX9 64 9 7 false .int := ⟨_, _, _, ckX9, Nat.le_of_ble_eq_true rfl, lg_m 924 (by decide +kernel) rfl, rfl, rfl, by decide +kernel⟩
theorem fkX9_61 : FK RX9 61 9 8 false .int := ⟨_, _, _, ckX9, Nat.le_of_ble_eq_true rfl, lg_m 925 (by decide +kernel) rfl, rfl, rfl, by decide +kernel⟩
theorem fkX9_22 : FK RX9 22 9 9 true (.array .int) := ⟨_, _, _, ckX9, Nat.le_of_ble_eq_true rfl, lg_m 926 (by decide +kernel) rfl, rfl, rfl, by decide +kernel⟩
theorem fkX9_25 : FK RX9 25 9 10 true (.array .int) := ⟨_, _, _, ckX9, Nat.le_of_ble_eq_true rfl, lg_m 927 (by decide +kernel) rfl, rfl, rfl, by decide +kernel⟩
theorem fkX9_28 : FK RX9 28 9 11 true (.array .int) := ⟨_, _, _, ckX9, Nat.le_of_ble_eq_true rfl, lg_m 928 (by decide +kernel) rfl, rfl, rfl, by decide +kernel⟩
theorem fkX9_198 : FK RX9 198 9 12 false .int := ⟨_, _, _, ckX9, Nat.le_of_ble_eq_true rfl, lg_m 929 (by decide +kernel) rfl, rfl, rfl, by decide +kernel⟩
theorem fkX9_31 : FK RX9 31 9 13 true (.array .int) := ⟨_, _, _, ckX9, Nat.le_of_ble_eq_true rfl, lg_m 930 (by decide +kernel) rfl, rfl, rfl, by decide +kernel⟩
theorem fkX9_201 : FK RX9 201 9 14 false .int := ⟨_, _, _, ckX9, Nat.le_of_ble_eq_true rfl, lg_m 931 (by decide +kernel) rfl, rfl, rfl, by decide +kernel⟩
theorem fkX9_222 : FK RX9 222 9 15 false .boolean := ⟨_, _, _, ckX9, Nat.le_of_ble_eq_true rfl, lg_m 932 (by decide +kernel) rfl, rfl, rfl, by decide +kernel⟩
theorem fkX9_34 : FK RX9 34 9 16 true (.array .int) := ⟨_, _, _, ckX9, Nat.le_of_ble_eq_true rfl, lg_m 933 (by decide +kernel) rfl, rfl, rfl, by decide +kernel⟩
theorem fkX9_37 : FK RX9 37 9 17 true (.array .int) := ⟨_, _, _, ckX9, Nat.le_of_ble_eq_true rfl, lg_m 934 (by decide +kernel) rfl, rfl, rfl, by decide +kernel⟩
theorem fkX9_40 : FK RX9 40 9 18 true (.array .int) := ⟨_, _, _, ckX9, Nat.le_of_ble_eq_true rfl, lg_m 935 (by decide +kernel) rfl, rfl, rfl, by decide +kernel⟩
theorem fkX9_43 : FK RX9 43 9 19 true (.array .int) := ⟨_, _, _, ckX9, Nat.le_of_ble_eq_true rfl, lg_m 936 (by decide +kernel) rfl, rfl, rfl, by decide +kernel⟩
theorem mkL_9 : MKI RL 9 yX8_init cX8_init 2 0 := ⟨⟨lg_m 85 (by decide +kernel) rfl, lg_m 87 (by decide +kernel) rfl, lg_m 65 (by decide +kernel) rfl, by decide +kernel, by decide +kernel, by decide +kernel⟩, lg_m 86 (by decide +kernel) rfl, rfl⟩
theorem mkX8_9 : MKI RX8 9 yX5_init cX5_init 1 0 := ⟨⟨lg_m 93 (by decide +kernel) rfl, lg_m 95 (by decide +kernel) rfl, lg_m 66 (by decide +kernel) rfl, by decide +kernel, by decide +kernel, by decide +kernel⟩, lg_m 94 (by decide +kernel) rfl, rfl⟩
theorem mkX5_11 : MKI RX5 11 yX0_init cX0_init 2 1 := ⟨⟨lg_m 99 (by decide +kernel) rfl, lg_m 101 (by decide +kernel) rfl, lg_m 67 (by decide +kernel) rfl, by decide +kernel, by decide +kernel, by decide +kernel⟩, lg_m 100 (by decide +kernel) rfl, rfl⟩
theorem mkX0_11 : MKI RX0 11 yX3_init cX3_init 2 1 := ⟨⟨lg_m 105 (by decide +kernel) rfl, lg_m 107 (by decide +kernel) rfl, lg_m 68 (by decide +kernel) rfl, by decide +kernel, by decide +kernel, by decide +kernel⟩, lg_m 106 (by decide +kernel) rfl, rfl⟩
theorem mkX3_13 : MKS RX3 13 yJ9_max_7cf53 cJ9_max_7cf53 2 (some (.int)) 2 := ⟨⟨lg_m 109 (by decide +kernel) rfl, lg_m 111 (by decide +kernel) rfl, lg_m 69 (by decide +kernel) rfl, by decide +kernel, by decide +kernel, by decide +kernel⟩, lg_m 110 (by decide +kernel) rfl⟩
theorem mkX5_25 : MKI RX5 25 yX2_init cX2_init 3 2 := ⟨⟨lg_m 143 (by decide +kernel) rfl, lg_m 145 (by decide +kernel) rfl, lg_m 70 (by decide +kernel) rfl, by decide +kernel, by decide +kernel, by decide +kernel⟩, lg_m 144 (by decide +kernel) rfl, rfl⟩
theorem mkX5_34 : MKI RX5 34 yX3_init cX3_init 2 1 := ⟨⟨lg_m 212 (by decide +kernel) rfl, lg_m 107 (by decide +kernel) rfl, lg_m 68 (by decide +kernel) rfl, by decide +kernel, by decide +kernel, by decide +kernel⟩, lg_m 106 (by decide +kernel) rfl, rfl⟩
theorem mkX8_21 : MKI RX8 21 yX1_init cX1_init 1 0 := ⟨⟨lg_m 234 (by decide +kernel) rfl, lg_m 236 (by decide +kernel) rfl, lg_m 71 (by decide +kernel) rfl, by decide +kernel, by decide +kernel, by decide +kernel⟩, lg_m 235 (by decide +kernel) rfl, rfl⟩
theorem mkX1_11 : MKI RX1 11 yX3_init cX3_init 2 1 := ⟨⟨lg_m 239 (by decide +kernel) rfl, lg_m 107 (by decide +kernel) rfl, lg_m 68 (by decide +kernel) rfl, by decide +kernel, by decide +kernel, by decide +kernel⟩, lg_m 106 (by decide +kernel) rfl, rfl⟩
theorem mkX8_32 : MKI RX8 32 yX6_init cX6_init 2 1 := ⟨⟨lg_m 261 (by decide +kernel) rfl, lg_m 263 (by decide +kernel) rfl, lg_m 72 (by decide +kernel) rfl, by decide +kernel, by decide +kernel, by decide +kernel⟩, lg_m 262 (by decide +kernel) rfl, rfl⟩
theorem mkX6_31 : MKI RX6 31 yX2_init cX2_init 3 2 := ⟨⟨lg_m 266 (by decide +kernel) rfl, lg_m 145 (by decide +kernel) rfl, lg_m 70 (by decide +kernel) rfl, by decide +kernel, by decide +kernel, by decide +kernel⟩, lg_m 144 (by decide +kernel) rfl, rfl⟩
theorem mkX8_41 : MKI RX8 41 yX7_init cX7_init 1 0 := ⟨⟨lg_m 284 (by decide +kernel) rfl, lg_m 286 (by decide +kernel) rfl, lg_m 73 (by decide +kernel) rfl, by decide +kernel, by decide +kernel, by decide +kernel⟩, lg_m 285 (by decide +kernel) rfl, rfl⟩
theorem mkX7_11 : MKI RX7 11 yX3_init cX3_init 2 1 := ⟨⟨lg_m 289 (by decide +kernel) rfl, lg_m 107 (by decide +kernel) rfl, lg_m 68 (by decide +kernel) rfl, by decide +kernel, by decide +kernel, by decide +kernel⟩, lg_m 106 (by decide +kernel) rfl, rfl⟩
theorem mkX8_60 : MKI RX8 60 yX4_init cX4_init 1 0 := ⟨⟨lg_m 311 (by decide +kernel) rfl, lg_m 313 (by decide +kernel) rfl, lg_m 74 (by decide +kernel) rfl, by decide +kernel, by decide +kernel, by decide +kernel⟩, lg_m 312 (by decide +kernel) rfl, rfl⟩
theorem mkX4_11 : MKI RX4 11 yX3_init cX3_init 2 1 := ⟨⟨lg_m 316 (by decide +kernel) rfl, lg_m 107 (by decide +kernel) rfl, lg_m 68 (by decide +kernel) rfl, by decide +kernel, by decide +kernel, by decide +kernel⟩, lg_m 106 (by decide +kernel) rfl, rfl⟩
theorem mkL_13 : MKV RL 13 yX8_home cX8_home 2 (some (.int)) 1 8 := ⟨⟨lg_m 351 (by decide +kernel) rfl, lg_m 354 (by decide +kernel) rfl, lg_m 65 (by decide +kernel) rfl, by decide +kernel, by decide +kernel, by decide +kernel⟩, lg_m 352 (by decide +kernel) rfl, lg_m 353 (by decide +kernel) rfl, _, _, rfl⟩
theorem mkX8_61 : MKS RX8 61 yX8_isWithin cX8_isWithin 3 (some (.boolean)) 3 := ⟨⟨lg_m 355 (by decide +kernel) rfl, lg_m 357 (by decide +kernel) rfl, lg_m 65 (by decide +kernel) rfl, by decide +kernel, by decide +kernel, by decide +kernel⟩, lg_m 356 (by decide +kernel) rfl⟩
theorem mkX8_65 : MKV RX8 65 yX8_error cX8_error 2 (some (.int)) 1 8 := ⟨⟨lg_m 358 (by decide +kernel) rfl, lg_m 361 (by decide +kernel) rfl, lg_m 65 (by decide +kernel) rfl, by decide +kernel, by decide +kernel, by decide +kernel⟩, lg_m 360 (by decide +kernel) rfl, lg_m 0 (by decide +kernel) rfl, _, _, rfl⟩
theorem mkX8_74 : MKV RX8 74 yX2_takeIn cX2_takeIn 2 (some (.int)) 1 2 := ⟨⟨lg_m 363 (by decide +kernel) rfl, lg_m 366 (by decide +kernel) rfl, lg_m 70 (by decide +kernel) rfl, by decide +kernel, by decide +kernel, by decide +kernel⟩, lg_m 364 (by decide +kernel) rfl, lg_m 365 (by decide +kernel) rfl, _, _, rfl⟩
theorem mkL_18 : MKV RL 18 yX8_homeIs cX8_homeIs 4 (some (.int)) 2 8 := ⟨⟨lg_m 367 (by decide +kernel) rfl, lg_m 370 (by decide +kernel) rfl, lg_m 65 (by decide +kernel) rfl, by decide +kernel, by decide +kernel, by decide +kernel⟩, lg_m 368 (by decide +kernel) rfl, lg_m 369 (by decide +kernel) rfl, _, _, rfl⟩
theorem mkX8_77 : MKV RX8 77 yX2_has cX2_has 2 (some (.boolean)) 1 2 := ⟨⟨lg_m 371 (by decide +kernel) rfl, lg_m 374 (by decide +kernel) rfl, lg_m 70 (by decide +kernel) rfl, by decide +kernel, by decide +kernel, by decide +kernel⟩, lg_m 372 (by decide +kernel) rfl, lg_m 373 (by decide +kernel) rfl, _, _, rfl⟩
theorem mkX8_93 : MKV RX8 93 yX2_pastAt cX2_pastAt 2 (some (.int)) 1 2 := ⟨⟨lg_m 375 (by decide +kernel) rfl, lg_m 378 (by decide +kernel) rfl, lg_m 70 (by decide +kernel) rfl, by decide +kernel, by decide +kernel, by decide +kernel⟩, lg_m 376 (by decide +kernel) rfl, lg_m 377 (by decide +kernel) rfl, _, _, rfl⟩
theorem mkX8_96 : MKV RX8 96 yX2_saidAt cX2_saidAt 2 (some (.int)) 1 2 := ⟨⟨lg_m 379 (by decide +kernel) rfl, lg_m 382 (by decide +kernel) rfl, lg_m 70 (by decide +kernel) rfl, by decide +kernel, by decide +kernel, by decide +kernel⟩, lg_m 380 (by decide +kernel) rfl, lg_m 381 (by decide +kernel) rfl, _, _, rfl⟩
theorem mkX2_62 : MKV RX2 62 yX2_tellsAt cX2_tellsAt 3 (some (.int)) 1 2 := ⟨⟨lg_m 383 (by decide +kernel) rfl, lg_m 386 (by decide +kernel) rfl, lg_m 70 (by decide +kernel) rfl, by decide +kernel, by decide +kernel, by decide +kernel⟩, lg_m 385 (by decide +kernel) rfl, lg_m 1 (by decide +kernel) rfl, _, _, rfl⟩
theorem mkX2_66 : MKV RX2 66 yX0_gives cX0_gives 7 (some (.int)) 3 0 := ⟨⟨lg_m 387 (by decide +kernel) rfl, lg_m 390 (by decide +kernel) rfl, lg_m 67 (by decide +kernel) rfl, by decide +kernel, by decide +kernel, by decide +kernel⟩, lg_m 388 (by decide +kernel) rfl, lg_m 389 (by decide +kernel) rfl, _, _, rfl⟩
theorem mkX0_38 : MKS RX0 38 yX0_worth cX0_worth 4 (some (.int)) 4 := ⟨⟨lg_m 391 (by decide +kernel) rfl, lg_m 393 (by decide +kernel) rfl, lg_m 67 (by decide +kernel) rfl, by decide +kernel, by decide +kernel, by decide +kernel⟩, lg_m 392 (by decide +kernel) rfl⟩
theorem mkX0_42 : MKS RX0 42 yX0_combine cX0_combine 3 (some (.int)) 3 := ⟨⟨lg_m 394 (by decide +kernel) rfl, lg_m 396 (by decide +kernel) rfl, lg_m 67 (by decide +kernel) rfl, by decide +kernel, by decide +kernel, by decide +kernel⟩, lg_m 395 (by decide +kernel) rfl⟩
theorem mkX0_46 : MKS RX0 46 yJ9_min_7cf53 cJ9_min_7cf53 2 (some (.int)) 2 := ⟨⟨lg_m 397 (by decide +kernel) rfl, lg_m 399 (by decide +kernel) rfl, lg_m 69 (by decide +kernel) rfl, by decide +kernel, by decide +kernel, by decide +kernel⟩, lg_m 398 (by decide +kernel) rfl⟩
theorem mkX0_52 : MKS RX0 52 yJ9_max_7cf53 cJ9_max_7cf53 2 (some (.int)) 2 := ⟨⟨lg_m 400 (by decide +kernel) rfl, lg_m 111 (by decide +kernel) rfl, lg_m 69 (by decide +kernel) rfl, by decide +kernel, by decide +kernel, by decide +kernel⟩, lg_m 110 (by decide +kernel) rfl⟩
theorem mkX0_55 : MKS RX0 55 yJ9_floorMod_7cf53 cJ9_floorMod_7cf53 3 (some (.int)) 2 := ⟨⟨lg_m 401 (by decide +kernel) rfl, lg_m 403 (by decide +kernel) rfl, lg_m 69 (by decide +kernel) rfl, by decide +kernel, by decide +kernel, by decide +kernel⟩, lg_m 402 (by decide +kernel) rfl⟩
theorem mkX8_99 : MKV RX8 99 yX2_behindAt cX2_behindAt 2 (some (.int)) 1 2 := ⟨⟨lg_m 404 (by decide +kernel) rfl, lg_m 407 (by decide +kernel) rfl, lg_m 70 (by decide +kernel) rfl, by decide +kernel, by decide +kernel, by decide +kernel⟩, lg_m 405 (by decide +kernel) rfl, lg_m 406 (by decide +kernel) rfl, _, _, rfl⟩
theorem mkX2_72 : MKV RX2 72 yX2_leavesAt cX2_leavesAt 6 (some (.int)) 1 2 := ⟨⟨lg_m 408 (by decide +kernel) rfl, lg_m 411 (by decide +kernel) rfl, lg_m 70 (by decide +kernel) rfl, by decide +kernel, by decide +kernel, by decide +kernel⟩, lg_m 410 (by decide +kernel) rfl, lg_m 2 (by decide +kernel) rfl, _, _, rfl⟩
theorem mkX8_102 : MKV RX8 102 yX2_bluntsAt cX2_bluntsAt 5 (some (.int)) 1 2 := ⟨⟨lg_m 412 (by decide +kernel) rfl, lg_m 415 (by decide +kernel) rfl, lg_m 70 (by decide +kernel) rfl, by decide +kernel, by decide +kernel, by decide +kernel⟩, lg_m 413 (by decide +kernel) rfl, lg_m 414 (by decide +kernel) rfl, _, _, rfl⟩
theorem mkL_23 : MKV RL 23 yX8_become cX8_become 4 (some (.int)) 2 8 := ⟨⟨lg_m 416 (by decide +kernel) rfl, lg_m 419 (by decide +kernel) rfl, lg_m 65 (by decide +kernel) rfl, by decide +kernel, by decide +kernel, by decide +kernel⟩, lg_m 417 (by decide +kernel) rfl, lg_m 418 (by decide +kernel) rfl, _, _, rfl⟩
theorem mkL_27 : MKV RL 27 yX8_as cX8_as 3 (some (.int)) 2 8 := ⟨⟨lg_m 420 (by decide +kernel) rfl, lg_m 423 (by decide +kernel) rfl, lg_m 65 (by decide +kernel) rfl, by decide +kernel, by decide +kernel, by decide +kernel⟩, lg_m 421 (by decide +kernel) rfl, lg_m 422 (by decide +kernel) rfl, _, _, rfl⟩
theorem mkX8_105 : MKS RX8 105 yX8_isOfKind cX8_isOfKind 3 (some (.boolean)) 2 := ⟨⟨lg_m 424 (by decide +kernel) rfl, lg_m 426 (by decide +kernel) rfl, lg_m 65 (by decide +kernel) rfl, by decide +kernel, by decide +kernel, by decide +kernel⟩, lg_m 425 (by decide +kernel) rfl⟩
theorem mkL_31 : MKV RL 31 yX8_past cX8_past 4 (some (.int)) 2 8 := ⟨⟨lg_m 429 (by decide +kernel) rfl, lg_m 432 (by decide +kernel) rfl, lg_m 65 (by decide +kernel) rfl, by decide +kernel, by decide +kernel, by decide +kernel⟩, lg_m 430 (by decide +kernel) rfl, lg_m 431 (by decide +kernel) rfl, _, _, rfl⟩
theorem mkX8_109 : MKV RX8 109 yX2_putPast cX2_putPast 3 none 2 2 := ⟨⟨lg_m 433 (by decide +kernel) rfl, lg_m 436 (by decide +kernel) rfl, lg_m 70 (by decide +kernel) rfl, by decide +kernel, by decide +kernel, by decide +kernel⟩, lg_m 434 (by decide +kernel) rfl, lg_m 435 (by decide +kernel) rfl, _, _, rfl⟩
theorem mkL_35 : MKV RL 35 yX8_goes cX8_goes 3 (some (.int)) 1 8 := ⟨⟨lg_m 437 (by decide +kernel) rfl, lg_m 440 (by decide +kernel) rfl, lg_m 65 (by decide +kernel) rfl, by decide +kernel, by decide +kernel, by decide +kernel⟩, lg_m 438 (by decide +kernel) rfl, lg_m 439 (by decide +kernel) rfl, _, _, rfl⟩
theorem mkL_39 : MKV RL 39 yX8_set cX8_set 3 (some (.int)) 2 8 := ⟨⟨lg_m 441 (by decide +kernel) rfl, lg_m 444 (by decide +kernel) rfl, lg_m 65 (by decide +kernel) rfl, by decide +kernel, by decide +kernel, by decide +kernel⟩, lg_m 442 (by decide +kernel) rfl, lg_m 443 (by decide +kernel) rfl, _, _, rfl⟩
theorem mkX8_116 : MKV RX8 116 yX8_becomeView cX8_becomeView 3 (some (.int)) 1 8 := ⟨⟨lg_m 445 (by decide +kernel) rfl, lg_m 448 (by decide +kernel) rfl, lg_m 65 (by decide +kernel) rfl, by decide +kernel, by decide +kernel, by decide +kernel⟩, lg_m 447 (by decide +kernel) rfl, lg_m 3 (by decide +kernel) rfl, _, _, rfl⟩
theorem mkX8_119 : MKV RX8 119 yX8_becomeSharp cX8_becomeSharp 3 (some (.int)) 1 8 := ⟨⟨lg_m 449 (by decide +kernel) rfl, lg_m 452 (by decide +kernel) rfl, lg_m 65 (by decide +kernel) rfl, by decide +kernel, by decide +kernel, by decide +kernel⟩, lg_m 451 (by decide +kernel) rfl, lg_m 4 (by decide +kernel) rfl, _, _, rfl⟩
theorem mkX8_122 : MKV RX8 122 yX8_becomeSteel cX8_becomeSteel 3 (some (.int)) 1 8 := ⟨⟨lg_m 453 (by decide +kernel) rfl, lg_m 456 (by decide +kernel) rfl, lg_m 65 (by decide +kernel) rfl, by decide +kernel, by decide +kernel, by decide +kernel⟩, lg_m 455 (by decide +kernel) rfl, lg_m 5 (by decide +kernel) rfl, _, _, rfl⟩
theorem mkL_43 : MKV RL 43 yX8_hears cX8_hears 4 (some (.int)) 2 8 := ⟨⟨lg_m 457 (by decide +kernel) rfl, lg_m 460 (by decide +kernel) rfl, lg_m 65 (by decide +kernel) rfl, by decide +kernel, by decide +kernel, by decide +kernel⟩, lg_m 458 (by decide +kernel) rfl, lg_m 459 (by decide +kernel) rfl, _, _, rfl⟩
theorem mkL_49 : MKV RL 49 yX8_feed cX8_feed 5 (some (.int)) 2 8 := ⟨⟨lg_m 461 (by decide +kernel) rfl, lg_m 464 (by decide +kernel) rfl, lg_m 65 (by decide +kernel) rfl, by decide +kernel, by decide +kernel, by decide +kernel⟩, lg_m 462 (by decide +kernel) rfl, lg_m 463 (by decide +kernel) rfl, _, _, rfl⟩
theorem mkX8_134 : MKV RX8 134 yX3_add cX3_add 2 none 1 3 := ⟨⟨lg_m 465 (by decide +kernel) rfl, lg_m 468 (by decide +kernel) rfl, lg_m 68 (by decide +kernel) rfl, by decide +kernel, by decide +kernel, by decide +kernel⟩, lg_m 466 (by decide +kernel) rfl, lg_m 467 (by decide +kernel) rfl, _, _, rfl⟩
theorem mkL_54 : MKV RL 54 yX8_text cX8_text 3 (some (.int)) 1 8 := ⟨⟨lg_m 469 (by decide +kernel) rfl, lg_m 472 (by decide +kernel) rfl, lg_m 65 (by decide +kernel) rfl, by decide +kernel, by decide +kernel, by decide +kernel⟩, lg_m 470 (by decide +kernel) rfl, lg_m 471 (by decide +kernel) rfl, _, _, rfl⟩
theorem mkX8_138 : MKS RX8 138 yX8_isUse cX8_isUse 1 (some (.boolean)) 1 := ⟨⟨lg_m 473 (by decide +kernel) rfl, lg_m 475 (by decide +kernel) rfl, lg_m 65 (by decide +kernel) rfl, by decide +kernel, by decide +kernel, by decide +kernel⟩, lg_m 474 (by decide +kernel) rfl⟩
theorem mkX8_141 : MKV RX8 141 yX1_read cX1_read 3 (some (.int)) 2 1 := ⟨⟨lg_m 476 (by decide +kernel) rfl, lg_m 479 (by decide +kernel) rfl, lg_m 71 (by decide +kernel) rfl, by decide +kernel, by decide +kernel, by decide +kernel⟩, lg_m 477 (by decide +kernel) rfl, lg_m 478 (by decide +kernel) rfl, _, _, rfl⟩
theorem mkX1_40 : MKV RX1 40 yX3_empty cX3_empty 1 none 0 3 := ⟨⟨lg_m 482 (by decide +kernel) rfl, lg_m 485 (by decide +kernel) rfl, lg_m 68 (by decide +kernel) rfl, by decide +kernel, by decide +kernel, by decide +kernel⟩, lg_m 483 (by decide +kernel) rfl, lg_m 484 (by decide +kernel) rfl, _, _, rfl⟩
theorem mkX1_43 : MKV RX1 43 yX1_readT cX1_readT 3 none 1 1 := ⟨⟨lg_m 486 (by decide +kernel) rfl, lg_m 489 (by decide +kernel) rfl, lg_m 71 (by decide +kernel) rfl, by decide +kernel, by decide +kernel, by decide +kernel⟩, lg_m 488 (by decide +kernel) rfl, lg_m 6 (by decide +kernel) rfl, _, _, rfl⟩
theorem mkX1_61 : MKV RX1 61 yX1_readA cX1_readA 3 none 1 1 := ⟨⟨lg_m 490 (by decide +kernel) rfl, lg_m 493 (by decide +kernel) rfl, lg_m 71 (by decide +kernel) rfl, by decide +kernel, by decide +kernel, by decide +kernel⟩, lg_m 492 (by decide +kernel) rfl, lg_m 7 (by decide +kernel) rfl, _, _, rfl⟩
theorem mkX1_71 : MKV RX1 71 yX1_readB cX1_readB 3 none 1 1 := ⟨⟨lg_m 494 (by decide +kernel) rfl, lg_m 497 (by decide +kernel) rfl, lg_m 71 (by decide +kernel) rfl, by decide +kernel, by decide +kernel, by decide +kernel⟩, lg_m 496 (by decide +kernel) rfl, lg_m 8 (by decide +kernel) rfl, _, _, rfl⟩
theorem mkX1_74 : MKV RX1 74 yX1_readS cX1_readS 4 none 1 1 := ⟨⟨lg_m 498 (by decide +kernel) rfl, lg_m 501 (by decide +kernel) rfl, lg_m 71 (by decide +kernel) rfl, by decide +kernel, by decide +kernel, by decide +kernel⟩, lg_m 500 (by decide +kernel) rfl, lg_m 9 (by decide +kernel) rfl, _, _, rfl⟩
theorem mkX1_77 : MKV RX1 77 yX1_readP cX1_readP 4 none 1 1 := ⟨⟨lg_m 502 (by decide +kernel) rfl, lg_m 505 (by decide +kernel) rfl, lg_m 71 (by decide +kernel) rfl, by decide +kernel, by decide +kernel, by decide +kernel⟩, lg_m 504 (by decide +kernel) rfl, lg_m 10 (by decide +kernel) rfl, _, _, rfl⟩
theorem mkX1_80 : MKV RX1 80 yX1_readQ cX1_readQ 2 none 1 1 := ⟨⟨lg_m 506 (by decide +kernel) rfl, lg_m 509 (by decide +kernel) rfl, lg_m 71 (by decide +kernel) rfl, by decide +kernel, by decide +kernel, by decide +kernel⟩, lg_m 508 (by decide +kernel) rfl, lg_m 11 (by decide +kernel) rfl, _, _, rfl⟩
theorem mkX1_83 : MKV RX1 83 yX1_isDigit cX1_isDigit 1 (some (.boolean)) 0 1 := ⟨⟨lg_m 510 (by decide +kernel) rfl, lg_m 513 (by decide +kernel) rfl, lg_m 71 (by decide +kernel) rfl, by decide +kernel, by decide +kernel, by decide +kernel⟩, lg_m 512 (by decide +kernel) rfl, lg_m 12 (by decide +kernel) rfl, _, _, rfl⟩
theorem mkX1_46 : MKV RX1 46 yX1_next cX1_next 1 (some (.int)) 0 1 := ⟨⟨lg_m 514 (by decide +kernel) rfl, lg_m 517 (by decide +kernel) rfl, lg_m 71 (by decide +kernel) rfl, by decide +kernel, by decide +kernel, by decide +kernel⟩, lg_m 516 (by decide +kernel) rfl, lg_m 13 (by decide +kernel) rfl, _, _, rfl⟩
theorem mkX1_53 : MKV RX1 53 yX3_has cX3_has 2 (some (.boolean)) 1 3 := ⟨⟨lg_m 518 (by decide +kernel) rfl, lg_m 521 (by decide +kernel) rfl, lg_m 68 (by decide +kernel) rfl, by decide +kernel, by decide +kernel, by decide +kernel⟩, lg_m 519 (by decide +kernel) rfl, lg_m 520 (by decide +kernel) rfl, _, _, rfl⟩
theorem mkX1_87 : MKV RX1 87 yX1_readNumber cX1_readNumber 3 none 0 1 := ⟨⟨lg_m 522 (by decide +kernel) rfl, lg_m 525 (by decide +kernel) rfl, lg_m 71 (by decide +kernel) rfl, by decide +kernel, by decide +kernel, by decide +kernel⟩, lg_m 524 (by decide +kernel) rfl, lg_m 14 (by decide +kernel) rfl, _, _, rfl⟩
theorem mkX1_68 : MKV RX1 68 yX3_add cX3_add 2 none 1 3 := ⟨⟨lg_m 526 (by decide +kernel) rfl, lg_m 468 (by decide +kernel) rfl, lg_m 68 (by decide +kernel) rfl, by decide +kernel, by decide +kernel, by decide +kernel⟩, lg_m 466 (by decide +kernel) rfl, lg_m 467 (by decide +kernel) rfl, _, _, rfl⟩
theorem mkX1_90 : MKV RX1 90 yX1_nameNext cX1_nameNext 1 (some (.int)) 0 1 := ⟨⟨lg_m 527 (by decide +kernel) rfl, lg_m 530 (by decide +kernel) rfl, lg_m 71 (by decide +kernel) rfl, by decide +kernel, by decide +kernel, by decide +kernel⟩, lg_m 529 (by decide +kernel) rfl, lg_m 15 (by decide +kernel) rfl, _, _, rfl⟩
theorem mkJ0_637 : MKS RJ0 637 yJ1_indexOf_4cfef cJ1_indexOf_4cfef 4 (some (.int)) 4 := ⟨⟨lg_m 553 (by decide +kernel) rfl, lg_m 555 (by decide +kernel) rfl, lg_m 77 (by decide +kernel) rfl, by decide +kernel, by decide +kernel, by decide +kernel⟩, lg_m 554 (by decide +kernel) rfl⟩
theorem mkJ1_88 : MKS RJ1 88 yJ1_canEncode_9a6ad cJ1_canEncode_9a6ad 1 (some (.boolean)) 1 := ⟨⟨lg_m 556 (by decide +kernel) rfl, lg_m 558 (by decide +kernel) rfl, lg_m 77 (by decide +kernel) rfl, by decide +kernel, by decide +kernel, by decide +kernel⟩, lg_m 557 (by decide +kernel) rfl⟩
theorem mkJ1_92 : MKS RJ1 92 yJ9_max_7cf53 cJ9_max_7cf53 2 (some (.int)) 2 := ⟨⟨lg_m 559 (by decide +kernel) rfl, lg_m 111 (by decide +kernel) rfl, lg_m 69 (by decide +kernel) rfl, by decide +kernel, by decide +kernel, by decide +kernel⟩, lg_m 110 (by decide +kernel) rfl⟩
theorem mkJ1_38 : MKS RJ1 38 yJ9_min_7cf53 cJ9_min_7cf53 2 (some (.int)) 2 := ⟨⟨lg_m 560 (by decide +kernel) rfl, lg_m 399 (by decide +kernel) rfl, lg_m 69 (by decide +kernel) rfl, by decide +kernel, by decide +kernel, by decide +kernel⟩, lg_m 398 (by decide +kernel) rfl⟩
theorem mkJ1_95 : MKS RJ1 95 yJ1_indexOfChar_4cfef cJ1_indexOfChar_4cfef 6 (some (.int)) 4 := ⟨⟨lg_m 561 (by decide +kernel) rfl, lg_m 563 (by decide +kernel) rfl, lg_m 77 (by decide +kernel) rfl, by decide +kernel, by decide +kernel, by decide +kernel⟩, lg_m 562 (by decide +kernel) rfl⟩
theorem mkJ0_640 : MKS RJ0 640 yJ2_indexOf_4cfef cJ2_indexOf_4cfef 4 (some (.int)) 4 := ⟨⟨lg_m 564 (by decide +kernel) rfl, lg_m 566 (by decide +kernel) rfl, lg_m 78 (by decide +kernel) rfl, by decide +kernel, by decide +kernel, by decide +kernel⟩, lg_m 565 (by decide +kernel) rfl⟩
theorem mkJ2_224 : MKS RJ2 224 yJ9_max_7cf53 cJ9_max_7cf53 2 (some (.int)) 2 := ⟨⟨lg_m 567 (by decide +kernel) rfl, lg_m 111 (by decide +kernel) rfl, lg_m 69 (by decide +kernel) rfl, by decide +kernel, by decide +kernel, by decide +kernel⟩, lg_m 110 (by decide +kernel) rfl⟩
theorem mkJ2_183 : MKS RJ2 183 yJ9_min_7cf53 cJ9_min_7cf53 2 (some (.int)) 2 := ⟨⟨lg_m 568 (by decide +kernel) rfl, lg_m 399 (by decide +kernel) rfl, lg_m 69 (by decide +kernel) rfl, by decide +kernel, by decide +kernel, by decide +kernel⟩, lg_m 398 (by decide +kernel) rfl⟩
theorem mkJ2_228 : MKS RJ2 228 yJ2_indexOfChar_4cfef cJ2_indexOfChar_4cfef 4 (some (.int)) 4 := ⟨⟨lg_m 570 (by decide +kernel) rfl, lg_m 572 (by decide +kernel) rfl, lg_m 78 (by decide +kernel) rfl, by decide +kernel, by decide +kernel, by decide +kernel⟩, lg_m 571 (by decide +kernel) rfl⟩
theorem mkJ2_96 : MKS RJ2 96 yJ2_checkBoundsBeginEnd_d044e cJ2_checkBoundsBeginEnd_d044e 3 none 3 := ⟨⟨lg_m 573 (by decide +kernel) rfl, lg_m 575 (by decide +kernel) rfl, lg_m 78 (by decide +kernel) rfl, by decide +kernel, by decide +kernel, by decide +kernel⟩, lg_m 574 (by decide +kernel) rfl⟩
theorem mkJ2_48 : MKS RJ2 48 yJ2_length_9d52b cJ2_length_9d52b 1 (some (.int)) 1 := ⟨⟨lg_m 576 (by decide +kernel) rfl, lg_m 578 (by decide +kernel) rfl, lg_m 78 (by decide +kernel) rfl, by decide +kernel, by decide +kernel, by decide +kernel⟩, lg_m 577 (by decide +kernel) rfl⟩
theorem mkJ2_241 : MKS RJ2 241 yJ0_checkBoundsBeginEnd_23922 cJ0_checkBoundsBeginEnd_23922 3 none 3 := ⟨⟨lg_m 579 (by decide +kernel) rfl, lg_m 581 (by decide +kernel) rfl, lg_m 76 (by decide +kernel) rfl, by decide +kernel, by decide +kernel, by decide +kernel⟩, lg_m 580 (by decide +kernel) rfl⟩
theorem mkJ0_1062 : MKS RJ0 1062 yJ3_checkFromToIndex_8c36e cJ3_checkFromToIndex_8c36e 4 (some (.int)) 4 := ⟨⟨lg_m 584 (by decide +kernel) rfl, lg_m 586 (by decide +kernel) rfl, lg_m 79 (by decide +kernel) rfl, by decide +kernel, by decide +kernel, by decide +kernel⟩, lg_m 585 (by decide +kernel) rfl⟩
theorem mkJ2_244 : MKS RJ2 244 yJ2_indexOfCharUnsafe_4cfef cJ2_indexOfCharUnsafe_4cfef 5 (some (.int)) 4 := ⟨⟨lg_m 587 (by decide +kernel) rfl, lg_m 589 (by decide +kernel) rfl, lg_m 78 (by decide +kernel) rfl, by decide +kernel, by decide +kernel, by decide +kernel⟩, lg_m 588 (by decide +kernel) rfl⟩
theorem mkJ2_71 : MKS RJ2 71 yJ2_getChar_3b067 cJ2_getChar_3b067 2 (some (.char)) 2 := ⟨⟨lg_m 590 (by decide +kernel) rfl, lg_m 592 (by decide +kernel) rfl, lg_m 78 (by decide +kernel) rfl, by decide +kernel, by decide +kernel, by decide +kernel⟩, lg_m 591 (by decide +kernel) rfl⟩
theorem mkJ2_232 : MKS RJ2 232 yJ2_indexOfSupplementary_4cfef cJ2_indexOfSupplementary_4cfef 7 (some (.int)) 4 := ⟨⟨lg_m 599 (by decide +kernel) rfl, lg_m 601 (by decide +kernel) rfl, lg_m 78 (by decide +kernel) rfl, by decide +kernel, by decide +kernel, by decide +kernel⟩, lg_m 600 (by decide +kernel) rfl⟩
theorem mkJ2_164 : MKS RJ2 164 yJ11_isValidCodePoint_9a6ad cJ11_isValidCodePoint_9a6ad 2 (some (.boolean)) 1 := ⟨⟨lg_m 602 (by decide +kernel) rfl, lg_m 604 (by decide +kernel) rfl, lg_m 80 (by decide +kernel) rfl, by decide +kernel, by decide +kernel, by decide +kernel⟩, lg_m 603 (by decide +kernel) rfl⟩
theorem mkJ2_157 : MKS RJ2 157 yJ11_highSurrogate_5068e cJ11_highSurrogate_5068e 1 (some (.char)) 1 := ⟨⟨lg_m 605 (by decide +kernel) rfl, lg_m 607 (by decide +kernel) rfl, lg_m 80 (by decide +kernel) rfl, by decide +kernel, by decide +kernel, by decide +kernel⟩, lg_m 606 (by decide +kernel) rfl⟩
theorem mkJ2_161 : MKS RJ2 161 yJ11_lowSurrogate_5068e cJ11_lowSurrogate_5068e 1 (some (.char)) 1 := ⟨⟨lg_m 609 (by decide +kernel) rfl, lg_m 611 (by decide +kernel) rfl, lg_m 80 (by decide +kernel) rfl, by decide +kernel, by decide +kernel, by decide +kernel⟩, lg_m 610 (by decide +kernel) rfl⟩
theorem mkX1_64 : MKV RX1 64 yX1_isNext cX1_isNext 2 (some (.boolean)) 1 1 := ⟨⟨lg_m 613 (by decide +kernel) rfl, lg_m 616 (by decide +kernel) rfl, lg_m 71 (by decide +kernel) rfl, by decide +kernel, by decide +kernel, by decide +kernel⟩, lg_m 615 (by decide +kernel) rfl, lg_m 16 (by decide +kernel) rfl, _, _, rfl⟩
theorem mkX1_95 : MKV RX1 95 yX1_readClosing cX1_readClosing 1 none 0 1 := ⟨⟨lg_m 617 (by decide +kernel) rfl, lg_m 620 (by decide +kernel) rfl, lg_m 71 (by decide +kernel) rfl, by decide +kernel, by decide +kernel, by decide +kernel⟩, lg_m 619 (by decide +kernel) rfl, lg_m 17 (by decide +kernel) rfl, _, _, rfl⟩
theorem mkX1_50 : MKV RX1 50 yX1_fail cX1_fail 1 none 0 1 := ⟨⟨lg_m 621 (by decide +kernel) rfl, lg_m 624 (by decide +kernel) rfl, lg_m 71 (by decide +kernel) rfl, by decide +kernel, by decide +kernel, by decide +kernel⟩, lg_m 623 (by decide +kernel) rfl, lg_m 18 (by decide +kernel) rfl, _, _, rfl⟩
theorem mkX8_145 : MKV RX8 145 yX3_empty cX3_empty 1 none 0 3 := ⟨⟨lg_m 625 (by decide +kernel) rfl, lg_m 485 (by decide +kernel) rfl, lg_m 68 (by decide +kernel) rfl, by decide +kernel, by decide +kernel, by decide +kernel⟩, lg_m 483 (by decide +kernel) rfl, lg_m 484 (by decide +kernel) rfl, _, _, rfl⟩
theorem mkX8_148 : MKV RX8 148 yX5_lawOf cX5_lawOf 2 (some ((.object "LoanedRound$Law"))) 1 5 := ⟨⟨lg_m 626 (by decide +kernel) rfl, lg_m 629 (by decide +kernel) rfl, lg_m 66 (by decide +kernel) rfl, by decide +kernel, by decide +kernel, by decide +kernel⟩, lg_m 627 (by decide +kernel) rfl, lg_m 628 (by decide +kernel) rfl, _, _, rfl⟩
theorem mkX8_155 : MKV RX8 155 yX0_takeSteps cX0_takeSteps 2 none 1 0 := ⟨⟨lg_m 630 (by decide +kernel) rfl, lg_m 633 (by decide +kernel) rfl, lg_m 67 (by decide +kernel) rfl, by decide +kernel, by decide +kernel, by decide +kernel⟩, lg_m 631 (by decide +kernel) rfl, lg_m 632 (by decide +kernel) rfl, _, _, rfl⟩
theorem mkX0_28 : MKV RX0 28 yX3_takeOver cX3_takeOver 3 none 1 3 := ⟨⟨lg_m 634 (by decide +kernel) rfl, lg_m 637 (by decide +kernel) rfl, lg_m 68 (by decide +kernel) rfl, by decide +kernel, by decide +kernel, by decide +kernel⟩, lg_m 635 (by decide +kernel) rfl, lg_m 636 (by decide +kernel) rfl, _, _, rfl⟩
theorem mkX3_23 : MKV RX3 23 yX3_empty cX3_empty 1 none 0 3 := ⟨⟨lg_m 638 (by decide +kernel) rfl, lg_m 485 (by decide +kernel) rfl, lg_m 68 (by decide +kernel) rfl, by decide +kernel, by decide +kernel, by decide +kernel⟩, lg_m 483 (by decide +kernel) rfl, lg_m 484 (by decide +kernel) rfl, _, _, rfl⟩
theorem mkX3_26 : MKV RX3 26 yX3_add cX3_add 2 none 1 3 := ⟨⟨lg_m 639 (by decide +kernel) rfl, lg_m 468 (by decide +kernel) rfl, lg_m 68 (by decide +kernel) rfl, by decide +kernel, by decide +kernel, by decide +kernel⟩, lg_m 466 (by decide +kernel) rfl, lg_m 467 (by decide +kernel) rfl, _, _, rfl⟩
theorem mkL_58 : MKV RL 58 yX8_untell cX8_untell 4 (some (.int)) 1 8 := ⟨⟨lg_m 640 (by decide +kernel) rfl, lg_m 643 (by decide +kernel) rfl, lg_m 65 (by decide +kernel) rfl, by decide +kernel, by decide +kernel, by decide +kernel⟩, lg_m 641 (by decide +kernel) rfl, lg_m 642 (by decide +kernel) rfl, _, _, rfl⟩
theorem mkL_62 : MKV RL 62 yX8_law cX8_law 5 (some (.int)) 4 8 := ⟨⟨lg_m 644 (by decide +kernel) rfl, lg_m 647 (by decide +kernel) rfl, lg_m 65 (by decide +kernel) rfl, by decide +kernel, by decide +kernel, by decide +kernel⟩, lg_m 645 (by decide +kernel) rfl, lg_m 646 (by decide +kernel) rfl, _, _, rfl⟩
theorem mkX8_162 : MKV RX8 162 yX0_gives cX0_gives 7 (some (.int)) 3 0 := ⟨⟨lg_m 648 (by decide +kernel) rfl, lg_m 390 (by decide +kernel) rfl, lg_m 67 (by decide +kernel) rfl, by decide +kernel, by decide +kernel, by decide +kernel⟩, lg_m 388 (by decide +kernel) rfl, lg_m 389 (by decide +kernel) rfl, _, _, rfl⟩
theorem mkL_67 : MKV RL 67 yX8_days cX8_days 2 (some (.int)) 1 8 := ⟨⟨lg_m 649 (by decide +kernel) rfl, lg_m 652 (by decide +kernel) rfl, lg_m 65 (by decide +kernel) rfl, by decide +kernel, by decide +kernel, by decide +kernel⟩, lg_m 650 (by decide +kernel) rfl, lg_m 651 (by decide +kernel) rfl, _, _, rfl⟩
theorem mkX8_169 : MKV RX8 169 yX2_passDays cX2_passDays 3 none 1 2 := ⟨⟨lg_m 653 (by decide +kernel) rfl, lg_m 656 (by decide +kernel) rfl, lg_m 70 (by decide +kernel) rfl, by decide +kernel, by decide +kernel, by decide +kernel⟩, lg_m 654 (by decide +kernel) rfl, lg_m 655 (by decide +kernel) rfl, _, _, rfl⟩
theorem mkX2_75 : MKV RX2 75 yX2_hear cX2_hear 1 none 0 2 := ⟨⟨lg_m 657 (by decide +kernel) rfl, lg_m 660 (by decide +kernel) rfl, lg_m 70 (by decide +kernel) rfl, by decide +kernel, by decide +kernel, by decide +kernel⟩, lg_m 658 (by decide +kernel) rfl, lg_m 659 (by decide +kernel) rfl, _, _, rfl⟩
theorem mkX2_81 : MKV RX2 81 yX2_has cX2_has 2 (some (.boolean)) 1 2 := ⟨⟨lg_m 661 (by decide +kernel) rfl, lg_m 374 (by decide +kernel) rfl, lg_m 70 (by decide +kernel) rfl, by decide +kernel, by decide +kernel, by decide +kernel⟩, lg_m 372 (by decide +kernel) rfl, lg_m 373 (by decide +kernel) rfl, _, _, rfl⟩
theorem mkX2_85 : MKV RX2 85 yX2_saidAt cX2_saidAt 2 (some (.int)) 1 2 := ⟨⟨lg_m 662 (by decide +kernel) rfl, lg_m 382 (by decide +kernel) rfl, lg_m 70 (by decide +kernel) rfl, by decide +kernel, by decide +kernel, by decide +kernel⟩, lg_m 380 (by decide +kernel) rfl, lg_m 381 (by decide +kernel) rfl, _, _, rfl⟩
theorem mkX2_88 : MKS RX2 88 yJ9_min_7cf53 cJ9_min_7cf53 2 (some (.int)) 2 := ⟨⟨lg_m 663 (by decide +kernel) rfl, lg_m 399 (by decide +kernel) rfl, lg_m 69 (by decide +kernel) rfl, by decide +kernel, by decide +kernel, by decide +kernel⟩, lg_m 398 (by decide +kernel) rfl⟩
theorem mkX2_78 : MKV RX2 78 yX2_carryOn cX2_carryOn 2 none 0 2 := ⟨⟨lg_m 664 (by decide +kernel) rfl, lg_m 667 (by decide +kernel) rfl, lg_m 70 (by decide +kernel) rfl, by decide +kernel, by decide +kernel, by decide +kernel⟩, lg_m 665 (by decide +kernel) rfl, lg_m 666 (by decide +kernel) rfl, _, _, rfl⟩
theorem mkX2_94 : MKV RX2 94 yX2_behindAt cX2_behindAt 2 (some (.int)) 1 2 := ⟨⟨lg_m 668 (by decide +kernel) rfl, lg_m 407 (by decide +kernel) rfl, lg_m 70 (by decide +kernel) rfl, by decide +kernel, by decide +kernel, by decide +kernel⟩, lg_m 405 (by decide +kernel) rfl, lg_m 406 (by decide +kernel) rfl, _, _, rfl⟩
theorem mkX2_97 : MKV RX2 97 yX2_bluntsAt cX2_bluntsAt 5 (some (.int)) 1 2 := ⟨⟨lg_m 669 (by decide +kernel) rfl, lg_m 415 (by decide +kernel) rfl, lg_m 70 (by decide +kernel) rfl, by decide +kernel, by decide +kernel, by decide +kernel⟩, lg_m 413 (by decide +kernel) rfl, lg_m 414 (by decide +kernel) rfl, _, _, rfl⟩
theorem mkX2_100 : MKS RX2 100 yJ9_max_7cf53 cJ9_max_7cf53 2 (some (.int)) 2 := ⟨⟨lg_m 670 (by decide +kernel) rfl, lg_m 111 (by decide +kernel) rfl, lg_m 69 (by decide +kernel) rfl, by decide +kernel, by decide +kernel, by decide +kernel⟩, lg_m 110 (by decide +kernel) rfl⟩
theorem mkX2_103 : MKV RX2 103 yX2_nextPlace cX2_nextPlace 3 (some (.int)) 0 2 := ⟨⟨lg_m 671 (by decide +kernel) rfl, lg_m 674 (by decide +kernel) rfl, lg_m 70 (by decide +kernel) rfl, by decide +kernel, by decide +kernel, by decide +kernel⟩, lg_m 673 (by decide +kernel) rfl, lg_m 19 (by decide +kernel) rfl, _, _, rfl⟩
theorem mkX2_107 : MKV RX2 107 yX2_pastAt cX2_pastAt 2 (some (.int)) 1 2 := ⟨⟨lg_m 675 (by decide +kernel) rfl, lg_m 378 (by decide +kernel) rfl, lg_m 70 (by decide +kernel) rfl, by decide +kernel, by decide +kernel, by decide +kernel⟩, lg_m 376 (by decide +kernel) rfl, lg_m 377 (by decide +kernel) rfl, _, _, rfl⟩
theorem mkL_71 : MKV RL 71 yX8_loose cX8_loose 3 (some (.int)) 1 8 := ⟨⟨lg_m 676 (by decide +kernel) rfl, lg_m 679 (by decide +kernel) rfl, lg_m 65 (by decide +kernel) rfl, by decide +kernel, by decide +kernel, by decide +kernel⟩, lg_m 677 (by decide +kernel) rfl, lg_m 678 (by decide +kernel) rfl, _, _, rfl⟩
theorem mkX8_175 : MKV RX8 175 yX2_drawPlace cX2_drawPlace 1 none 0 2 := ⟨⟨lg_m 680 (by decide +kernel) rfl, lg_m 683 (by decide +kernel) rfl, lg_m 70 (by decide +kernel) rfl, by decide +kernel, by decide +kernel, by decide +kernel⟩, lg_m 681 (by decide +kernel) rfl, lg_m 682 (by decide +kernel) rfl, _, _, rfl⟩
theorem mkL_75 : MKV RL 75 yX8_day cX8_day 3 (some (.int)) 1 8 := ⟨⟨lg_m 685 (by decide +kernel) rfl, lg_m 688 (by decide +kernel) rfl, lg_m 65 (by decide +kernel) rfl, by decide +kernel, by decide +kernel, by decide +kernel⟩, lg_m 686 (by decide +kernel) rfl, lg_m 687 (by decide +kernel) rfl, _, _, rfl⟩
theorem mkL_79 : MKV RL 79 yX8_seed cX8_seed 3 (some (.int)) 1 8 := ⟨⟨lg_m 689 (by decide +kernel) rfl, lg_m 692 (by decide +kernel) rfl, lg_m 65 (by decide +kernel) rfl, by decide +kernel, by decide +kernel, by decide +kernel⟩, lg_m 690 (by decide +kernel) rfl, lg_m 691 (by decide +kernel) rfl, _, _, rfl⟩
theorem mkL_83 : MKV RL 83 yX8_then cX8_then 4 (some (.int)) 2 8 := ⟨⟨lg_m 693 (by decide +kernel) rfl, lg_m 696 (by decide +kernel) rfl, lg_m 65 (by decide +kernel) rfl, by decide +kernel, by decide +kernel, by decide +kernel⟩, lg_m 694 (by decide +kernel) rfl, lg_m 695 (by decide +kernel) rfl, _, _, rfl⟩
theorem mkX8_181 : MKV RX8 181 yX6_daysOn cX6_daysOn 2 (some ((.object "LoanedRound$Round"))) 1 6 := ⟨⟨lg_m 697 (by decide +kernel) rfl, lg_m 700 (by decide +kernel) rfl, lg_m 72 (by decide +kernel) rfl, by decide +kernel, by decide +kernel, by decide +kernel⟩, lg_m 698 (by decide +kernel) rfl, lg_m 699 (by decide +kernel) rfl, _, _, rfl⟩
theorem mkX6_37 : MKV RX6 37 yX2_takeOver cX2_takeOver 2 none 1 2 := ⟨⟨lg_m 701 (by decide +kernel) rfl, lg_m 704 (by decide +kernel) rfl, lg_m 70 (by decide +kernel) rfl, by decide +kernel, by decide +kernel, by decide +kernel⟩, lg_m 702 (by decide +kernel) rfl, lg_m 703 (by decide +kernel) rfl, _, _, rfl⟩
theorem mkX6_41 : MKV RX6 41 yX2_passDays cX2_passDays 3 none 1 2 := ⟨⟨lg_m 708 (by decide +kernel) rfl, lg_m 656 (by decide +kernel) rfl, lg_m 70 (by decide +kernel) rfl, by decide +kernel, by decide +kernel, by decide +kernel⟩, lg_m 654 (by decide +kernel) rfl, lg_m 655 (by decide +kernel) rfl, _, _, rfl⟩
theorem mkX8_188 : MKV RX8 188 yX2_heardTogether cX2_heardTogether 3 (some (.int)) 0 2 := ⟨⟨lg_m 709 (by decide +kernel) rfl, lg_m 712 (by decide +kernel) rfl, lg_m 70 (by decide +kernel) rfl, by decide +kernel, by decide +kernel, by decide +kernel⟩, lg_m 710 (by decide +kernel) rfl, lg_m 711 (by decide +kernel) rfl, _, _, rfl⟩
theorem mkL_87 : MKV RL 87 yX8_soonest cX8_soonest 4 (some (.int)) 2 8 := ⟨⟨lg_m 713 (by decide +kernel) rfl, lg_m 716 (by decide +kernel) rfl, lg_m 65 (by decide +kernel) rfl, by decide +kernel, by decide +kernel, by decide +kernel⟩, lg_m 714 (by decide +kernel) rfl, lg_m 715 (by decide +kernel) rfl, _, _, rfl⟩
theorem mkX8_192 : MKV RX8 192 yX6_daysUntil cX6_daysUntil 4 (some (.int)) 2 6 := ⟨⟨lg_m 717 (by decide +kernel) rfl, lg_m 720 (by decide +kernel) rfl, lg_m 72 (by decide +kernel) rfl, by decide +kernel, by decide +kernel, by decide +kernel⟩, lg_m 718 (by decide +kernel) rfl, lg_m 719 (by decide +kernel) rfl, _, _, rfl⟩
theorem mkX6_49 : MKV RX6 49 yX2_passDaysFor cX2_passDaysFor 4 none 2 2 := ⟨⟨lg_m 721 (by decide +kernel) rfl, lg_m 724 (by decide +kernel) rfl, lg_m 70 (by decide +kernel) rfl, by decide +kernel, by decide +kernel, by decide +kernel⟩, lg_m 722 (by decide +kernel) rfl, lg_m 723 (by decide +kernel) rfl, _, _, rfl⟩
theorem mkL_91 : MKV RL 91 yX8_startFor cX8_startFor 4 (some (.int)) 3 8 := ⟨⟨lg_m 725 (by decide +kernel) rfl, lg_m 728 (by decide +kernel) rfl, lg_m 65 (by decide +kernel) rfl, by decide +kernel, by decide +kernel, by decide +kernel⟩, lg_m 726 (by decide +kernel) rfl, lg_m 727 (by decide +kernel) rfl, _, _, rfl⟩
theorem mkX8_196 : MKV RX8 196 yX6_seekStart cX6_seekStart 4 none 2 6 := ⟨⟨lg_m 729 (by decide +kernel) rfl, lg_m 732 (by decide +kernel) rfl, lg_m 72 (by decide +kernel) rfl, by decide +kernel, by decide +kernel, by decide +kernel⟩, lg_m 730 (by decide +kernel) rfl, lg_m 731 (by decide +kernel) rfl, _, _, rfl⟩
theorem mkL_96 : MKV RL 96 yX8_swapFor cX8_swapFor 3 (some (.int)) 2 8 := ⟨⟨lg_m 733 (by decide +kernel) rfl, lg_m 736 (by decide +kernel) rfl, lg_m 65 (by decide +kernel) rfl, by decide +kernel, by decide +kernel, by decide +kernel⟩, lg_m 734 (by decide +kernel) rfl, lg_m 735 (by decide +kernel) rfl, _, _, rfl⟩
theorem mkX8_205 : MKV RX8 205 yX6_seekSwap cX6_seekSwap 5 none 1 6 := ⟨⟨lg_m 737 (by decide +kernel) rfl, lg_m 740 (by decide +kernel) rfl, lg_m 72 (by decide +kernel) rfl, by decide +kernel, by decide +kernel, by decide +kernel⟩, lg_m 738 (by decide +kernel) rfl, lg_m 739 (by decide +kernel) rfl, _, _, rfl⟩
theorem mkX6_59 : MKV RX6 59 yX2_heardTogether cX2_heardTogether 3 (some (.int)) 0 2 := ⟨⟨lg_m 741 (by decide +kernel) rfl, lg_m 712 (by decide +kernel) rfl, lg_m 70 (by decide +kernel) rfl, by decide +kernel, by decide +kernel, by decide +kernel⟩, lg_m 710 (by decide +kernel) rfl, lg_m 711 (by decide +kernel) rfl, _, _, rfl⟩
theorem mkX6_63 : MKV RX6 63 yX2_changePlaces cX2_changePlaces 4 none 2 2 := ⟨⟨lg_m 742 (by decide +kernel) rfl, lg_m 745 (by decide +kernel) rfl, lg_m 70 (by decide +kernel) rfl, by decide +kernel, by decide +kernel, by decide +kernel⟩, lg_m 743 (by decide +kernel) rfl, lg_m 744 (by decide +kernel) rfl, _, _, rfl⟩
theorem mkX2_123 : MKS RX2 123 yX2_changeNumbers cX2_changeNumbers 4 none 3 := ⟨⟨lg_m 746 (by decide +kernel) rfl, lg_m 748 (by decide +kernel) rfl, lg_m 70 (by decide +kernel) rfl, by decide +kernel, by decide +kernel, by decide +kernel⟩, lg_m 747 (by decide +kernel) rfl⟩
theorem mkX2_127 : MKV RX2 127 yX2_putPast cX2_putPast 3 none 2 2 := ⟨⟨lg_m 749 (by decide +kernel) rfl, lg_m 436 (by decide +kernel) rfl, lg_m 70 (by decide +kernel) rfl, by decide +kernel, by decide +kernel, by decide +kernel⟩, lg_m 434 (by decide +kernel) rfl, lg_m 435 (by decide +kernel) rfl, _, _, rfl⟩
theorem mkL_100 : MKV RL 100 yX8_spare cX8_spare 4 (some (.int)) 2 8 := ⟨⟨lg_m 750 (by decide +kernel) rfl, lg_m 753 (by decide +kernel) rfl, lg_m 65 (by decide +kernel) rfl, by decide +kernel, by decide +kernel, by decide +kernel⟩, lg_m 751 (by decide +kernel) rfl, lg_m 752 (by decide +kernel) rfl, _, _, rfl⟩
theorem mkX8_208 : MKV RX8 208 yX6_fewestPast cX6_fewestPast 6 (some (.int)) 2 6 := ⟨⟨lg_m 754 (by decide +kernel) rfl, lg_m 757 (by decide +kernel) rfl, lg_m 72 (by decide +kernel) rfl, by decide +kernel, by decide +kernel, by decide +kernel⟩, lg_m 755 (by decide +kernel) rfl, lg_m 756 (by decide +kernel) rfl, _, _, rfl⟩
theorem mkX6_66 : MKS RX6 66 yJ6_bitCount_0f7a4 cJ6_bitCount_0f7a4 1 (some (.int)) 1 := ⟨⟨lg_m 758 (by decide +kernel) rfl, lg_m 760 (by decide +kernel) rfl, lg_m 82 (by decide +kernel) rfl, by decide +kernel, by decide +kernel, by decide +kernel⟩, lg_m 759 (by decide +kernel) rfl⟩
theorem mkX6_75 : MKV RX6 75 yX6_viewWithout cX6_viewWithout 4 (some (.int)) 2 6 := ⟨⟨lg_m 764 (by decide +kernel) rfl, lg_m 767 (by decide +kernel) rfl, lg_m 72 (by decide +kernel) rfl, by decide +kernel, by decide +kernel, by decide +kernel⟩, lg_m 766 (by decide +kernel) rfl, lg_m 20 (by decide +kernel) rfl, _, _, rfl⟩
theorem mkX6_79 : MKV RX6 79 yX2_carryOn cX2_carryOn 2 none 0 2 := ⟨⟨lg_m 768 (by decide +kernel) rfl, lg_m 667 (by decide +kernel) rfl, lg_m 70 (by decide +kernel) rfl, by decide +kernel, by decide +kernel, by decide +kernel⟩, lg_m 665 (by decide +kernel) rfl, lg_m 666 (by decide +kernel) rfl, _, _, rfl⟩
theorem mkL_104 : MKV RL 104 yX8_odds cX8_odds 8 (some (.int)) 4 8 := ⟨⟨lg_m 769 (by decide +kernel) rfl, lg_m 772 (by decide +kernel) rfl, lg_m 65 (by decide +kernel) rfl, by decide +kernel, by decide +kernel, by decide +kernel⟩, lg_m 770 (by decide +kernel) rfl, lg_m 771 (by decide +kernel) rfl, _, _, rfl⟩
theorem mkX8_211 : MKV RX8 211 yX6_likelyViews cX6_likelyViews 6 (some (.int)) 3 6 := ⟨⟨lg_m 773 (by decide +kernel) rfl, lg_m 776 (by decide +kernel) rfl, lg_m 72 (by decide +kernel) rfl, by decide +kernel, by decide +kernel, by decide +kernel⟩, lg_m 774 (by decide +kernel) rfl, lg_m 775 (by decide +kernel) rfl, _, _, rfl⟩
theorem mkX8_214 : MKS RX8 214 yX8_greatestShared cX8_greatestShared 3 (some (.int)) 2 := ⟨⟨lg_m 777 (by decide +kernel) rfl, lg_m 779 (by decide +kernel) rfl, lg_m 65 (by decide +kernel) rfl, by decide +kernel, by decide +kernel, by decide +kernel⟩, lg_m 778 (by decide +kernel) rfl⟩
theorem mkL_108 : MKV RL 108 yX8_fits cX8_fits 4 (some (.int)) 2 8 := ⟨⟨lg_m 780 (by decide +kernel) rfl, lg_m 783 (by decide +kernel) rfl, lg_m 65 (by decide +kernel) rfl, by decide +kernel, by decide +kernel, by decide +kernel⟩, lg_m 781 (by decide +kernel) rfl, lg_m 782 (by decide +kernel) rfl, _, _, rfl⟩
theorem mkX8_217 : MKS RX8 217 yX8_isSheet cX8_isSheet 1 (some (.boolean)) 1 := ⟨⟨lg_m 784 (by decide +kernel) rfl, lg_m 786 (by decide +kernel) rfl, lg_m 65 (by decide +kernel) rfl, by decide +kernel, by decide +kernel, by decide +kernel⟩, lg_m 785 (by decide +kernel) rfl⟩
theorem mkX8_220 : MKV RX8 220 yX4_isMissing cX4_isMissing 1 (some (.boolean)) 0 4 := ⟨⟨lg_m 787 (by decide +kernel) rfl, lg_m 790 (by decide +kernel) rfl, lg_m 74 (by decide +kernel) rfl, by decide +kernel, by decide +kernel, by decide +kernel⟩, lg_m 788 (by decide +kernel) rfl, lg_m 789 (by decide +kernel) rfl, _, _, rfl⟩
theorem mkX8_227 : MKV RX8 227 yX6_placesThatFit cX6_placesThatFit 4 (some (.int)) 1 6 := ⟨⟨lg_m 791 (by decide +kernel) rfl, lg_m 794 (by decide +kernel) rfl, lg_m 72 (by decide +kernel) rfl, by decide +kernel, by decide +kernel, by decide +kernel⟩, lg_m 792 (by decide +kernel) rfl, lg_m 793 (by decide +kernel) rfl, _, _, rfl⟩
theorem mkX6_85 : MKV RX6 85 yX6_isFitting cX6_isFitting 4 (some (.boolean)) 2 6 := ⟨⟨lg_m 795 (by decide +kernel) rfl, lg_m 798 (by decide +kernel) rfl, lg_m 72 (by decide +kernel) rfl, by decide +kernel, by decide +kernel, by decide +kernel⟩, lg_m 797 (by decide +kernel) rfl, lg_m 21 (by decide +kernel) rfl, _, _, rfl⟩
theorem mkX8_231 : MKS RX8 231 yJ6_bitCount_0f7a4 cJ6_bitCount_0f7a4 1 (some (.int)) 1 := ⟨⟨lg_m 799 (by decide +kernel) rfl, lg_m 760 (by decide +kernel) rfl, lg_m 82 (by decide +kernel) rfl, by decide +kernel, by decide +kernel, by decide +kernel⟩, lg_m 759 (by decide +kernel) rfl⟩
theorem mkL_112 : MKV RL 112 yX8_voice cX8_voice 5 (some (.int)) 3 8 := ⟨⟨lg_m 800 (by decide +kernel) rfl, lg_m 803 (by decide +kernel) rfl, lg_m 65 (by decide +kernel) rfl, by decide +kernel, by decide +kernel, by decide +kernel⟩, lg_m 801 (by decide +kernel) rfl, lg_m 802 (by decide +kernel) rfl, _, _, rfl⟩
theorem mkX8_236 : MKV RX8 236 yX7_answer cX7_answer 5 (some (.int)) 4 7 := ⟨⟨lg_m 804 (by decide +kernel) rfl, lg_m 807 (by decide +kernel) rfl, lg_m 73 (by decide +kernel) rfl, by decide +kernel, by decide +kernel, by decide +kernel⟩, lg_m 805 (by decide +kernel) rfl, lg_m 806 (by decide +kernel) rfl, _, _, rfl⟩
theorem mkX7_34 : MKV RX7 34 yX3_empty cX3_empty 1 none 0 3 := ⟨⟨lg_m 808 (by decide +kernel) rfl, lg_m 485 (by decide +kernel) rfl, lg_m 68 (by decide +kernel) rfl, by decide +kernel, by decide +kernel, by decide +kernel⟩, lg_m 483 (by decide +kernel) rfl, lg_m 484 (by decide +kernel) rfl, _, _, rfl⟩
theorem mkX7_46 : MKV RX7 46 yX7_speak cX7_speak 9 (some (.int)) 4 7 := ⟨⟨lg_m 809 (by decide +kernel) rfl, lg_m 812 (by decide +kernel) rfl, lg_m 73 (by decide +kernel) rfl, by decide +kernel, by decide +kernel, by decide +kernel⟩, lg_m 811 (by decide +kernel) rfl, lg_m 22 (by decide +kernel) rfl, _, _, rfl⟩
theorem mkX7_50 : MKS RX7 50 yX7_ownerOf cX7_ownerOf 4 (some (.int)) 2 := ⟨⟨lg_m 813 (by decide +kernel) rfl, lg_m 815 (by decide +kernel) rfl, lg_m 73 (by decide +kernel) rfl, by decide +kernel, by decide +kernel, by decide +kernel⟩, lg_m 814 (by decide +kernel) rfl⟩
theorem mkX7_60 : MKV RX7 60 yX3_add cX3_add 2 none 1 3 := ⟨⟨lg_m 819 (by decide +kernel) rfl, lg_m 468 (by decide +kernel) rfl, lg_m 68 (by decide +kernel) rfl, by decide +kernel, by decide +kernel, by decide +kernel⟩, lg_m 466 (by decide +kernel) rfl, lg_m 467 (by decide +kernel) rfl, _, _, rfl⟩
theorem mkX7_63 : MKV RX7 63 yX7_part cX7_part 2 (some (.int)) 1 7 := ⟨⟨lg_m 820 (by decide +kernel) rfl, lg_m 823 (by decide +kernel) rfl, lg_m 73 (by decide +kernel) rfl, by decide +kernel, by decide +kernel, by decide +kernel⟩, lg_m 822 (by decide +kernel) rfl, lg_m 23 (by decide +kernel) rfl, _, _, rfl⟩
theorem mkL_116 : MKV RL 116 yX8_body cX8_body 2 (some (.int)) 1 8 := ⟨⟨lg_m 824 (by decide +kernel) rfl, lg_m 827 (by decide +kernel) rfl, lg_m 65 (by decide +kernel) rfl, by decide +kernel, by decide +kernel, by decide +kernel⟩, lg_m 825 (by decide +kernel) rfl, lg_m 826 (by decide +kernel) rfl, _, _, rfl⟩
theorem mkX8_247 : MKV RX8 247 yX3_has cX3_has 2 (some (.boolean)) 1 3 := ⟨⟨lg_m 828 (by decide +kernel) rfl, lg_m 521 (by decide +kernel) rfl, lg_m 68 (by decide +kernel) rfl, by decide +kernel, by decide +kernel, by decide +kernel⟩, lg_m 519 (by decide +kernel) rfl, lg_m 520 (by decide +kernel) rfl, _, _, rfl⟩
theorem mkL_120 : MKV RL 120 yX8_sheet cX8_sheet 4 (some (.int)) 3 8 := ⟨⟨lg_m 829 (by decide +kernel) rfl, lg_m 832 (by decide +kernel) rfl, lg_m 65 (by decide +kernel) rfl, by decide +kernel, by decide +kernel, by decide +kernel⟩, lg_m 830 (by decide +kernel) rfl, lg_m 831 (by decide +kernel) rfl, _, _, rfl⟩
theorem mkX8_250 : MKS RX8 250 yX4_isWidth cX4_isWidth 1 (some (.boolean)) 1 := ⟨⟨lg_m 833 (by decide +kernel) rfl, lg_m 835 (by decide +kernel) rfl, lg_m 74 (by decide +kernel) rfl, by decide +kernel, by decide +kernel, by decide +kernel⟩, lg_m 834 (by decide +kernel) rfl⟩
theorem mkX8_253 : MKV RX8 253 yX4_layOut cX4_layOut 4 none 2 4 := ⟨⟨lg_m 836 (by decide +kernel) rfl, lg_m 839 (by decide +kernel) rfl, lg_m 74 (by decide +kernel) rfl, by decide +kernel, by decide +kernel, by decide +kernel⟩, lg_m 837 (by decide +kernel) rfl, lg_m 838 (by decide +kernel) rfl, _, _, rfl⟩
theorem mkX4_24 : MKV RX4 24 yX3_empty cX3_empty 1 none 0 3 := ⟨⟨lg_m 840 (by decide +kernel) rfl, lg_m 485 (by decide +kernel) rfl, lg_m 68 (by decide +kernel) rfl, by decide +kernel, by decide +kernel, by decide +kernel⟩, lg_m 483 (by decide +kernel) rfl, lg_m 484 (by decide +kernel) rfl, _, _, rfl⟩
theorem mkX4_27 : MKV RX4 27 yX3_add cX3_add 2 none 1 3 := ⟨⟨lg_m 841 (by decide +kernel) rfl, lg_m 468 (by decide +kernel) rfl, lg_m 68 (by decide +kernel) rfl, by decide +kernel, by decide +kernel, by decide +kernel⟩, lg_m 466 (by decide +kernel) rfl, lg_m 467 (by decide +kernel) rfl, _, _, rfl⟩
theorem mkL_124 : MKV RL 124 yX8_put cX8_put 5 (some (.int)) 3 8 := ⟨⟨lg_m 842 (by decide +kernel) rfl, lg_m 845 (by decide +kernel) rfl, lg_m 65 (by decide +kernel) rfl, by decide +kernel, by decide +kernel, by decide +kernel⟩, lg_m 843 (by decide +kernel) rfl, lg_m 844 (by decide +kernel) rfl, _, _, rfl⟩
theorem mkX8_256 : MKV RX8 256 yX4_lowestBits cX4_lowestBits 2 (some (.int)) 1 4 := ⟨⟨lg_m 846 (by decide +kernel) rfl, lg_m 849 (by decide +kernel) rfl, lg_m 74 (by decide +kernel) rfl, by decide +kernel, by decide +kernel, by decide +kernel⟩, lg_m 847 (by decide +kernel) rfl, lg_m 848 (by decide +kernel) rfl, _, _, rfl⟩
theorem mkL_128 : MKV RL 128 yX8_move cX8_move 8 (some (.int)) 5 8 := ⟨⟨lg_m 850 (by decide +kernel) rfl, lg_m 853 (by decide +kernel) rfl, lg_m 65 (by decide +kernel) rfl, by decide +kernel, by decide +kernel, by decide +kernel⟩, lg_m 851 (by decide +kernel) rfl, lg_m 852 (by decide +kernel) rfl, _, _, rfl⟩
theorem mkX8_262 : MKV RX8 262 yX3_hasRun cX3_hasRun 3 (some (.boolean)) 2 3 := ⟨⟨lg_m 854 (by decide +kernel) rfl, lg_m 857 (by decide +kernel) rfl, lg_m 68 (by decide +kernel) rfl, by decide +kernel, by decide +kernel, by decide +kernel⟩, lg_m 855 (by decide +kernel) rfl, lg_m 856 (by decide +kernel) rfl, _, _, rfl⟩
theorem mkL_133 : MKV RL 133 yX8_hearAll cX8_hearAll 2 (some (.int)) 1 8 := ⟨⟨lg_m 859 (by decide +kernel) rfl, lg_m 862 (by decide +kernel) rfl, lg_m 65 (by decide +kernel) rfl, by decide +kernel, by decide +kernel, by decide +kernel⟩, lg_m 860 (by decide +kernel) rfl, lg_m 861 (by decide +kernel) rfl, _, _, rfl⟩
theorem mkX8_271 : MKV RX8 271 yX2_takeHeard cX2_takeHeard 3 (some (.int)) 1 2 := ⟨⟨lg_m 863 (by decide +kernel) rfl, lg_m 866 (by decide +kernel) rfl, lg_m 70 (by decide +kernel) rfl, by decide +kernel, by decide +kernel, by decide +kernel⟩, lg_m 864 (by decide +kernel) rfl, lg_m 865 (by decide +kernel) rfl, _, _, rfl⟩
theorem mkL_137 : MKV RL 137 yX8_judge cX8_judge 2 (some (.int)) 1 8 := ⟨⟨lg_m 868 (by decide +kernel) rfl, lg_m 871 (by decide +kernel) rfl, lg_m 65 (by decide +kernel) rfl, by decide +kernel, by decide +kernel, by decide +kernel⟩, lg_m 869 (by decide +kernel) rfl, lg_m 870 (by decide +kernel) rfl, _, _, rfl⟩
theorem mkX8_274 : MKV RX8 274 yX2_rightTurns cX2_rightTurns 3 (some (.int)) 1 2 := ⟨⟨lg_m 872 (by decide +kernel) rfl, lg_m 875 (by decide +kernel) rfl, lg_m 70 (by decide +kernel) rfl, by decide +kernel, by decide +kernel, by decide +kernel⟩, lg_m 873 (by decide +kernel) rfl, lg_m 874 (by decide +kernel) rfl, _, _, rfl⟩
theorem mkL_141 : MKV RL 141 yX8_image cX8_image 1 (some (.int)) 0 8 := ⟨⟨lg_m 876 (by decide +kernel) rfl, lg_m 879 (by decide +kernel) rfl, lg_m 65 (by decide +kernel) rfl, by decide +kernel, by decide +kernel, by decide +kernel⟩, lg_m 877 (by decide +kernel) rfl, lg_m 878 (by decide +kernel) rfl, _, _, rfl⟩
theorem mkX8_277 : MKV RX8 277 yX5_takeOver cX5_takeOver 2 none 1 5 := ⟨⟨lg_m 880 (by decide +kernel) rfl, lg_m 883 (by decide +kernel) rfl, lg_m 66 (by decide +kernel) rfl, by decide +kernel, by decide +kernel, by decide +kernel⟩, lg_m 881 (by decide +kernel) rfl, lg_m 882 (by decide +kernel) rfl, _, _, rfl⟩
theorem mkX5_45 : MKV RX5 45 yX0_takeSteps cX0_takeSteps 2 none 1 0 := ⟨⟨lg_m 884 (by decide +kernel) rfl, lg_m 633 (by decide +kernel) rfl, lg_m 67 (by decide +kernel) rfl, by decide +kernel, by decide +kernel, by decide +kernel⟩, lg_m 631 (by decide +kernel) rfl, lg_m 632 (by decide +kernel) rfl, _, _, rfl⟩
theorem mkX5_49 : MKV RX5 49 yX2_takeOver cX2_takeOver 2 none 1 2 := ⟨⟨lg_m 885 (by decide +kernel) rfl, lg_m 704 (by decide +kernel) rfl, lg_m 70 (by decide +kernel) rfl, by decide +kernel, by decide +kernel, by decide +kernel⟩, lg_m 702 (by decide +kernel) rfl, lg_m 703 (by decide +kernel) rfl, _, _, rfl⟩
theorem mkX5_53 : MKV RX5 53 yX3_takeOver cX3_takeOver 3 none 1 3 := ⟨⟨lg_m 886 (by decide +kernel) rfl, lg_m 637 (by decide +kernel) rfl, lg_m 68 (by decide +kernel) rfl, by decide +kernel, by decide +kernel, by decide +kernel⟩, lg_m 635 (by decide +kernel) rfl, lg_m 636 (by decide +kernel) rfl, _, _, rfl⟩
theorem mkL_146 : MKV RL 146 yX8_restore cX8_restore 1 (some (.int)) 0 8 := ⟨⟨lg_m 887 (by decide +kernel) rfl, lg_m 890 (by decide +kernel) rfl, lg_m 65 (by decide +kernel) rfl, by decide +kernel, by decide +kernel, by decide +kernel⟩, lg_m 888 (by decide +kernel) rfl, lg_m 889 (by decide +kernel) rfl, _, _, rfl⟩
theorem mkL_150 : MKV RL 150 yX8_tell cX8_tell 2 (some (.int)) 1 8 := ⟨⟨lg_m 891 (by decide +kernel) rfl, lg_m 894 (by decide +kernel) rfl, lg_m 65 (by decide +kernel) rfl, by decide +kernel, by decide +kernel, by decide +kernel⟩, lg_m 892 (by decide +kernel) rfl, lg_m 893 (by decide +kernel) rfl, _, _, rfl⟩
theorem mkL_154 : MKV RL 154 yX8_check cX8_check 3 (some (.int)) 0 8 := ⟨⟨lg_m 895 (by decide +kernel) rfl, lg_m 898 (by decide +kernel) rfl, lg_m 65 (by decide +kernel) rfl, by decide +kernel, by decide +kernel, by decide +kernel⟩, lg_m 896 (by decide +kernel) rfl, lg_m 897 (by decide +kernel) rfl, _, _, rfl⟩
theorem mkX8_284 : MKV RX8 284 yX2_rightSaid cX2_rightSaid 3 (some (.int)) 1 2 := ⟨⟨lg_m 899 (by decide +kernel) rfl, lg_m 902 (by decide +kernel) rfl, lg_m 70 (by decide +kernel) rfl, by decide +kernel, by decide +kernel, by decide +kernel⟩, lg_m 900 (by decide +kernel) rfl, lg_m 901 (by decide +kernel) rfl, _, _, rfl⟩
theorem mkL_158 : MKV RL 158 yX8_count cX8_count 3 (some (.int)) 1 8 := ⟨⟨lg_m 903 (by decide +kernel) rfl, lg_m 906 (by decide +kernel) rfl, lg_m 65 (by decide +kernel) rfl, by decide +kernel, by decide +kernel, by decide +kernel⟩, lg_m 904 (by decide +kernel) rfl, lg_m 905 (by decide +kernel) rfl, _, _, rfl⟩
theorem mkL_162 : MKV RL 162 yX8_told cX8_told 2 (some (.int)) 1 8 := ⟨⟨lg_m 907 (by decide +kernel) rfl, lg_m 910 (by decide +kernel) rfl, lg_m 65 (by decide +kernel) rfl, by decide +kernel, by decide +kernel, by decide +kernel⟩, lg_m 908 (by decide +kernel) rfl, lg_m 909 (by decide +kernel) rfl, _, _, rfl⟩
theorem mkL_12 : MKI RL 12 yX9_init cX9_init 1 0 := ⟨⟨lg_m 913 (by decide +kernel) rfl, lg_m 915 (by decide +kernel) rfl, lg_m 75 (by decide +kernel) rfl, by decide +kernel, by decide +kernel, by decide +kernel⟩, lg_m 914 (by decide +kernel) rfl, rfl⟩
theorem mkL_53 : MKV RL 53 yX9_feed cX9_feed 5 (some (.int)) 2 9 := ⟨⟨lg_m 978 (by decide +kernel) rfl, lg_m 981 (by decide +kernel) rfl, lg_m 75 (by decide +kernel) rfl, by decide +kernel, by decide +kernel, by decide +kernel⟩, lg_m 979 (by decide +kernel) rfl, lg_m 980 (by decide +kernel) rfl, _, _, rfl⟩
theorem mkX9_47 : MKS RX9 47 yX9_in cX9_in 3 (some (.boolean)) 3 := ⟨⟨lg_m 982 (by decide +kernel) rfl, lg_m 984 (by decide +kernel) rfl, lg_m 75 (by decide +kernel) rfl, by decide +kernel, by decide +kernel, by decide +kernel⟩, lg_m 983 (by decide +kernel) rfl⟩
theorem mkX9_51 : MKV RX9 51 yX9_error cX9_error 2 (some (.int)) 1 9 := ⟨⟨lg_m 985 (by decide +kernel) rfl, lg_m 988 (by decide +kernel) rfl, lg_m 75 (by decide +kernel) rfl, by decide +kernel, by decide +kernel, by decide +kernel⟩, lg_m 987 (by decide +kernel) rfl, lg_m 24 (by decide +kernel) rfl, _, _, rfl⟩
theorem mkL_57 : MKV RL 57 yX9_text cX9_text 5 (some (.int)) 1 9 := ⟨⟨lg_m 991 (by decide +kernel) rfl, lg_m 994 (by decide +kernel) rfl, lg_m 75 (by decide +kernel) rfl, by decide +kernel, by decide +kernel, by decide +kernel⟩, lg_m 992 (by decide +kernel) rfl, lg_m 993 (by decide +kernel) rfl, _, _, rfl⟩
theorem mkX9_101 : MKV RX9 101 yX9_whole cX9_whole 1 (some (.boolean)) 0 9 := ⟨⟨lg_m 995 (by decide +kernel) rfl, lg_m 998 (by decide +kernel) rfl, lg_m 75 (by decide +kernel) rfl, by decide +kernel, by decide +kernel, by decide +kernel⟩, lg_m 997 (by decide +kernel) rfl, lg_m 25 (by decide +kernel) rfl, _, _, rfl⟩
theorem mkX9_67 : MKV RX9 67 yX9_both cX9_both 1 (some (.boolean)) 0 9 := ⟨⟨lg_m 999 (by decide +kernel) rfl, lg_m 1002 (by decide +kernel) rfl, lg_m 75 (by decide +kernel) rfl, by decide +kernel, by decide +kernel, by decide +kernel⟩, lg_m 1001 (by decide +kernel) rfl, lg_m 26 (by decide +kernel) rfl, _, _, rfl⟩
theorem mkX9_79 : MKV RX9 79 yX9_compared cX9_compared 2 (some (.boolean)) 0 9 := ⟨⟨lg_m 1003 (by decide +kernel) rfl, lg_m 1006 (by decide +kernel) rfl, lg_m 75 (by decide +kernel) rfl, by decide +kernel, by decide +kernel, by decide +kernel⟩, lg_m 1005 (by decide +kernel) rfl, lg_m 27 (by decide +kernel) rfl, _, _, rfl⟩
theorem mkX9_82 : MKV RX9 82 yX9_sum cX9_sum 2 (some (.boolean)) 0 9 := ⟨⟨lg_m 1007 (by decide +kernel) rfl, lg_m 1010 (by decide +kernel) rfl, lg_m 75 (by decide +kernel) rfl, by decide +kernel, by decide +kernel, by decide +kernel⟩, lg_m 1009 (by decide +kernel) rfl, lg_m 28 (by decide +kernel) rfl, _, _, rfl⟩
theorem mkX9_85 : MKV RX9 85 yX9_product cX9_product 2 (some (.boolean)) 0 9 := ⟨⟨lg_m 1011 (by decide +kernel) rfl, lg_m 1014 (by decide +kernel) rfl, lg_m 75 (by decide +kernel) rfl, by decide +kernel, by decide +kernel, by decide +kernel⟩, lg_m 1013 (by decide +kernel) rfl, lg_m 29 (by decide +kernel) rfl, _, _, rfl⟩
theorem mkX9_88 : MKV RX9 88 yX9_one cX9_one 4 (some (.boolean)) 0 9 := ⟨⟨lg_m 1015 (by decide +kernel) rfl, lg_m 1018 (by decide +kernel) rfl, lg_m 75 (by decide +kernel) rfl, by decide +kernel, by decide +kernel, by decide +kernel⟩, lg_m 1017 (by decide +kernel) rfl, lg_m 30 (by decide +kernel) rfl, _, _, rfl⟩
theorem mkX9_71 : MKV RX9 71 yX9_look cX9_look 1 (some (.int)) 0 9 := ⟨⟨lg_m 1019 (by decide +kernel) rfl, lg_m 1022 (by decide +kernel) rfl, lg_m 75 (by decide +kernel) rfl, by decide +kernel, by decide +kernel, by decide +kernel⟩, lg_m 1021 (by decide +kernel) rfl, lg_m 31 (by decide +kernel) rfl, _, _, rfl⟩
theorem mkX9_94 : MKV RX9 94 yX9_isName cX9_isName 2 (some (.boolean)) 1 9 := ⟨⟨lg_m 1023 (by decide +kernel) rfl, lg_m 1026 (by decide +kernel) rfl, lg_m 75 (by decide +kernel) rfl, by decide +kernel, by decide +kernel, by decide +kernel⟩, lg_m 1025 (by decide +kernel) rfl, lg_m 32 (by decide +kernel) rfl, _, _, rfl⟩
theorem mkX9_75 : MKV RX9 75 yX9_step1 cX9_step1 3 none 2 9 := ⟨⟨lg_m 1027 (by decide +kernel) rfl, lg_m 1030 (by decide +kernel) rfl, lg_m 75 (by decide +kernel) rfl, by decide +kernel, by decide +kernel, by decide +kernel⟩, lg_m 1029 (by decide +kernel) rfl, lg_m 33 (by decide +kernel) rfl, _, _, rfl⟩
theorem mkX9_98 : MKV RX9 98 yX9_opens cX9_opens 1 (some (.boolean)) 0 9 := ⟨⟨lg_m 1031 (by decide +kernel) rfl, lg_m 1034 (by decide +kernel) rfl, lg_m 75 (by decide +kernel) rfl, by decide +kernel, by decide +kernel, by decide +kernel⟩, lg_m 1033 (by decide +kernel) rfl, lg_m 34 (by decide +kernel) rfl, _, _, rfl⟩
theorem mkL_61 : MKV RL 61 yX9_untell cX9_untell 3 (some (.int)) 1 9 := ⟨⟨lg_m 1035 (by decide +kernel) rfl, lg_m 1038 (by decide +kernel) rfl, lg_m 75 (by decide +kernel) rfl, by decide +kernel, by decide +kernel, by decide +kernel⟩, lg_m 1036 (by decide +kernel) rfl, lg_m 1037 (by decide +kernel) rfl, _, _, rfl⟩
theorem mkX9_104 : MKV RX9 104 yX9_hasText cX9_hasText 2 (some (.boolean)) 1 9 := ⟨⟨lg_m 1039 (by decide +kernel) rfl, lg_m 1042 (by decide +kernel) rfl, lg_m 75 (by decide +kernel) rfl, by decide +kernel, by decide +kernel, by decide +kernel⟩, lg_m 1041 (by decide +kernel) rfl, lg_m 35 (by decide +kernel) rfl, _, _, rfl⟩
theorem mkL_17 : MKV RL 17 yX9_home cX9_home 3 (some (.int)) 1 9 := ⟨⟨lg_m 1043 (by decide +kernel) rfl, lg_m 1046 (by decide +kernel) rfl, lg_m 75 (by decide +kernel) rfl, by decide +kernel, by decide +kernel, by decide +kernel⟩, lg_m 1044 (by decide +kernel) rfl, lg_m 1045 (by decide +kernel) rfl, _, _, rfl⟩
theorem mkX9_153 : MKS RX9 153 yX9_isKm cX9_isKm 1 (some (.boolean)) 1 := ⟨⟨lg_m 1047 (by decide +kernel) rfl, lg_m 1049 (by decide +kernel) rfl, lg_m 75 (by decide +kernel) rfl, by decide +kernel, by decide +kernel, by decide +kernel⟩, lg_m 1048 (by decide +kernel) rfl⟩
theorem mkX9_143 : MKV RX9 143 yX9_lays1 cX9_lays1 4 none 3 9 := ⟨⟨lg_m 1050 (by decide +kernel) rfl, lg_m 1053 (by decide +kernel) rfl, lg_m 75 (by decide +kernel) rfl, by decide +kernel, by decide +kernel, by decide +kernel⟩, lg_m 1052 (by decide +kernel) rfl, lg_m 36 (by decide +kernel) rfl, _, _, rfl⟩
theorem mkL_22 : MKV RL 22 yX9_homeIs cX9_homeIs 3 (some (.int)) 2 9 := ⟨⟨lg_m 1054 (by decide +kernel) rfl, lg_m 1057 (by decide +kernel) rfl, lg_m 75 (by decide +kernel) rfl, by decide +kernel, by decide +kernel, by decide +kernel⟩, lg_m 1055 (by decide +kernel) rfl, lg_m 1056 (by decide +kernel) rfl, _, _, rfl⟩
theorem mkX9_156 : MKV RX9 156 yX9_isHome cX9_isHome 2 (some (.boolean)) 1 9 := ⟨⟨lg_m 1058 (by decide +kernel) rfl, lg_m 1061 (by decide +kernel) rfl, lg_m 75 (by decide +kernel) rfl, by decide +kernel, by decide +kernel, by decide +kernel⟩, lg_m 1060 (by decide +kernel) rfl, lg_m 37 (by decide +kernel) rfl, _, _, rfl⟩
theorem mkX9_134 : MKV RX9 134 yX9_saidAt cX9_saidAt 2 (some (.int)) 1 9 := ⟨⟨lg_m 1062 (by decide +kernel) rfl, lg_m 1065 (by decide +kernel) rfl, lg_m 75 (by decide +kernel) rfl, by decide +kernel, by decide +kernel, by decide +kernel⟩, lg_m 1064 (by decide +kernel) rfl, lg_m 38 (by decide +kernel) rfl, _, _, rfl⟩
theorem mkX9_124 : MKV RX9 124 yX9_tellsOf cX9_tellsOf 4 (some (.int)) 1 9 := ⟨⟨lg_m 1066 (by decide +kernel) rfl, lg_m 1069 (by decide +kernel) rfl, lg_m 75 (by decide +kernel) rfl, by decide +kernel, by decide +kernel, by decide +kernel⟩, lg_m 1068 (by decide +kernel) rfl, lg_m 39 (by decide +kernel) rfl, _, _, rfl⟩
theorem mkX9_111 : MKV RX9 111 yX9_its cX9_its 3 (some (.int)) 2 9 := ⟨⟨lg_m 1070 (by decide +kernel) rfl, lg_m 1073 (by decide +kernel) rfl, lg_m 75 (by decide +kernel) rfl, by decide +kernel, by decide +kernel, by decide +kernel⟩, lg_m 1072 (by decide +kernel) rfl, lg_m 40 (by decide +kernel) rfl, _, _, rfl⟩
theorem mkX9_127 : MKV RX9 127 yX9_givenBy cX9_givenBy 6 (some (.int)) 4 9 := ⟨⟨lg_m 1074 (by decide +kernel) rfl, lg_m 1077 (by decide +kernel) rfl, lg_m 75 (by decide +kernel) rfl, by decide +kernel, by decide +kernel, by decide +kernel⟩, lg_m 1076 (by decide +kernel) rfl, lg_m 41 (by decide +kernel) rfl, _, _, rfl⟩
theorem mkX9_115 : MKV RX9 115 yX9_worked cX9_worked 7 (some (.int)) 1 9 := ⟨⟨lg_m 1078 (by decide +kernel) rfl, lg_m 1081 (by decide +kernel) rfl, lg_m 75 (by decide +kernel) rfl, by decide +kernel, by decide +kernel, by decide +kernel⟩, lg_m 1080 (by decide +kernel) rfl, lg_m 42 (by decide +kernel) rfl, _, _, rfl⟩
theorem mkX9_107 : MKS RX9 107 yX9_joined cX9_joined 3 (some (.int)) 3 := ⟨⟨lg_m 1082 (by decide +kernel) rfl, lg_m 1084 (by decide +kernel) rfl, lg_m 75 (by decide +kernel) rfl, by decide +kernel, by decide +kernel, by decide +kernel⟩, lg_m 1083 (by decide +kernel) rfl⟩
theorem mkX9_118 : MKS RX9 118 yX9_held cX9_held 3 (some (.int)) 3 := ⟨⟨lg_m 1085 (by decide +kernel) rfl, lg_m 1087 (by decide +kernel) rfl, lg_m 75 (by decide +kernel) rfl, by decide +kernel, by decide +kernel, by decide +kernel⟩, lg_m 1086 (by decide +kernel) rfl⟩
theorem mkX9_121 : MKS RX9 121 yX9_restOf cX9_restOf 2 (some (.int)) 1 := ⟨⟨lg_m 1088 (by decide +kernel) rfl, lg_m 1090 (by decide +kernel) rfl, lg_m 75 (by decide +kernel) rfl, by decide +kernel, by decide +kernel, by decide +kernel⟩, lg_m 1089 (by decide +kernel) rfl⟩
theorem mkX9_137 : MKV RX9 137 yX9_behindAt cX9_behindAt 2 (some (.int)) 1 9 := ⟨⟨lg_m 1091 (by decide +kernel) rfl, lg_m 1094 (by decide +kernel) rfl, lg_m 75 (by decide +kernel) rfl, by decide +kernel, by decide +kernel, by decide +kernel⟩, lg_m 1093 (by decide +kernel) rfl, lg_m 43 (by decide +kernel) rfl, _, _, rfl⟩
theorem mkX9_131 : MKV RX9 131 yX9_leavesOf cX9_leavesOf 6 (some (.int)) 1 9 := ⟨⟨lg_m 1095 (by decide +kernel) rfl, lg_m 1098 (by decide +kernel) rfl, lg_m 75 (by decide +kernel) rfl, by decide +kernel, by decide +kernel, by decide +kernel⟩, lg_m 1097 (by decide +kernel) rfl, lg_m 44 (by decide +kernel) rfl, _, _, rfl⟩
theorem mkX9_140 : MKV RX9 140 yX9_bluntsOf cX9_bluntsOf 3 (some (.int)) 1 9 := ⟨⟨lg_m 1099 (by decide +kernel) rfl, lg_m 1102 (by decide +kernel) rfl, lg_m 75 (by decide +kernel) rfl, by decide +kernel, by decide +kernel, by decide +kernel⟩, lg_m 1101 (by decide +kernel) rfl, lg_m 45 (by decide +kernel) rfl, _, _, rfl⟩
theorem mkL_26 : MKV RL 26 yX9_become cX9_become 4 (some (.int)) 2 9 := ⟨⟨lg_m 1103 (by decide +kernel) rfl, lg_m 1106 (by decide +kernel) rfl, lg_m 75 (by decide +kernel) rfl, by decide +kernel, by decide +kernel, by decide +kernel⟩, lg_m 1104 (by decide +kernel) rfl, lg_m 1105 (by decide +kernel) rfl, _, _, rfl⟩
theorem mkL_30 : MKV RL 30 yX9_as cX9_as 5 (some (.int)) 2 9 := ⟨⟨lg_m 1107 (by decide +kernel) rfl, lg_m 1110 (by decide +kernel) rfl, lg_m 75 (by decide +kernel) rfl, by decide +kernel, by decide +kernel, by decide +kernel⟩, lg_m 1108 (by decide +kernel) rfl, lg_m 1109 (by decide +kernel) rfl, _, _, rfl⟩
theorem mkX9_159 : MKS RX9 159 yX9_above cX9_above 1 (some (.int)) 1 := ⟨⟨lg_m 1111 (by decide +kernel) rfl, lg_m 1113 (by decide +kernel) rfl, lg_m 75 (by decide +kernel) rfl, by decide +kernel, by decide +kernel, by decide +kernel⟩, lg_m 1112 (by decide +kernel) rfl⟩
theorem mkL_34 : MKV RL 34 yX9_past cX9_past 3 (some (.int)) 2 9 := ⟨⟨lg_m 1114 (by decide +kernel) rfl, lg_m 1117 (by decide +kernel) rfl, lg_m 75 (by decide +kernel) rfl, by decide +kernel, by decide +kernel, by decide +kernel⟩, lg_m 1115 (by decide +kernel) rfl, lg_m 1116 (by decide +kernel) rfl, _, _, rfl⟩
theorem mkX9_162 : MKV RX9 162 yX9_change1 cX9_change1 4 (some (.int)) 2 9 := ⟨⟨lg_m 1118 (by decide +kernel) rfl, lg_m 1121 (by decide +kernel) rfl, lg_m 75 (by decide +kernel) rfl, by decide +kernel, by decide +kernel, by decide +kernel⟩, lg_m 1120 (by decide +kernel) rfl, lg_m 46 (by decide +kernel) rfl, _, _, rfl⟩
theorem mkL_38 : MKV RL 38 yX9_goes cX9_goes 2 (some (.int)) 1 9 := ⟨⟨lg_m 1122 (by decide +kernel) rfl, lg_m 1125 (by decide +kernel) rfl, lg_m 75 (by decide +kernel) rfl, by decide +kernel, by decide +kernel, by decide +kernel⟩, lg_m 1123 (by decide +kernel) rfl, lg_m 1124 (by decide +kernel) rfl, _, _, rfl⟩
theorem mkL_42 : MKV RL 42 yX9_set cX9_set 4 (some (.int)) 2 9 := ⟨⟨lg_m 1126 (by decide +kernel) rfl, lg_m 1129 (by decide +kernel) rfl, lg_m 75 (by decide +kernel) rfl, by decide +kernel, by decide +kernel, by decide +kernel⟩, lg_m 1127 (by decide +kernel) rfl, lg_m 1128 (by decide +kernel) rfl, _, _, rfl⟩
theorem mkL_46 : MKV RL 46 yX9_hears cX9_hears 3 (some (.int)) 2 9 := ⟨⟨lg_m 1130 (by decide +kernel) rfl, lg_m 1133 (by decide +kernel) rfl, lg_m 75 (by decide +kernel) rfl, by decide +kernel, by decide +kernel, by decide +kernel⟩, lg_m 1131 (by decide +kernel) rfl, lg_m 1132 (by decide +kernel) rfl, _, _, rfl⟩
theorem mkL_66 : MKV RL 66 yX9_law cX9_law 5 (some (.int)) 4 9 := ⟨⟨lg_m 1134 (by decide +kernel) rfl, lg_m 1137 (by decide +kernel) rfl, lg_m 75 (by decide +kernel) rfl, by decide +kernel, by decide +kernel, by decide +kernel⟩, lg_m 1135 (by decide +kernel) rfl, lg_m 1136 (by decide +kernel) rfl, _, _, rfl⟩
theorem mkL_70 : MKV RL 70 yX9_days cX9_days 2 (some (.int)) 1 9 := ⟨⟨lg_m 1138 (by decide +kernel) rfl, lg_m 1141 (by decide +kernel) rfl, lg_m 75 (by decide +kernel) rfl, by decide +kernel, by decide +kernel, by decide +kernel⟩, lg_m 1139 (by decide +kernel) rfl, lg_m 1140 (by decide +kernel) rfl, _, _, rfl⟩
theorem mkX9_165 : MKV RX9 165 yX9_goesOn cX9_goesOn 3 none 1 9 := ⟨⟨lg_m 1142 (by decide +kernel) rfl, lg_m 1145 (by decide +kernel) rfl, lg_m 75 (by decide +kernel) rfl, by decide +kernel, by decide +kernel, by decide +kernel⟩, lg_m 1144 (by decide +kernel) rfl, lg_m 47 (by decide +kernel) rfl, _, _, rfl⟩
theorem mkX9_150 : MKV RX9 150 yX9_day1 cX9_day1 5 none 0 9 := ⟨⟨lg_m 1146 (by decide +kernel) rfl, lg_m 1149 (by decide +kernel) rfl, lg_m 75 (by decide +kernel) rfl, by decide +kernel, by decide +kernel, by decide +kernel⟩, lg_m 1148 (by decide +kernel) rfl, lg_m 48 (by decide +kernel) rfl, _, _, rfl⟩
theorem mkX9_147 : MKV RX9 147 yX9_nextOne cX9_nextOne 3 (some (.int)) 0 9 := ⟨⟨lg_m 1150 (by decide +kernel) rfl, lg_m 1153 (by decide +kernel) rfl, lg_m 75 (by decide +kernel) rfl, by decide +kernel, by decide +kernel, by decide +kernel⟩, lg_m 1152 (by decide +kernel) rfl, lg_m 49 (by decide +kernel) rfl, _, _, rfl⟩
theorem mkL_74 : MKV RL 74 yX9_loose cX9_loose 3 (some (.int)) 1 9 := ⟨⟨lg_m 1154 (by decide +kernel) rfl, lg_m 1157 (by decide +kernel) rfl, lg_m 75 (by decide +kernel) rfl, by decide +kernel, by decide +kernel, by decide +kernel⟩, lg_m 1155 (by decide +kernel) rfl, lg_m 1156 (by decide +kernel) rfl, _, _, rfl⟩
theorem mkL_78 : MKV RL 78 yX9_day cX9_day 2 (some (.int)) 1 9 := ⟨⟨lg_m 1159 (by decide +kernel) rfl, lg_m 1162 (by decide +kernel) rfl, lg_m 75 (by decide +kernel) rfl, by decide +kernel, by decide +kernel, by decide +kernel⟩, lg_m 1160 (by decide +kernel) rfl, lg_m 1161 (by decide +kernel) rfl, _, _, rfl⟩
theorem mkL_82 : MKV RL 82 yX9_seed cX9_seed 2 (some (.int)) 1 9 := ⟨⟨lg_m 1163 (by decide +kernel) rfl, lg_m 1166 (by decide +kernel) rfl, lg_m 75 (by decide +kernel) rfl, by decide +kernel, by decide +kernel, by decide +kernel⟩, lg_m 1164 (by decide +kernel) rfl, lg_m 1165 (by decide +kernel) rfl, _, _, rfl⟩
theorem mkL_86 : MKV RL 86 yX9_then cX9_then 4 (some (.int)) 2 9 := ⟨⟨lg_m 1167 (by decide +kernel) rfl, lg_m 1170 (by decide +kernel) rfl, lg_m 75 (by decide +kernel) rfl, by decide +kernel, by decide +kernel, by decide +kernel⟩, lg_m 1168 (by decide +kernel) rfl, lg_m 1169 (by decide +kernel) rfl, _, _, rfl⟩
theorem mkX9_170 : MKV RX9 170 yX9_saves cX9_saves 2 none 0 9 := ⟨⟨lg_m 1171 (by decide +kernel) rfl, lg_m 1174 (by decide +kernel) rfl, lg_m 75 (by decide +kernel) rfl, by decide +kernel, by decide +kernel, by decide +kernel⟩, lg_m 1173 (by decide +kernel) rfl, lg_m 50 (by decide +kernel) rfl, _, _, rfl⟩
theorem mkX9_173 : MKV RX9 173 yX9_heardAll cX9_heardAll 3 (some (.int)) 0 9 := ⟨⟨lg_m 1175 (by decide +kernel) rfl, lg_m 1178 (by decide +kernel) rfl, lg_m 75 (by decide +kernel) rfl, by decide +kernel, by decide +kernel, by decide +kernel⟩, lg_m 1177 (by decide +kernel) rfl, lg_m 51 (by decide +kernel) rfl, _, _, rfl⟩
theorem mkX9_176 : MKV RX9 176 yX9_putsBack cX9_putsBack 2 none 0 9 := ⟨⟨lg_m 1179 (by decide +kernel) rfl, lg_m 1182 (by decide +kernel) rfl, lg_m 75 (by decide +kernel) rfl, by decide +kernel, by decide +kernel, by decide +kernel⟩, lg_m 1181 (by decide +kernel) rfl, lg_m 52 (by decide +kernel) rfl, _, _, rfl⟩
theorem mkL_90 : MKV RL 90 yX9_soonest cX9_soonest 4 (some (.int)) 2 9 := ⟨⟨lg_m 1183 (by decide +kernel) rfl, lg_m 1186 (by decide +kernel) rfl, lg_m 75 (by decide +kernel) rfl, by decide +kernel, by decide +kernel, by decide +kernel⟩, lg_m 1184 (by decide +kernel) rfl, lg_m 1185 (by decide +kernel) rfl, _, _, rfl⟩
theorem mkL_95 : MKV RL 95 yX9_startFor cX9_startFor 8 (some (.int)) 3 9 := ⟨⟨lg_m 1187 (by decide +kernel) rfl, lg_m 1190 (by decide +kernel) rfl, lg_m 75 (by decide +kernel) rfl, by decide +kernel, by decide +kernel, by decide +kernel⟩, lg_m 1188 (by decide +kernel) rfl, lg_m 1189 (by decide +kernel) rfl, _, _, rfl⟩
theorem mkX9_179 : MKS RX9 179 yX9_isAsked cX9_isAsked 2 (some (.boolean)) 2 := ⟨⟨lg_m 1191 (by decide +kernel) rfl, lg_m 1193 (by decide +kernel) rfl, lg_m 75 (by decide +kernel) rfl, by decide +kernel, by decide +kernel, by decide +kernel⟩, lg_m 1192 (by decide +kernel) rfl⟩
theorem mkL_99 : MKV RL 99 yX9_swapFor cX9_swapFor 8 (some (.int)) 2 9 := ⟨⟨lg_m 1194 (by decide +kernel) rfl, lg_m 1197 (by decide +kernel) rfl, lg_m 75 (by decide +kernel) rfl, by decide +kernel, by decide +kernel, by decide +kernel⟩, lg_m 1195 (by decide +kernel) rfl, lg_m 1196 (by decide +kernel) rfl, _, _, rfl⟩
theorem mkX9_183 : MKV RX9 183 yX9_changePlaces cX9_changePlaces 5 none 2 9 := ⟨⟨lg_m 1198 (by decide +kernel) rfl, lg_m 1201 (by decide +kernel) rfl, lg_m 75 (by decide +kernel) rfl, by decide +kernel, by decide +kernel, by decide +kernel⟩, lg_m 1200 (by decide +kernel) rfl, lg_m 53 (by decide +kernel) rfl, _, _, rfl⟩
theorem mkL_103 : MKV RL 103 yX9_spare cX9_spare 6 (some (.int)) 2 9 := ⟨⟨lg_m 1202 (by decide +kernel) rfl, lg_m 1205 (by decide +kernel) rfl, lg_m 75 (by decide +kernel) rfl, by decide +kernel, by decide +kernel, by decide +kernel⟩, lg_m 1203 (by decide +kernel) rfl, lg_m 1204 (by decide +kernel) rfl, _, _, rfl⟩
theorem mkX9_186 : MKS RX9 186 yX9_ones cX9_ones 3 (some (.int)) 1 := ⟨⟨lg_m 1206 (by decide +kernel) rfl, lg_m 1208 (by decide +kernel) rfl, lg_m 75 (by decide +kernel) rfl, by decide +kernel, by decide +kernel, by decide +kernel⟩, lg_m 1207 (by decide +kernel) rfl⟩
theorem mkX9_189 : MKV RX9 189 yX9_viewWith cX9_viewWith 4 (some (.int)) 2 9 := ⟨⟨lg_m 1209 (by decide +kernel) rfl, lg_m 1212 (by decide +kernel) rfl, lg_m 75 (by decide +kernel) rfl, by decide +kernel, by decide +kernel, by decide +kernel⟩, lg_m 1211 (by decide +kernel) rfl, lg_m 54 (by decide +kernel) rfl, _, _, rfl⟩
theorem mkL_107 : MKV RL 107 yX9_odds cX9_odds 7 (some (.int)) 4 9 := ⟨⟨lg_m 1213 (by decide +kernel) rfl, lg_m 1216 (by decide +kernel) rfl, lg_m 75 (by decide +kernel) rfl, by decide +kernel, by decide +kernel, by decide +kernel⟩, lg_m 1214 (by decide +kernel) rfl, lg_m 1215 (by decide +kernel) rfl, _, _, rfl⟩
theorem mkX9_192 : MKS RX9 192 yX9_common cX9_common 5 (some (.int)) 2 := ⟨⟨lg_m 1217 (by decide +kernel) rfl, lg_m 1219 (by decide +kernel) rfl, lg_m 75 (by decide +kernel) rfl, by decide +kernel, by decide +kernel, by decide +kernel⟩, lg_m 1218 (by decide +kernel) rfl⟩
theorem mkL_111 : MKV RL 111 yX9_fits cX9_fits 7 (some (.int)) 2 9 := ⟨⟨lg_m 1220 (by decide +kernel) rfl, lg_m 1223 (by decide +kernel) rfl, lg_m 75 (by decide +kernel) rfl, by decide +kernel, by decide +kernel, by decide +kernel⟩, lg_m 1221 (by decide +kernel) rfl, lg_m 1222 (by decide +kernel) rfl, _, _, rfl⟩
theorem mkX9_195 : MKS RX9 195 yX9_isSheet cX9_isSheet 1 (some (.boolean)) 1 := ⟨⟨lg_m 1224 (by decide +kernel) rfl, lg_m 1226 (by decide +kernel) rfl, lg_m 75 (by decide +kernel) rfl, by decide +kernel, by decide +kernel, by decide +kernel⟩, lg_m 1225 (by decide +kernel) rfl⟩
theorem mkL_115 : MKV RL 115 yX9_voice cX9_voice 6 (some (.int)) 3 9 := ⟨⟨lg_m 1227 (by decide +kernel) rfl, lg_m 1230 (by decide +kernel) rfl, lg_m 75 (by decide +kernel) rfl, by decide +kernel, by decide +kernel, by decide +kernel⟩, lg_m 1228 (by decide +kernel) rfl, lg_m 1229 (by decide +kernel) rfl, _, _, rfl⟩
theorem mkX9_210 : MKV RX9 210 yX9_kindNow cX9_kindNow 1 (some (.int)) 0 9 := ⟨⟨lg_m 1231 (by decide +kernel) rfl, lg_m 1234 (by decide +kernel) rfl, lg_m 75 (by decide +kernel) rfl, by decide +kernel, by decide +kernel, by decide +kernel⟩, lg_m 1233 (by decide +kernel) rfl, lg_m 55 (by decide +kernel) rfl, _, _, rfl⟩
theorem mkX9_207 : MKV RX9 207 yX9_cutsAs cX9_cutsAs 3 (some (.int)) 2 9 := ⟨⟨lg_m 1235 (by decide +kernel) rfl, lg_m 1238 (by decide +kernel) rfl, lg_m 75 (by decide +kernel) rfl, by decide +kernel, by decide +kernel, by decide +kernel⟩, lg_m 1237 (by decide +kernel) rfl, lg_m 56 (by decide +kernel) rfl, _, _, rfl⟩
theorem mkX9_204 : MKV RX9 204 yX9_begins cX9_begins 2 none 1 9 := ⟨⟨lg_m 1239 (by decide +kernel) rfl, lg_m 1242 (by decide +kernel) rfl, lg_m 75 (by decide +kernel) rfl, by decide +kernel, by decide +kernel, by decide +kernel⟩, lg_m 1241 (by decide +kernel) rfl, lg_m 57 (by decide +kernel) rfl, _, _, rfl⟩
theorem mkX9_213 : MKV RX9 213 yX9_saysAs cX9_saysAs 3 (some (.int)) 2 9 := ⟨⟨lg_m 1243 (by decide +kernel) rfl, lg_m 1246 (by decide +kernel) rfl, lg_m 75 (by decide +kernel) rfl, by decide +kernel, by decide +kernel, by decide +kernel⟩, lg_m 1245 (by decide +kernel) rfl, lg_m 58 (by decide +kernel) rfl, _, _, rfl⟩
theorem mkX9_216 : MKV RX9 216 yX9_mNow cX9_mNow 1 (some (.int)) 0 9 := ⟨⟨lg_m 1247 (by decide +kernel) rfl, lg_m 1250 (by decide +kernel) rfl, lg_m 75 (by decide +kernel) rfl, by decide +kernel, by decide +kernel, by decide +kernel⟩, lg_m 1249 (by decide +kernel) rfl, lg_m 59 (by decide +kernel) rfl, _, _, rfl⟩
theorem mkX9_219 : MKV RX9 219 yX9_steelsAs cX9_steelsAs 3 (some (.int)) 2 9 := ⟨⟨lg_m 1251 (by decide +kernel) rfl, lg_m 1254 (by decide +kernel) rfl, lg_m 75 (by decide +kernel) rfl, by decide +kernel, by decide +kernel, by decide +kernel⟩, lg_m 1253 (by decide +kernel) rfl, lg_m 60 (by decide +kernel) rfl, _, _, rfl⟩
theorem mkX9_226 : MKV RX9 226 yX9_partsAs cX9_partsAs 5 (some (.int)) 2 9 := ⟨⟨lg_m 1255 (by decide +kernel) rfl, lg_m 1258 (by decide +kernel) rfl, lg_m 75 (by decide +kernel) rfl, by decide +kernel, by decide +kernel, by decide +kernel⟩, lg_m 1257 (by decide +kernel) rfl, lg_m 61 (by decide +kernel) rfl, _, _, rfl⟩
theorem mkL_119 : MKV RL 119 yX9_body cX9_body 2 (some (.int)) 1 9 := ⟨⟨lg_m 1259 (by decide +kernel) rfl, lg_m 1262 (by decide +kernel) rfl, lg_m 75 (by decide +kernel) rfl, by decide +kernel, by decide +kernel, by decide +kernel⟩, lg_m 1260 (by decide +kernel) rfl, lg_m 1261 (by decide +kernel) rfl, _, _, rfl⟩
theorem mkL_123 : MKV RL 123 yX9_sheet cX9_sheet 5 (some (.int)) 3 9 := ⟨⟨lg_m 1263 (by decide +kernel) rfl, lg_m 1266 (by decide +kernel) rfl, lg_m 75 (by decide +kernel) rfl, by decide +kernel, by decide +kernel, by decide +kernel⟩, lg_m 1264 (by decide +kernel) rfl, lg_m 1265 (by decide +kernel) rfl, _, _, rfl⟩
theorem mkL_127 : MKV RL 127 yX9_put cX9_put 5 (some (.int)) 3 9 := ⟨⟨lg_m 1267 (by decide +kernel) rfl, lg_m 1270 (by decide +kernel) rfl, lg_m 75 (by decide +kernel) rfl, by decide +kernel, by decide +kernel, by decide +kernel⟩, lg_m 1268 (by decide +kernel) rfl, lg_m 1269 (by decide +kernel) rfl, _, _, rfl⟩
theorem mkL_132 : MKV RL 132 yX9_move cX9_move 7 (some (.int)) 5 9 := ⟨⟨lg_m 1271 (by decide +kernel) rfl, lg_m 1274 (by decide +kernel) rfl, lg_m 75 (by decide +kernel) rfl, by decide +kernel, by decide +kernel, by decide +kernel⟩, lg_m 1272 (by decide +kernel) rfl, lg_m 1273 (by decide +kernel) rfl, _, _, rfl⟩
theorem mkL_136 : MKV RL 136 yX9_hearAll cX9_hearAll 4 (some (.int)) 1 9 := ⟨⟨lg_m 1275 (by decide +kernel) rfl, lg_m 1278 (by decide +kernel) rfl, lg_m 75 (by decide +kernel) rfl, by decide +kernel, by decide +kernel, by decide +kernel⟩, lg_m 1276 (by decide +kernel) rfl, lg_m 1277 (by decide +kernel) rfl, _, _, rfl⟩
theorem mkX9_229 : MKV RX9 229 yX9_lacks cX9_lacks 2 (some (.int)) 1 9 := ⟨⟨lg_m 1279 (by decide +kernel) rfl, lg_m 1282 (by decide +kernel) rfl, lg_m 75 (by decide +kernel) rfl, by decide +kernel, by decide +kernel, by decide +kernel⟩, lg_m 1281 (by decide +kernel) rfl, lg_m 62 (by decide +kernel) rfl, _, _, rfl⟩
theorem mkL_140 : MKV RL 140 yX9_judge cX9_judge 4 (some (.int)) 1 9 := ⟨⟨lg_m 1283 (by decide +kernel) rfl, lg_m 1286 (by decide +kernel) rfl, lg_m 75 (by decide +kernel) rfl, by decide +kernel, by decide +kernel, by decide +kernel⟩, lg_m 1284 (by decide +kernel) rfl, lg_m 1285 (by decide +kernel) rfl, _, _, rfl⟩
theorem mkL_145 : MKV RL 145 yX9_image cX9_image 1 (some (.int)) 0 9 := ⟨⟨lg_m 1287 (by decide +kernel) rfl, lg_m 1290 (by decide +kernel) rfl, lg_m 75 (by decide +kernel) rfl, by decide +kernel, by decide +kernel, by decide +kernel⟩, lg_m 1288 (by decide +kernel) rfl, lg_m 1289 (by decide +kernel) rfl, _, _, rfl⟩
theorem mkX9_232 : MKS RX9 232 yX9_copyAll cX9_copyAll 3 none 2 := ⟨⟨lg_m 1291 (by decide +kernel) rfl, lg_m 1293 (by decide +kernel) rfl, lg_m 75 (by decide +kernel) rfl, by decide +kernel, by decide +kernel, by decide +kernel⟩, lg_m 1292 (by decide +kernel) rfl⟩
theorem mkL_149 : MKV RL 149 yX9_restore cX9_restore 1 (some (.int)) 0 9 := ⟨⟨lg_m 1294 (by decide +kernel) rfl, lg_m 1297 (by decide +kernel) rfl, lg_m 75 (by decide +kernel) rfl, by decide +kernel, by decide +kernel, by decide +kernel⟩, lg_m 1295 (by decide +kernel) rfl, lg_m 1296 (by decide +kernel) rfl, _, _, rfl⟩
theorem mkL_153 : MKV RL 153 yX9_tell cX9_tell 2 (some (.int)) 1 9 := ⟨⟨lg_m 1298 (by decide +kernel) rfl, lg_m 1301 (by decide +kernel) rfl, lg_m 75 (by decide +kernel) rfl, by decide +kernel, by decide +kernel, by decide +kernel⟩, lg_m 1299 (by decide +kernel) rfl, lg_m 1300 (by decide +kernel) rfl, _, _, rfl⟩
theorem mkL_157 : MKV RL 157 yX9_check cX9_check 3 (some (.int)) 0 9 := ⟨⟨lg_m 1302 (by decide +kernel) rfl, lg_m 1305 (by decide +kernel) rfl, lg_m 75 (by decide +kernel) rfl, by decide +kernel, by decide +kernel, by decide +kernel⟩, lg_m 1303 (by decide +kernel) rfl, lg_m 1304 (by decide +kernel) rfl, _, _, rfl⟩
theorem mkL_161 : MKV RL 161 yX9_count cX9_count 2 (some (.int)) 1 9 := ⟨⟨lg_m 1306 (by decide +kernel) rfl, lg_m 1309 (by decide +kernel) rfl, lg_m 75 (by decide +kernel) rfl, by decide +kernel, by decide +kernel, by decide +kernel⟩, lg_m 1307 (by decide +kernel) rfl, lg_m 1308 (by decide +kernel) rfl, _, _, rfl⟩
theorem mkX9_239 : MKV RX9 239 yX9_pastNow cX9_pastNow 3 (some (.int)) 0 9 := ⟨⟨lg_m 1310 (by decide +kernel) rfl, lg_m 1313 (by decide +kernel) rfl, lg_m 75 (by decide +kernel) rfl, by decide +kernel, by decide +kernel, by decide +kernel⟩, lg_m 1312 (by decide +kernel) rfl, lg_m 63 (by decide +kernel) rfl, _, _, rfl⟩
theorem mkL_165 : MKV RL 165 yX9_told cX9_told 2 (some (.int)) 1 9 := ⟨⟨lg_m 1314 (by decide +kernel) rfl, lg_m 1317 (by decide +kernel) rfl, lg_m 75 (by decide +kernel) rfl, by decide +kernel, by decide +kernel, by decide +kernel⟩, lg_m 1315 (by decide +kernel) rfl, lg_m 1316 (by decide +kernel) rfl, _, _, rfl⟩
theorem iniL : Cond.initialized RL ∈ lw_g := lg_m 64 (by decide +kernel) rfl
theorem iniX8 : Cond.initialized RX8 ∈ lw_g := lg_m 65 (by decide +kernel) rfl
theorem iniX5 : Cond.initialized RX5 ∈ lw_g := lg_m 66 (by decide +kernel) rfl
theorem iniX0 : Cond.initialized RX0 ∈ lw_g := lg_m 67 (by decide +kernel) rfl
theorem iniX3 : Cond.initialized RX3 ∈ lw_g := lg_m 68 (by decide +kernel) rfl
theorem iniJ9 : Cond.initialized RJ9 ∈ lw_g := lg_m 69 (by decide +kernel) rfl
theorem iniX2 : Cond.initialized RX2 ∈ lw_g := lg_m 70 (by decide +kernel) rfl
theorem iniX1 : Cond.initialized RX1 ∈ lw_g := lg_m 71 (by decide +kernel) rfl
theorem iniX6 : Cond.initialized RX6 ∈ lw_g := lg_m 72 (by decide +kernel) rfl
theorem iniX7 : Cond.initialized RX7 ∈ lw_g := lg_m 73 (by decide +kernel) rfl
theorem iniX4 : Cond.initialized RX4 ∈ lw_g := lg_m 74 (by decide +kernel) rfl
theorem iniX9 : Cond.initialized RX9 ∈ lw_g := lg_m 75 (by decide +kernel) rfl
theorem iniJ0 : Cond.initialized RJ0 ∈ lw_g := lg_m 76 (by decide +kernel) rfl
theorem iniJ1 : Cond.initialized RJ1 ∈ lw_g := lg_m 77 (by decide +kernel) rfl
theorem iniJ2 : Cond.initialized RJ2 ∈ lw_g := lg_m 78 (by decide +kernel) rfl
theorem iniJ3 : Cond.initialized RJ3 ∈ lw_g := lg_m 79 (by decide +kernel) rfl
theorem iniJ11 : Cond.initialized RJ11 ∈ lw_g := lg_m 80 (by decide +kernel) rfl
theorem iniJ10 : Cond.initialized RJ10 ∈ lw_g := lg_m 81 (by decide +kernel) rfl
theorem iniJ6 : Cond.initialized RJ6 ∈ lw_g := lg_m 82 (by decide +kernel) rfl
theorem clL_7 : Cond.classLink RL 7 "LoanedRound" ∈ lw_g := lg_m 83 (by decide +kernel) rfl
theorem insX8 : Cond.instantiable RX8 8 ∈ lw_g := lg_m 84 (by decide +kernel) rfl
theorem clX8_7 : Cond.classLink RX8 7 "LoanedRound$State" ∈ lw_g := lg_m 91 (by decide +kernel) rfl
theorem insX5 : Cond.instantiable RX5 5 ∈ lw_g := lg_m 92 (by decide +kernel) rfl
theorem clX5_9 : Cond.classLink RX5 9 "LoanedRound$Law" ∈ lw_g := lg_m 97 (by decide +kernel) rfl
theorem insX0 : Cond.instantiable RX0 3 ∈ lw_g := lg_m 98 (by decide +kernel) rfl
theorem clX0_9 : Cond.classLink RX0 9 "LoanedRound$Row" ∈ lw_g := lg_m 103 (by decide +kernel) rfl
theorem insX3 : Cond.instantiable RX3 2 ∈ lw_g := lg_m 104 (by decide +kernel) rfl
theorem arrC_64 : Cond.arrayClass Jvm.ClassFile.FieldType.int ∈ lw_g := lg_m 128 (by decide +kernel) rfl
theorem clX5_23 : Cond.classLink RX5 23 "LoanedRound$Round" ∈ lw_g := lg_m 141 (by decide +kernel) rfl
theorem insX2 : Cond.instantiable RX2 14 ∈ lw_g := lg_m 142 (by decide +kernel) rfl
theorem clX5_32 : Cond.classLink RX5 32 "LoanedRound$Row" ∈ lw_g := lg_m 211 (by decide +kernel) rfl
theorem clX8_19 : Cond.classLink RX8 19 "LoanedRound$Reader" ∈ lw_g := lg_m 232 (by decide +kernel) rfl
theorem insX1 : Cond.instantiable RX1 5 ∈ lw_g := lg_m 233 (by decide +kernel) rfl
theorem clX1_9 : Cond.classLink RX1 9 "LoanedRound$Row" ∈ lw_g := lg_m 238 (by decide +kernel) rfl
-- Jvm.Cond.arrayClass Jvm.ClassFile.FieldType.byte
theorem clX8_26 : Cond.classLink RX8 26 "LoanedRound$Thought" ∈ lw_g := lg_m 259 (by decide +kernel) rfl
theorem insX6 : Cond.instantiable RX6 4 ∈ lw_g := lg_m 260 (by decide +kernel) rfl
theorem clX6_22 : Cond.classLink RX6 22 "LoanedRound$Round" ∈ lw_g := lg_m 265 (by decide +kernel) rfl
theorem clX8_39 : Cond.classLink RX8 39 "LoanedRound$Voices" ∈ lw_g := lg_m 282 (by decide +kernel) rfl
theorem insX7 : Cond.instantiable RX7 5 ∈ lw_g := lg_m 283 (by decide +kernel) rfl
theorem clX7_9 : Cond.classLink RX7 9 "LoanedRound$Row" ∈ lw_g := lg_m 288 (by decide +kernel) rfl
theorem clX8_46 : Cond.classLink RX8 46 "LoanedRound$Sheet" ∈ lw_g := lg_m 308 (by decide +kernel) rfl
theorem insX4 : Cond.instantiable RX4 2 ∈ lw_g := lg_m 310 (by decide +kernel) rfl
theorem clX4_9 : Cond.classLink RX4 9 "LoanedRound$Row" ∈ lw_g := lg_m 315 (by decide +kernel) rfl
theorem kkX8_293 : Cond.constant RX8 293 (-1000000000) ∈ lw_g := lg_m 362 (by decide +kernel) rfl
theorem kkJ2_227 : Cond.constant RJ2 227 (65536) ∈ lw_g := lg_m 569 (by decide +kernel) rfl
theorem kkJ11_110 : Cond.constant RJ11 110 (55232) ∈ lw_g := lg_m 608 (by decide +kernel) rfl
theorem kkJ11_76 : Cond.constant RJ11 76 (56320) ∈ lw_g := lg_m 612 (by decide +kernel) rfl
theorem kkX2_110 : Cond.constant RX2 110 (1103515245) ∈ lw_g := lg_m 684 (by decide +kernel) rfl
theorem kkJ6_265 : Cond.constant RJ6 265 (1431655765) ∈ lw_g := lg_m 761 (by decide +kernel) rfl
theorem kkJ6_266 : Cond.constant RJ6 266 (858993459) ∈ lw_g := lg_m 762 (by decide +kernel) rfl
theorem kkJ6_267 : Cond.constant RJ6 267 (252645135) ∈ lw_g := lg_m 763 (by decide +kernel) rfl
theorem clL_10 : Cond.classLink RL 10 "LoanedRoundModel" ∈ lw_g := lg_m 911 (by decide +kernel) rfl
theorem insX9 : Cond.instantiable RX9 20 ∈ lw_g := lg_m 912 (by decide +kernel) rfl
theorem kkX9_46 : Cond.constant RX9 46 (-1000000000) ∈ lw_g := lg_m 989 (by decide +kernel) rfl
theorem kkX9_55 : Cond.constantLong RX9 55 (255) ∈ lw_g := lg_m 990 (by decide +kernel) rfl
theorem kkX9_169 : Cond.constant RX9 169 (1103515245) ∈ lw_g := lg_m 1158 (by decide +kernel) rfl
theorem kkL_47 : Cond.constantLong RL 47 (4294967295) ∈ lw_g := lg_m 1318 (by decide +kernel) rfl
end
section
/-! THE ABSTRACT MACHINE: the cells of a world are named by their places in a list (a reference to cell i is '.ref i'); constants of the class files, that nobody writes, are '.retAddr k'. -/
abbrev AE : Type := (Nat × vp_A) ⊕ (Nat × List Value)
abbrev AV : Type := Program × Launch × Env × State × MethodId × Array Value × List Frame × Method × Code × va_G × (Nat → ClassId) × (Nat → Nat) × (Nat → Prop)
def cv (ad sa : Nat → Nat) (v : Value) : Value := match v with
  | .ref i => .ref (ad i)
  | .retAddr k => .ref (sa k)
  | .int x => .int x
  | .long x => .long x
  | .float x => .float x
  | .double x => .double x
  | .null => .null
def ca (ad : Nat → Nat) (a : vp_A) : vp_A := match a with
  | (n, .inl f) => (n, .inl f)
  | (n, .inr (.inl f)) => (n, .inr (.inl f))
  | (n, .inr (.inr (.inl f))) => (n, .inr (.inr (.inl f)))
  | (n, .inr (.inr (.inr (.inl f)))) => (n, .inr (.inr (.inr (.inl f))))
  | (n, .inr (.inr (.inr (.inr f)))) => (n, .inr (.inr (.inr (.inr (fun j => (f j).map ad)))))
def ce (ad sa : Nat → Nat) (tc : Nat → ClassId) (e : AE) : va_E := match e with
  | .inl (k, a) => .inl (tc k, ca ad a)
  | .inr (c, fs) => .inr (c, fs.map (cv ad sa))
def cw (ad sa : Nat → Nat) (tc : Nat → ClassId) (h : List AE) : va_W := h.mapIdx (fun i e => (ad i, ce ad sa tc e))
def cl' (ad sa : Nat → Nat) (q : Nat × Value) : Nat × Value := (q.1, cv ad sa q.2)
def getO {α : Type} : List α → Nat → Option α
  | [], _ => none
  | a :: _, 0 => some a
  | _ :: l, k + 1 => getO l k
def setO {α : Type} : List α → Nat → α → Option (List α)
  | [], _, _ => none
  | _ :: l, 0, e => some (e :: l)
  | a :: l, k + 1, e => match setO l k e with
    | some l' => some (a :: l')
    | none => none
theorem getO_eq {α : Type} : ∀ (l : List α) (k : Nat), getO l k = l[k]?
  | [], _ => by simp [getO]
  | _ :: _, 0 => by simp [getO]
  | _ :: l, k + 1 => by simp [getO, getO_eq l k]
theorem setO_eq {α : Type} : ∀ (l : List α) (k : Nat) (e : α) (l' : List α), setO l k e = some l' → l' = l.set k e ∧ k < l.length
  | [], _, _, _, h => by simp [setO] at h
  | _ :: l, 0, e, l', h => by
    simp only [setO, Option.some.injEq] at h
    subst h
    exact ⟨rfl, Nat.zero_lt_succ _⟩
  | a :: l, k + 1, e, l', h => by
    cases h2 : setO l k e with
    | none => simp [setO, h2] at h
    | some l2 =>
      simp only [setO, h2, Option.some.injEq] at h
      obtain ⟨h3, h4⟩ := setO_eq l k e l2 h2
      subst h
      rw [h3]
      exact ⟨rfl, Nat.succ_lt_succ h4⟩
def gets (h : List AE) : List Nat → Option (List AE)
  | [] => some []
  | i :: is => match getO h i with
    | none => none
    | some e => match gets h is with
      | none => none
      | some r => some (e :: r)
/-- the callee's cells behind the call, written back at their places -/
def wbO : List Nat → List AE → List AE → Option (List AE)
  | [], _, h => some h
  | i :: is, e :: r, h => match setO h i e with
    | some h' => wbO is r h'
    | none => none
  | _ :: _, [], _ => none
def lvG : List (Nat × Value) → Nat → Option Value
  | [], _ => none
  | (k, v) :: l, i => match Nat.beq k i with
    | true => some v
    | false => lvG l i
def cat2 : Value → Bool
  | .long _ => true
  | .double _ => true
  | _ => false
def lvF : List (Nat × Value) → Nat → Option (List (Nat × Value))
  | [], _ => some []
  | (k, w) :: l, i => match lvF l i with
    | none => none
    | some l' => match Nat.beq k i || (Nat.beq (k + 1) i && cat2 w) with
      | true => some l'
      | false => some ((k, w) :: l')
def lvP (lv : List (Nat × Value)) : List Nat → Option (List (Nat × Value))
  | [] => some []
  | k :: ks => match lvG lv k with
    | none => none
    | some v => match lvP lv ks with
      | none => none
      | some r => some ((k, v) :: r)
theorem lvG_mem : ∀ (l : List (Nat × Value)) (i : Nat) (v : Value), lvG l i = some v → (i, v) ∈ l
  | [], _, _, h => by simp [lvG] at h
  | (k, w) :: l, i, v, h => by
    cases hb : Nat.beq k i with
    | true =>
      simp only [lvG, hb, Option.some.injEq] at h
      subst h
      rw [Nat.eq_of_beq_eq_true hb]
      exact List.mem_cons_self
    | false =>
      simp only [lvG, hb] at h
      exact List.mem_cons_of_mem _ (lvG_mem l i v h)
theorem cat2_eq (v : Value) : cat2 v = (v.category == 2) := by cases v <;> rfl
theorem lvF_mem : ∀ (l : List (Nat × Value)) (i : Nat) (l' : List (Nat × Value)), lvF l i = some l' → ∀ q ∈ l', q ∈ l ∧ (!(q.1 == i) && !(q.1 + 1 == i && q.2.category == 2)) = true
  | [], _, _, h, q, hq => by
    simp only [lvF, Option.some.injEq] at h
    subst h
    cases hq
  | (k, w) :: l, i, l', h, q, hq => by
    cases h2 : lvF l i with
    | none => simp [lvF, h2] at h
    | some l2 =>
      have ih := lvF_mem l i l2 h2
      cases hb : (Nat.beq k i || (Nat.beq (k + 1) i && cat2 w)) with
      | true =>
        simp only [lvF, h2, hb, Option.some.injEq] at h
        subst h
        obtain ⟨a, b⟩ := ih q hq
        exact ⟨List.mem_cons_of_mem _ a, b⟩
      | false =>
        simp only [lvF, h2, hb, Option.some.injEq] at h
        subst h
        rcases List.mem_cons.mp hq with rfl | hq
        · refine ⟨List.mem_cons_self, ?_⟩
          rw [cat2_eq] at hb
          simp only [Bool.or_eq_false_iff] at hb
          obtain ⟨h3, h4⟩ := hb
          have e1 : (k == i) = false := by rw [beq_eq_false_iff_ne]; exact Nat.ne_of_beq_eq_false h3
          have e2 : (k + 1 == i && w.category == 2) = false := by
            cases hz : (k + 1 == i) with
            | false => rfl
            | true =>
              have hz' : k + 1 = i := by simpa using hz
              rw [hz', Nat.beq_refl] at h4
              simpa using h4
          show (!(k == i) && !(k + 1 == i && w.category == 2)) = true
          rw [e1, e2]
          rfl
        · obtain ⟨a, b⟩ := ih q hq
          exact ⟨List.mem_cons_of_mem _ a, b⟩
theorem lvP_mem : ∀ (l : List (Nat × Value)) (ks : List Nat) (l' : List (Nat × Value)), lvP l ks = some l' → ∀ q ∈ l', q ∈ l
  | l, [], l', h, q, hq => by
    simp only [lvP, Option.some.injEq] at h
    subst h
    cases hq
  | l, k :: ks, l', h, q, hq => by
    cases h1 : lvG l k with
    | none => simp [lvP, h1] at h
    | some v =>
      cases h2 : lvP l ks with
      | none => simp [lvP, h1, h2] at h
      | some r =>
        simp only [lvP, h1, h2, Option.some.injEq] at h
        subst h
        rcases List.mem_cons.mp hq with rfl | hq
        · exact lvG_mem _ _ _ h1
        · exact lvP_mem l ks r h2 q hq
theorem cw_get {ad sa : Nat → Nat} {tc : Nat → ClassId} {h : List AE} {k : Nat} {e : AE} (hk : getO h k = some e) : (cw ad sa tc h)[k]? = some (ad k, ce ad sa tc e) := by
  rw [getO_eq] at hk
  simp [cw, List.getElem?_mapIdx, hk]
theorem cw_inv {ad sa : Nat → Nat} {tc : Nat → ClassId} {h : List AE} {k : Nat} {q : Nat × va_E} (hk : (cw ad sa tc h)[k]? = some q) : ∃ e, h[k]? = some e ∧ q = (ad k, ce ad sa tc e) := by
  simp only [cw, List.getElem?_mapIdx, Option.map_eq_some_iff] at hk
  obtain ⟨e, h1, h2⟩ := hk
  exact ⟨e, h1, h2.symm⟩
theorem cw_set {ad sa : Nat → Nat} {tc : Nat → ClassId} {h : List AE} {k : Nat} {e : AE} {h' : List AE} (hs : setO h k e = some h') : cw ad sa tc h' = (cw ad sa tc h).set k (ad k, ce ad sa tc e) ∧ h'.length = h.length := by
  obtain ⟨rfl, hl⟩ := setO_eq _ _ _ _ hs
  refine ⟨?_, by simp⟩
  apply List.ext_getElem?
  intro i
  by_cases hi : k = i
  · subst hi
    simp [cw, hl]
  · simp [cw, List.getElem?_mapIdx, List.getElem?_set, hi]
theorem cw_len {ad sa : Nat → Nat} {tc : Nat → ClassId} {h : List AE} : (cw ad sa tc h).length = h.length := by simp [cw]
def vok : FieldType → Value → Bool
  | .int, .int _ => true
  | .long, .long _ => true
  | .boolean, .int x => x == 0 || x == 1
  | .object _, .ref _ => true
  | .object _, .null => true
  | .object _, .retAddr _ => true
  | .array _, .ref _ => true
  | .array _, .null => true
  | _, _ => false
theorem vok_ok {ad sa : Nat → Nat} {ty : FieldType} {v : Value} (h : vok ty v = true) : narrow ty (cv ad sa v) = cv ad sa v ∧ fits ty (cv ad sa v) = true := by
  cases ty <;> cases v <;> simp only [vok] at h <;> first | (cases h; done) | exact ⟨rfl, rfl⟩ | (simp only [Bool.or_eq_true, beq_iff_eq] at h; rcases h with h | h <;> subst h <;> first | exact ⟨show narrow .boolean (.int 0) = .int 0 by decide, show fits .boolean (.int 0) = true by decide⟩ | exact ⟨show narrow .boolean (.int 1) = .int 1 by decide, show fits .boolean (.int 1) = true by decide⟩)
def aboveL : List Int32 := [0, 0, 0, 0, 1, 2, 0]
def bodiesL : List Int32 := [10, 11, 12, 13, 20, 0, 0, 21, 0, 30, 0, 0, 0, 0, 40, 0, 50, 0, 51, 0, 0, 60, 0, 0, 70, 71, 0, 0]
def strLen : List Nat := [0, 3, 3]
def strByt : List (List Int32) := [[], [115, 118, 100], [108, 115, 100]]
def nestF : Cond := .fieldLinkNest "LoanedRound$Voices" 57 "LoanedRound" "ABOVE" "[I" "LoanedRound"
def yX8_isWithin' : MethodName := ⟨"LoanedRound", "isWithin", "(III)Z"⟩
def nestM : Cond := .methodLinkNest "LoanedRound$Round" 119 yX8_isWithin' "LoanedRound"
/-- what the class files hold, outside of the worlds -/
def TB (sa : Nat → Nat) (A : Nat → Prop) (U : State) (H : Heap) : Prop :=
  (va_Z RX8 "ABOVE" "[I" (.ref (sa 0)) A U H ∧ va_T .int (sa 0) 7 (fun j => .int (aboveL.getD j 0)) A U H) ∧
  (va_Z RX7 "BODIES" "[I" (.ref (sa 1)) A U H ∧ va_T .int (sa 1) 28 (fun j => .int (bodiesL.getD j 0)) A U H) ∧
  va_Z "java/lang/String" "COMPACT_STRINGS" "Z" (.int 1) A U H ∧
  vk_S 3 strLen strByt (fun i => sa (2 + i)) (fun i => sa (5 + i)) A U H ∧
  (vk_R RX1 23 "" (sa 2) U ∧ vk_R RX1 36 "svd" (sa 3) U ∧ vk_R RX1 38 "lsd" (sa 4) U) ∧
  va_Nw nestF U ∧ va_Nw nestM U ∧ va_AO RX4 U
theorem TB.warm {sa : Nat → Nat} {A : Nat → Prop} {s U : State} {H : Heap} (h : TB sa A s H) (hW : s.WarmedH U.vm) : TB sa A U H := by
  obtain ⟨⟨a1, a2⟩, ⟨b1, b2⟩, c1, d1, ⟨e1, e2, e3⟩, f1, g1, i1⟩ := h
  exact ⟨⟨va_Z.moved hW.alike a1, va_T.moved hW.alike a2⟩, ⟨va_Z.moved hW.alike b1, va_T.moved hW.alike b2⟩, va_Z.moved hW.alike c1, vk_S.moved hW.alike d1, ⟨vk_R.warm hW e1, vk_R.warm hW e2, vk_R.warm hW e3⟩, va_Nw.warmF hW f1, va_Nw.warmM hW g1, va_AO.moved hW.alike i1⟩
theorem TB.kept {sa : Nat → Nat} {A : Nat → Prop} {U : State} {H H1 : Heap} (h : TB sa A U H) (hq : ∀ a : Nat, a < H.size → ¬ A a → H1[a]? = H[a]?) : TB sa A U H1 := by
  obtain ⟨⟨a1, a2⟩, ⟨b1, b2⟩, c1, d1, e, f1, g1, i1⟩ := h
  exact ⟨⟨a1.kept hq, a2.kept hq⟩, ⟨b1.kept hq, b2.kept hq⟩, c1.kept hq, d1.kept hq, e, f1, g1, i1⟩
theorem TB.narrow {sa : Nat → Nat} {A B : Nat → Prop} {U : State} {H : Heap} (h : TB sa A U H) (hAB : ∀ q, B q → A q) : TB sa B U H := by
  obtain ⟨⟨a1, a2⟩, ⟨b1, b2⟩, c1, d1, e, f1, g1, i1⟩ := h
  exact ⟨⟨a1.narrow hAB, a2.narrow hAB⟩, ⟨b1.narrow hAB, b2.narrow hAB⟩, c1.narrow hAB, d1.narrow hAB, e, f1, g1, i1⟩
theorem TB.same {sa : Nat → Nat} {A : Nat → Prop} {s U : State} {H : Heap} (h : TB sa A s H) (hv : U.vm = s.vm) : TB sa A U H := by
  have hA : s.vm.Alike U.vm := by rw [hv]; exact Vm.Alike.refl _
  obtain ⟨⟨a1, a2⟩, ⟨b1, b2⟩, c1, d1, ⟨e1, e2, e3⟩, f1, g1, i1⟩ := h
  exact ⟨⟨va_Z.moved hA a1, va_T.moved hA a2⟩, ⟨va_Z.moved hA b1, va_T.moved hA b2⟩, va_Z.moved hA c1, vk_S.moved hA d1, ⟨vk_R.same hv e1, vk_R.same hv e2, vk_R.same hv e3⟩, va_Nw.same rfl hv.symm f1, va_Nw.same rfl hv.symm g1, va_AO.moved hA i1⟩
def tysO (tc : Nat → ClassId) : List (ClassId × FieldType) := [(tc 0, .int), (tc 1, .object RX4)]
/-- where a walk stands: the machine, the method's code, its words, the classes, the constants -/
def AGood (E : AV) (cc : ByteArray) (nL : Nat) (own : String) (ret : Option FieldType) (nm : String) : Prop := match E with
  | (p, _, _, s, m, args, _, meth, c, D, tc, sa, A) => CallFix p m c cc nL s args lw_g own ∧ va_K D vwCl (tysO tc) s ∧ TB sa A s s.heap ∧ (∀ q : Nat, s.heap.size ≤ q → A q) ∧ meth.sig.returnType = ret ∧ meth.locks = false ∧ meth.name = nm
/-- from here the machine comes to a state with Q -/
def AW (E : AV) (R : Room) (nL : Nat) (Q : State → Prop) (ad0 : Nat → Nat) (n0 cells slots pc : Nat) (lv : List (Nat × Value)) (st : List Value) (h : List AE) : Prop := match E with
  | (p, l, e, s, m, args, below, meth, c, D, tc, sa, A) => ∀ (ad : Nat → Nat) (H : Heap) (locs : List Loc) (ls : Array Slot), va_P D vwCl (cw ad sa tc h) H → va_D A (cw ad sa tc h) → va_S A s.heap H locs → lv_has ls nL (lv.map (cl' ad sa)) → h.length = n0 + cells → (∀ i, i < n0 → ad i = ad0 i) → (cells = 0 → ad = ad0) →
      W p l e R s m args below meth c H locs cells slots Q (F0 m pc ls (st.map (cv ad sa)))
section ROWS
variable {E : AV} {R : Room} {nL : Nat} {Q : State → Prop} {ad0 : Nat → Nat} {n0 cells slots pc : Nat} {lv : List (Nat × Value)} {st : List Value} {h : List AE} {cc : ByteArray} {own : String} {ret : Option FieldType} {nm : String}
theorem A_iconst (hE : AGood E cc nL own ret nm) (q : Nat) {n : Int} (hd : decode cc pc = .ok (.iconst n, 1)) (hq : pc + 1 = q) (v : Int32) (hv : Int32.ofInt n = v) (kk : AW E R nL Q ad0 n0 cells slots q lv (.int v :: st) h) : AW E R nL Q ad0 n0 cells slots pc lv st h := by
  obtain ⟨p, l, e, s, m, args, below, meth, c, D, tc, sa, A⟩ := E
  subst hq
  obtain ⟨⟨hx, hb, hml, hown, hts⟩, hK, hT, hA, hr, hlk, hnm⟩ := hE
  intro ad H locs ls hP hD hS hl hn h0 h1
  exact lv_iconst hx hb hd hv (kk ad H locs ls hP hD hS hl hn h0 h1)
theorem A_iload_n (hE : AGood E cc nL own ret nm) (q : Nat) {k : Fin 4} {x : Int32} (hd : decode cc pc = .ok (.iload_n k, 1)) (hq : pc + 1 = q) (hv : lvG lv k = some (.int x)) (kk : AW E R nL Q ad0 n0 cells slots q lv (.int x :: st) h) : AW E R nL Q ad0 n0 cells slots pc lv st h := by
  obtain ⟨p, l, e, s, m, args, below, meth, c, D, tc, sa, A⟩ := E
  subst hq
  obtain ⟨⟨hx, hb, hml, hown, hts⟩, hK, hT, hA, hr, hlk, hnm⟩ := hE
  intro ad H locs ls hP hD hS hl hn h0 h1
  exact lv_iload_n hx hb hd rfl (hl.2.2 (cl' ad sa ((k : Nat), Value.int x)) (List.mem_map_of_mem (lvG_mem _ _ _ hv))) (kk ad H locs ls hP hD hS hl hn h0 h1)
theorem A_iadd (hE : AGood E cc nL own ret nm) (q : Nat) {x y : Int32} (hd : decode cc pc = .ok (.iadd, 1)) (hq : pc + 1 = q) (kk : AW E R nL Q ad0 n0 cells slots q lv (.int (x + y) :: st) h) : AW E R nL Q ad0 n0 cells slots pc lv (.int y :: .int x :: st) h := by
  obtain ⟨p, l, e, s, m, args, below, meth, c, D, tc, sa, A⟩ := E
  subst hq
  obtain ⟨⟨hx, hb, hml, hown, hts⟩, hK, hT, hA, hr, hlk, hnm⟩ := hE
  intro ad H locs ls hP hD hS hl hn h0 h1
  exact lv_iadd hx hb hd (kk ad H locs ls hP hD hS hl hn h0 h1)
theorem A_istore_n (hE : AGood E cc nL own ret nm) (q : Nat) {k : Fin 4} {x : Int32} {lv' : List (Nat × Value)} (hd : decode cc pc = .ok (.istore_n k, 1)) (hq : pc + 1 = q) (hk : Nat.blt k nL = true) (hf : lvF lv k = some lv') (kk : AW E R nL Q ad0 n0 cells slots q (((k : Nat), .int x) :: lv') st h) : AW E R nL Q ad0 n0 cells slots pc lv (.int x :: st) h := by
  obtain ⟨p, l, e, s, m, args, below, meth, c, D, tc, sa, A⟩ := E
  subst hq
  obtain ⟨⟨hx, hb, hml, hown, hts⟩, hK, hT, hA, hr, hlk, hnm⟩ := hE
  intro ad H locs ls hP hD hS hl hn h0 h1
  refine lv_istore_n hx hb hd rfl hl (Nat.le_of_ble_eq_true hk) rfl fun ls' hl' => kk ad H locs ls' hP hD hS ⟨hl'.1, hl'.2.1, fun z hz => hl'.2.2 z ?_⟩ hn h0 h1
  rcases List.mem_cons.mp hz with rfl | hz
  · exact List.mem_cons_self
  · obtain ⟨w, hw, rfl⟩ := List.mem_map.mp hz
    obtain ⟨g1, g2⟩ := lvF_mem _ _ _ hf w hw
    refine List.mem_cons_of_mem _ (List.mem_filter.mpr ⟨List.mem_map_of_mem g1, ?_⟩)
    obtain ⟨w1, w2⟩ := w
    cases w2 <;> exact g2
theorem A_get (hE : AGood E cc nL own ret nm) (q : Nat) {idx ci k i : Nat} {fin : Bool} {ty : FieldType} {fs : List Value} {v : Value} (hd : decode cc pc = .ok (.getfield idx, 3)) (hq : pc + 3 = q) (hf : FK own idx ci k fin ty) (hh : getO h i = some (.inr (ci, fs))) (hv : getO fs k = some v) (kk : AW E R nL Q ad0 n0 cells slots q lv (v :: st) h) : AW E R nL Q ad0 n0 cells slots pc lv (.ref i :: st) h := by
  obtain ⟨p, l, e, s, m, args, below, meth, c, D, tc, sa, A⟩ := E
  subst hq
  obtain ⟨⟨hx, hb, hml, hown, hts⟩, hK, hT, hA, hr, hlk, hnm⟩ := hE
  intro ad H locs ls hP hD hS hl hn h0 h1
  obtain ⟨C, T, N, ⟨hc, hin, -, -⟩, hk, hlink, hdecl, -, -⟩ := hf
  rw [getO_eq] at hv
  exact va_get hx hb hts hin hown hK hP i (cw_get hh) hc k hk (hts _ hlink) (fun x hx => hdecl ▸ hx) (v := cv ad sa v) (by rw [List.getElem?_map, hv]; rfl) hd (kk ad H locs ls hP hD hS hl hn h0 h1)
theorem A_put (hE : AGood E cc nL own ret nm) (q : Nat) {idx ci k i : Nat} {ty : FieldType} {fs fs' : List Value} {h' : List AE} {v : Value} (hd : decode cc pc = .ok (.putfield idx, 3)) (hq : pc + 3 = q) (hf : FK own idx ci k false ty) (hh : getO h i = some (.inr (ci, fs))) (hs : setO fs k v = some fs') (hs2 : setO h i (.inr (ci, fs')) = some h') (hok : vok ty v = true) (kk : AW E R nL Q ad0 n0 cells slots q lv st h') : AW E R nL Q ad0 n0 cells slots pc lv (v :: .ref i :: st) h := by
  obtain ⟨p, l, e, s, m, args, below, meth, c, D, tc, sa, A⟩ := E
  subst hq
  obtain ⟨⟨hx, hb, hml, hown, hts⟩, hK, hT, hA, hr, hlk, hnm⟩ := hE
  intro ad H locs ls hP hD hS hl hn h0 h1
  obtain ⟨C, T, N, ⟨hc, hin, ⟨ty0, hty⟩, hap⟩, hk, hlink, hdecl, hfin, hpd⟩ := hf
  obtain ⟨rfl, hkl⟩ := setO_eq _ _ _ _ hs
  obtain ⟨e1, e2⟩ := cw_set (ad := ad) (sa := sa) (tc := tc) hs2
  obtain ⟨k1, k2⟩ := vok_ok (ad := ad) (sa := sa) hok
  refine va_put hx hb hts hin ty0 hty hap hown hK hP hD hS i (cw_get hh) hc k hk (hts _ hlink) (fun x hx => hdecl ▸ hx) hfin hpd (v := cv ad sa v) k1 k2 (by rw [List.length_map]; exact hkl) hd fun H1 locs1 hP1 hD1 hS1 => ?_
  have e3 : (ce ad sa tc (.inr (ci, fs.set k v))) = .inr (ci, (fs.map (cv ad sa)).set k (cv ad sa v)) := by
    show (Sum.inr (ci, (fs.set k v).map (cv ad sa)) : va_E) = _
    rw [List.map_set]
  rw [e3] at e1
  rw [← e1] at hP1 hD1
  exact kk ad H1 locs1 ls hP1 hD1 hS1 hl (e2.trans hn) h0 h1
theorem A_putF (hE : AGood E cc nL own ret "<init>") (q : Nat) {idx ci k i : Nat} {ty : FieldType} {fs fs' : List Value} {h' : List AE} {v : Value} (hd : decode cc pc = .ok (.putfield idx, 3)) (hq : pc + 3 = q) (hf : FK own idx ci k true ty) (hci : (vwCl[ci]?).map (fun z => z.1) = some own) (hh : getO h i = some (.inr (ci, fs))) (hs : setO fs k v = some fs') (hs2 : setO h i (.inr (ci, fs')) = some h') (hok : vok ty v = true) (kk : AW E R nL Q ad0 n0 cells slots q lv st h') : AW E R nL Q ad0 n0 cells slots pc lv (v :: .ref i :: st) h := by
  obtain ⟨p, l, e, s, m, args, below, meth, c, D, tc, sa, A⟩ := E
  subst hq
  obtain ⟨⟨hx, hb, hml, hown, hts⟩, hK, hT, hA, hr, hlk, hnm⟩ := hE
  intro ad H locs ls hP hD hS hl hn h0 h1
  obtain ⟨C, T, N, ⟨hc, hin, ⟨ty0, hty⟩, hap⟩, hk, hlink, hdecl, hfin, hpd⟩ := hf
  have hCo : C = own := by
    rw [hc] at hci
    exact Option.some.inj hci
  obtain ⟨rfl, hkl⟩ := setO_eq _ _ _ _ hs
  obtain ⟨e1, e2⟩ := cw_set (ad := ad) (sa := sa) (tc := tc) hs2
  obtain ⟨k1, k2⟩ := vok_ok (ad := ad) (sa := sa) hok
  refine va_putF hx hb hts hin ty0 hty hap hown hK hP hD hS i (cw_get hh) hc k hk (hts _ hlink) (fun x hx => hdecl ▸ hx) hfin hnm (hdecl.trans hCo) hpd (v := cv ad sa v) k1 k2 (by rw [List.length_map]; exact hkl) hd fun H1 locs1 hP1 hD1 hS1 => ?_
  have e3 : (ce ad sa tc (.inr (ci, fs.set k v))) = .inr (ci, (fs.map (cv ad sa)).set k (cv ad sa v)) := by
    show (Sum.inr (ci, (fs.set k v).map (cv ad sa)) : va_E) = _
    rw [List.map_set]
  rw [e3] at e1
  rw [← e1] at hP1 hD1
  exact kk ad H1 locs1 ls hP1 hD1 hS1 hl (e2.trans hn) h0 h1
theorem A_iaload (hE : AGood E cc nL own ret nm) (q : Nat) {i n : Nat} {f : Nat → Int32} {x : Int32} (hd : decode cc pc = .ok (.iaload, 1)) (hq : pc + 1 = q) (hh : getO h i = some (.inl (0, n, .inl f))) (hin : vp_in x n) (kk : AW E R nL Q ad0 n0 cells slots q lv (.int (f x.toNatClampNeg) :: st) h) : AW E R nL Q ad0 n0 cells slots pc lv (.int x :: .ref i :: st) h := by
  obtain ⟨p, l, e, s, m, args, below, meth, c, D, tc, sa, A⟩ := E
  subst hq
  obtain ⟨⟨hx, hb, hml, hown, hts⟩, hK, hT, hA, hr, hlk, hnm⟩ := hE
  intro ad H locs ls hP hD hS hl hn h0 h1
  exact va_iald hx hb hK hP i 0 (cw_get hh) rfl hin hd (kk ad H locs ls hP hD hS hl hn h0 h1)
theorem A_iastore (hE : AGood E cc nL own ret nm) (q : Nat) {i n : Nat} {f : Nat → Int32} {x y : Int32} {h' : List AE} (hd : decode cc pc = .ok (.iastore, 1)) (hq : pc + 1 = q) (hh : getO h i = some (.inl (0, n, .inl f))) (hin : vp_in x n) (hs : setO h i (.inl (0, n, .inl (upd f x.toNatClampNeg y))) = some h') (kk : AW E R nL Q ad0 n0 cells slots q lv st h') : AW E R nL Q ad0 n0 cells slots pc lv (.int y :: .int x :: .ref i :: st) h := by
  obtain ⟨p, l, e, s, m, args, below, meth, c, D, tc, sa, A⟩ := E
  subst hq
  obtain ⟨⟨hx, hb, hml, hown, hts⟩, hK, hT, hA, hr, hlk, hnm⟩ := hE
  intro ad H locs ls hP hD hS hl hn h0 h1
  obtain ⟨e1, e2⟩ := cw_set (ad := ad) (sa := sa) (tc := tc) hs
  refine va_iast hx hb hK hP hD hS i 0 (cw_get hh) rfl hin hd fun H1 locs1 hP1 hD1 hS1 => ?_
  have hP1 : va_P D vwCl ((cw ad sa tc h).set i (ad i, ce ad sa tc (.inl (0, n, .inl (upd f x.toNatClampNeg y))))) H1 := hP1
  have hD1 : va_D A ((cw ad sa tc h).set i (ad i, ce ad sa tc (.inl (0, n, .inl (upd f x.toNatClampNeg y))))) := hD1
  rw [← e1] at hP1 hD1
  exact kk ad H1 locs1 ls hP1 hD1 hS1 hl (e2.trans hn) h0 h1
theorem A_lv (ks : List Nat) {lv' : List (Nat × Value)} (hp : lvP lv ks = some lv') (kk : AW E R nL Q ad0 n0 cells slots pc lv' st h) : AW E R nL Q ad0 n0 cells slots pc lv st h := by
  obtain ⟨p, l, e, s, m, args, below, meth, c, D, tc, sa, A⟩ := E
  intro ad H locs ls hP hD hS hl hn h0 h1
  refine kk ad H locs ls hP hD hS ⟨hl.1, hl.2.1, fun z hz => hl.2.2 z ?_⟩ hn h0 h1
  obtain ⟨w, hw, rfl⟩ := List.mem_map.mp hz
  exact List.mem_map_of_mem (lvP_mem _ _ _ hp w hw)
end ROWS
end
section
/-- the rest of a division -/
def rm (x y : Int32) : Int32 := x - x / y * y
section ROWS2
variable {E : AV} {R : Room} {nL : Nat} {Q : State → Prop} {ad0 : Nat → Nat} {n0 cells slots pc : Nat} {lv : List (Nat × Value)} {st : List Value} {h : List AE} {cc : ByteArray} {own : String} {ret : Option FieldType} {nm : String}

theorem A_bipush (hE : AGood E cc nL own ret nm) (q : Nat) {n : Int} (hd : decode cc pc = .ok (.bipush n, 2)) (hq : pc + 2 = q) (v : Int32) (hv : (Int8.ofInt n).toInt32 = v) (kk : AW E R nL Q ad0 n0 cells slots q lv (.int v :: st) h) : AW E R nL Q ad0 n0 cells slots pc lv st h := by
  obtain ⟨p, l, e, s, m, args, below, meth, c, D, tc, sa, A⟩ := E
  subst hq
  obtain ⟨⟨hx, hb, hml, hown, hts⟩, hK, hT, hA, hr, hlk, hnm⟩ := hE
  intro ad H locs ls hP hD hS hl hn h0 h1
  exact lv_bipush hx hb hd hv (kk ad H locs ls hP hD hS hl hn h0 h1)

theorem A_sipush (hE : AGood E cc nL own ret nm) (q : Nat) {n : Int} (hd : decode cc pc = .ok (.sipush n, 3)) (hq : pc + 3 = q) (v : Int32) (hv : (Int16.ofInt n).toInt32 = v) (kk : AW E R nL Q ad0 n0 cells slots q lv (.int v :: st) h) : AW E R nL Q ad0 n0 cells slots pc lv st h := by
  obtain ⟨p, l, e, s, m, args, below, meth, c, D, tc, sa, A⟩ := E
  subst hq
  obtain ⟨⟨hx, hb, hml, hown, hts⟩, hK, hT, hA, hr, hlk, hnm⟩ := hE
  intro ad H locs ls hP hD hS hl hn h0 h1
  exact lv_sipush hx hb hd hv (kk ad H locs ls hP hD hS hl hn h0 h1)

theorem A_ldc (hE : AGood E cc nL own ret nm) (q : Nat) {idx : Nat} {v : Int32} (hd : decode cc pc = .ok (.ldc idx, 2)) (hq : pc + 2 = q) (hc : Cond.constant own idx v ∈ lw_g) (kk : AW E R nL Q ad0 n0 cells slots q lv (.int v :: st) h) : AW E R nL Q ad0 n0 cells slots pc lv st h := by
  obtain ⟨p, l, e, s, m, args, below, meth, c, D, tc, sa, A⟩ := E
  subst hq
  obtain ⟨⟨hx, hb, hml, hown, hts⟩, hK, hT, hA, hr, hlk, hnm⟩ := hE
  intro ad H locs ls hP hD hS hl hn h0 h1
  exact lv_ldc hx hb hown (hts _ hc) hd (kk ad H locs ls hP hD hS hl hn h0 h1)

theorem A_ldcw (hE : AGood E cc nL own ret nm) (q : Nat) {idx : Nat} {v : Int32} (hd : decode cc pc = .ok (.ldc_w idx, 3)) (hq : pc + 3 = q) (hc : Cond.constant own idx v ∈ lw_g) (kk : AW E R nL Q ad0 n0 cells slots q lv (.int v :: st) h) : AW E R nL Q ad0 n0 cells slots pc lv st h := by
  obtain ⟨p, l, e, s, m, args, below, meth, c, D, tc, sa, A⟩ := E
  subst hq
  obtain ⟨⟨hx, hb, hml, hown, hts⟩, hK, hT, hA, hr, hlk, hnm⟩ := hE
  intro ad H locs ls hP hD hS hl hn h0 h1
  exact lv_ldcw hx hb hown (hts _ hc) hd (kk ad H locs ls hP hD hS hl hn h0 h1)

theorem A_ldc2 (hE : AGood E cc nL own ret nm) (q : Nat) {idx : Nat} {v : Int64} (hd : decode cc pc = .ok (.ldc2_w idx, 3)) (hq : pc + 3 = q) (hc : Cond.constantLong own idx v ∈ lw_g) (kk : AW E R nL Q ad0 n0 cells slots q lv (.long v :: st) h) : AW E R nL Q ad0 n0 cells slots pc lv st h := by
  obtain ⟨p, l, e, s, m, args, below, meth, c, D, tc, sa, A⟩ := E
  subst hq
  obtain ⟨⟨hx, hb, hml, hown, hts⟩, hK, hT, hA, hr, hlk, hnm⟩ := hE
  intro ad H locs ls hP hD hS hl hn h0 h1
  exact lv_ldc2 hx hb hown (hts _ hc) hd (kk ad H locs ls hP hD hS hl hn h0 h1)

theorem A_iload (hE : AGood E cc nL own ret nm) (q : Nat) {k : Nat} {x : Int32} (hd : decode cc pc = .ok (.iload k, 2)) (hq : pc + 2 = q) (hv : lvG lv k = some (.int x)) (kk : AW E R nL Q ad0 n0 cells slots q lv (.int x :: st) h) : AW E R nL Q ad0 n0 cells slots pc lv st h := by
  obtain ⟨p, l, e, s, m, args, below, meth, c, D, tc, sa, A⟩ := E
  subst hq
  obtain ⟨⟨hx, hb, hml, hown, hts⟩, hK, hT, hA, hr, hlk, hnm⟩ := hE
  intro ad H locs ls hP hD hS hl hn h0 h1
  exact lv_iload hx hb hd (hl.2.2 (cl' ad sa ((k : Nat), .int x)) (List.mem_map_of_mem (lvG_mem _ _ _ hv))) (kk ad H locs ls hP hD hS hl hn h0 h1)

theorem A_aload_n (hE : AGood E cc nL own ret nm) (q : Nat) {k : Fin 4} {x : Nat} (hd : decode cc pc = .ok (.aload_n k, 1)) (hq : pc + 1 = q) (hv : lvG lv k = some (.ref x)) (kk : AW E R nL Q ad0 n0 cells slots q lv (.ref x :: st) h) : AW E R nL Q ad0 n0 cells slots pc lv st h := by
  obtain ⟨p, l, e, s, m, args, below, meth, c, D, tc, sa, A⟩ := E
  subst hq
  obtain ⟨⟨hx, hb, hml, hown, hts⟩, hK, hT, hA, hr, hlk, hnm⟩ := hE
  intro ad H locs ls hP hD hS hl hn h0 h1
  exact lv_aload_n hx hb hd rfl (hl.2.2 (cl' ad sa ((k : Nat), .ref x)) (List.mem_map_of_mem (lvG_mem _ _ _ hv))) (kk ad H locs ls hP hD hS hl hn h0 h1)

theorem A_aload (hE : AGood E cc nL own ret nm) (q : Nat) {k : Nat} {x : Nat} (hd : decode cc pc = .ok (.aload k, 2)) (hq : pc + 2 = q) (hv : lvG lv k = some (.ref x)) (kk : AW E R nL Q ad0 n0 cells slots q lv (.ref x :: st) h) : AW E R nL Q ad0 n0 cells slots pc lv st h := by
  obtain ⟨p, l, e, s, m, args, below, meth, c, D, tc, sa, A⟩ := E
  subst hq
  obtain ⟨⟨hx, hb, hml, hown, hts⟩, hK, hT, hA, hr, hlk, hnm⟩ := hE
  intro ad H locs ls hP hD hS hl hn h0 h1
  exact lv_aload hx hb hd (hl.2.2 (cl' ad sa ((k : Nat), .ref x)) (List.mem_map_of_mem (lvG_mem _ _ _ hv))) (kk ad H locs ls hP hD hS hl hn h0 h1)

theorem A_aload_nS (hE : AGood E cc nL own ret nm) (q : Nat) {k : Fin 4} {x : Nat} (hd : decode cc pc = .ok (.aload_n k, 1)) (hq : pc + 1 = q) (hv : lvG lv k = some (.retAddr x)) (kk : AW E R nL Q ad0 n0 cells slots q lv (.retAddr x :: st) h) : AW E R nL Q ad0 n0 cells slots pc lv st h := by
  obtain ⟨p, l, e, s, m, args, below, meth, c, D, tc, sa, A⟩ := E
  subst hq
  obtain ⟨⟨hx, hb, hml, hown, hts⟩, hK, hT, hA, hr, hlk, hnm⟩ := hE
  intro ad H locs ls hP hD hS hl hn h0 h1
  exact lv_aload_n hx hb hd rfl (hl.2.2 (cl' ad sa ((k : Nat), .retAddr x)) (List.mem_map_of_mem (lvG_mem _ _ _ hv))) (kk ad H locs ls hP hD hS hl hn h0 h1)

theorem A_aloadS (hE : AGood E cc nL own ret nm) (q : Nat) {k : Nat} {x : Nat} (hd : decode cc pc = .ok (.aload k, 2)) (hq : pc + 2 = q) (hv : lvG lv k = some (.retAddr x)) (kk : AW E R nL Q ad0 n0 cells slots q lv (.retAddr x :: st) h) : AW E R nL Q ad0 n0 cells slots pc lv st h := by
  obtain ⟨p, l, e, s, m, args, below, meth, c, D, tc, sa, A⟩ := E
  subst hq
  obtain ⟨⟨hx, hb, hml, hown, hts⟩, hK, hT, hA, hr, hlk, hnm⟩ := hE
  intro ad H locs ls hP hD hS hl hn h0 h1
  exact lv_aload hx hb hd (hl.2.2 (cl' ad sa ((k : Nat), .retAddr x)) (List.mem_map_of_mem (lvG_mem _ _ _ hv))) (kk ad H locs ls hP hD hS hl hn h0 h1)

theorem A_lload_n (hE : AGood E cc nL own ret nm) (q : Nat) {k : Fin 4} {x : Int64} (hd : decode cc pc = .ok (.lload_n k, 1)) (hq : pc + 1 = q) (hv : lvG lv k = some (.long x)) (kk : AW E R nL Q ad0 n0 cells slots q lv (.long x :: st) h) : AW E R nL Q ad0 n0 cells slots pc lv st h := by
  obtain ⟨p, l, e, s, m, args, below, meth, c, D, tc, sa, A⟩ := E
  subst hq
  obtain ⟨⟨hx, hb, hml, hown, hts⟩, hK, hT, hA, hr, hlk, hnm⟩ := hE
  intro ad H locs ls hP hD hS hl hn h0 h1
  exact lv_lload_n hx hb hd rfl (hl.2.2 (cl' ad sa ((k : Nat), .long x)) (List.mem_map_of_mem (lvG_mem _ _ _ hv))) (kk ad H locs ls hP hD hS hl hn h0 h1)

theorem A_istore (hE : AGood E cc nL own ret nm) (q : Nat) {k : Nat} {x : Int32} {lv' : List (Nat × Value)} (hd : decode cc pc = .ok (.istore k, 2)) (hq : pc + 2 = q) (hk : Nat.blt k nL = true) (hf : lvF lv k = some lv') (kk : AW E R nL Q ad0 n0 cells slots q (((k : Nat), .int x) :: lv') st h) : AW E R nL Q ad0 n0 cells slots pc lv (.int x :: st) h := by
  obtain ⟨p, l, e, s, m, args, below, meth, c, D, tc, sa, A⟩ := E
  subst hq
  obtain ⟨⟨hx, hb, hml, hown, hts⟩, hK, hT, hA, hr, hlk, hnm⟩ := hE
  intro ad H locs ls hP hD hS hl hn h0 h1
  refine lv_istore hx hb hd hl (Nat.le_of_ble_eq_true hk) rfl fun ls' hl' => kk ad H locs ls' hP hD hS ⟨hl'.1, hl'.2.1, fun z hz => hl'.2.2 z ?_⟩ hn h0 h1
  rcases List.mem_cons.mp hz with rfl | hz
  · exact List.mem_cons_self
  · obtain ⟨w, hw, rfl⟩ := List.mem_map.mp hz
    obtain ⟨g1, g2⟩ := lvF_mem _ _ _ hf w hw
    refine List.mem_cons_of_mem _ (List.mem_filter.mpr ⟨List.mem_map_of_mem g1, ?_⟩)
    obtain ⟨w1, w2⟩ := w
    cases w2 <;> exact g2

theorem A_astore_n (hE : AGood E cc nL own ret nm) (q : Nat) {k : Fin 4} {x : Nat} {lv' : List (Nat × Value)} (hd : decode cc pc = .ok (.astore_n k, 1)) (hq : pc + 1 = q) (hk : Nat.blt k nL = true) (hf : lvF lv k = some lv') (kk : AW E R nL Q ad0 n0 cells slots q (((k : Nat), .ref x) :: lv') st h) : AW E R nL Q ad0 n0 cells slots pc lv (.ref x :: st) h := by
  obtain ⟨p, l, e, s, m, args, below, meth, c, D, tc, sa, A⟩ := E
  subst hq
  obtain ⟨⟨hx, hb, hml, hown, hts⟩, hK, hT, hA, hr, hlk, hnm⟩ := hE
  intro ad H locs ls hP hD hS hl hn h0 h1
  refine lv_astore_n hx hb hd rfl hl (Nat.le_of_ble_eq_true hk) rfl fun ls' hl' => kk ad H locs ls' hP hD hS ⟨hl'.1, hl'.2.1, fun z hz => hl'.2.2 z ?_⟩ hn h0 h1
  rcases List.mem_cons.mp hz with rfl | hz
  · exact List.mem_cons_self
  · obtain ⟨w, hw, rfl⟩ := List.mem_map.mp hz
    obtain ⟨g1, g2⟩ := lvF_mem _ _ _ hf w hw
    refine List.mem_cons_of_mem _ (List.mem_filter.mpr ⟨List.mem_map_of_mem g1, ?_⟩)
    obtain ⟨w1, w2⟩ := w
    cases w2 <;> exact g2

theorem A_astore (hE : AGood E cc nL own ret nm) (q : Nat) {k : Nat} {x : Nat} {lv' : List (Nat × Value)} (hd : decode cc pc = .ok (.astore k, 2)) (hq : pc + 2 = q) (hk : Nat.blt k nL = true) (hf : lvF lv k = some lv') (kk : AW E R nL Q ad0 n0 cells slots q (((k : Nat), .ref x) :: lv') st h) : AW E R nL Q ad0 n0 cells slots pc lv (.ref x :: st) h := by
  obtain ⟨p, l, e, s, m, args, below, meth, c, D, tc, sa, A⟩ := E
  subst hq
  obtain ⟨⟨hx, hb, hml, hown, hts⟩, hK, hT, hA, hr, hlk, hnm⟩ := hE
  intro ad H locs ls hP hD hS hl hn h0 h1
  refine lv_astore hx hb hd hl (Nat.le_of_ble_eq_true hk) rfl fun ls' hl' => kk ad H locs ls' hP hD hS ⟨hl'.1, hl'.2.1, fun z hz => hl'.2.2 z ?_⟩ hn h0 h1
  rcases List.mem_cons.mp hz with rfl | hz
  · exact List.mem_cons_self
  · obtain ⟨w, hw, rfl⟩ := List.mem_map.mp hz
    obtain ⟨g1, g2⟩ := lvF_mem _ _ _ hf w hw
    refine List.mem_cons_of_mem _ (List.mem_filter.mpr ⟨List.mem_map_of_mem g1, ?_⟩)
    obtain ⟨w1, w2⟩ := w
    cases w2 <;> exact g2

theorem A_iinc (hE : AGood E cc nL own ret nm) (q : Nat) {k : Nat} {n : Int} {x : Int32} {lv' : List (Nat × Value)} (hd : decode cc pc = .ok (.iinc k n, 3)) (hq : pc + 3 = q) (hk : Nat.blt k nL = true) (v : Int32) (hv : Int32.ofInt n = v) (hg : lvG lv k = some (.int x)) (hf : lvF lv k = some lv') (kk : AW E R nL Q ad0 n0 cells slots q ((k, .int (x + v)) :: lv') st h) : AW E R nL Q ad0 n0 cells slots pc lv st h := by
  obtain ⟨p, l, e, s, m, args, below, meth, c, D, tc, sa, A⟩ := E
  subst hq
  obtain ⟨⟨hx, hb, hml, hown, hts⟩, hK, hT, hA, hr, hlk, hnm⟩ := hE
  intro ad H locs ls hP hD hS hl hn h0 h1
  subst hv
  obtain ⟨j, hj⟩ := List.getElem?_of_mem (List.mem_map_of_mem (f := cl' ad sa) (lvG_mem _ _ _ hg))
  refine lv_iinc hx hb hd hl (k := j) hj rfl (Nat.le_of_ble_eq_true hk) rfl fun ls' hl' => kk ad H locs ls' hP hD hS ⟨hl'.1, hl'.2.1, fun z hz => hl'.2.2 z ?_⟩ hn h0 h1
  rcases List.mem_cons.mp hz with rfl | hz
  · exact List.mem_cons_self
  · obtain ⟨w, hw, rfl⟩ := List.mem_map.mp hz
    obtain ⟨g1, g2⟩ := lvF_mem _ _ _ hf w hw
    refine List.mem_cons_of_mem _ (List.mem_filter.mpr ⟨List.mem_map_of_mem g1, ?_⟩)
    obtain ⟨w1, w2⟩ := w
    cases w2 <;> exact g2

theorem A_isub (hE : AGood E cc nL own ret nm) (q : Nat) {x y : Int32} (hd : decode cc pc = .ok (.isub, 1)) (hq : pc + 1 = q)  (kk : AW E R nL Q ad0 n0 cells slots q lv (.int (x - y) :: st) h) : AW E R nL Q ad0 n0 cells slots pc lv (.int y :: .int x :: st) h := by
  obtain ⟨p, l, e, s, m, args, below, meth, c, D, tc, sa, A⟩ := E
  subst hq
  obtain ⟨⟨hx, hb, hml, hown, hts⟩, hK, hT, hA, hr, hlk, hnm⟩ := hE
  intro ad H locs ls hP hD hS hl hn h0 h1
  exact lv_isub hx hb hd (kk ad H locs ls hP hD hS hl hn h0 h1)

theorem A_imul (hE : AGood E cc nL own ret nm) (q : Nat) {x y : Int32} (hd : decode cc pc = .ok (.imul, 1)) (hq : pc + 1 = q)  (kk : AW E R nL Q ad0 n0 cells slots q lv (.int (x * y) :: st) h) : AW E R nL Q ad0 n0 cells slots pc lv (.int y :: .int x :: st) h := by
  obtain ⟨p, l, e, s, m, args, below, meth, c, D, tc, sa, A⟩ := E
  subst hq
  obtain ⟨⟨hx, hb, hml, hown, hts⟩, hK, hT, hA, hr, hlk, hnm⟩ := hE
  intro ad H locs ls hP hD hS hl hn h0 h1
  exact lv_imul hx hb hd (kk ad H locs ls hP hD hS hl hn h0 h1)

theorem A_iand (hE : AGood E cc nL own ret nm) (q : Nat) {x y : Int32} (hd : decode cc pc = .ok (.iand, 1)) (hq : pc + 1 = q)  (kk : AW E R nL Q ad0 n0 cells slots q lv (.int (x &&& y) :: st) h) : AW E R nL Q ad0 n0 cells slots pc lv (.int y :: .int x :: st) h := by
  obtain ⟨p, l, e, s, m, args, below, meth, c, D, tc, sa, A⟩ := E
  subst hq
  obtain ⟨⟨hx, hb, hml, hown, hts⟩, hK, hT, hA, hr, hlk, hnm⟩ := hE
  intro ad H locs ls hP hD hS hl hn h0 h1
  exact lv_iand hx hb hd (kk ad H locs ls hP hD hS hl hn h0 h1)

theorem A_ior (hE : AGood E cc nL own ret nm) (q : Nat) {x y : Int32} (hd : decode cc pc = .ok (.ior, 1)) (hq : pc + 1 = q)  (kk : AW E R nL Q ad0 n0 cells slots q lv (.int (x ||| y) :: st) h) : AW E R nL Q ad0 n0 cells slots pc lv (.int y :: .int x :: st) h := by
  obtain ⟨p, l, e, s, m, args, below, meth, c, D, tc, sa, A⟩ := E
  subst hq
  obtain ⟨⟨hx, hb, hml, hown, hts⟩, hK, hT, hA, hr, hlk, hnm⟩ := hE
  intro ad H locs ls hP hD hS hl hn h0 h1
  exact lv_ior hx hb hd (kk ad H locs ls hP hD hS hl hn h0 h1)

theorem A_ixor (hE : AGood E cc nL own ret nm) (q : Nat) {x y : Int32} (hd : decode cc pc = .ok (.ixor, 1)) (hq : pc + 1 = q)  (kk : AW E R nL Q ad0 n0 cells slots q lv (.int (x ^^^ y) :: st) h) : AW E R nL Q ad0 n0 cells slots pc lv (.int y :: .int x :: st) h := by
  obtain ⟨p, l, e, s, m, args, below, meth, c, D, tc, sa, A⟩ := E
  subst hq
  obtain ⟨⟨hx, hb, hml, hown, hts⟩, hK, hT, hA, hr, hlk, hnm⟩ := hE
  intro ad H locs ls hP hD hS hl hn h0 h1
  exact lv_ixor hx hb hd (kk ad H locs ls hP hD hS hl hn h0 h1)

theorem A_ishl (hE : AGood E cc nL own ret nm) (q : Nat) {x y : Int32} (hd : decode cc pc = .ok (.ishl, 1)) (hq : pc + 1 = q)  (kk : AW E R nL Q ad0 n0 cells slots q lv (.int (x <<< (y &&& 31)) :: st) h) : AW E R nL Q ad0 n0 cells slots pc lv (.int y :: .int x :: st) h := by
  obtain ⟨p, l, e, s, m, args, below, meth, c, D, tc, sa, A⟩ := E
  subst hq
  obtain ⟨⟨hx, hb, hml, hown, hts⟩, hK, hT, hA, hr, hlk, hnm⟩ := hE
  intro ad H locs ls hP hD hS hl hn h0 h1
  exact lv_ishl hx hb hd (kk ad H locs ls hP hD hS hl hn h0 h1)

theorem A_ishr (hE : AGood E cc nL own ret nm) (q : Nat) {x y : Int32} (hd : decode cc pc = .ok (.ishr, 1)) (hq : pc + 1 = q)  (kk : AW E R nL Q ad0 n0 cells slots q lv (.int (x >>> (y &&& 31)) :: st) h) : AW E R nL Q ad0 n0 cells slots pc lv (.int y :: .int x :: st) h := by
  obtain ⟨p, l, e, s, m, args, below, meth, c, D, tc, sa, A⟩ := E
  subst hq
  obtain ⟨⟨hx, hb, hml, hown, hts⟩, hK, hT, hA, hr, hlk, hnm⟩ := hE
  intro ad H locs ls hP hD hS hl hn h0 h1
  exact lv_ishr hx hb hd (kk ad H locs ls hP hD hS hl hn h0 h1)

theorem A_iushr (hE : AGood E cc nL own ret nm) (q : Nat) {x y : Int32} (hd : decode cc pc = .ok (.iushr, 1)) (hq : pc + 1 = q)  (kk : AW E R nL Q ad0 n0 cells slots q lv (.int ((x.toUInt32 >>> (y.toUInt32 &&& Int32.toUInt32 31)).toInt32) :: st) h) : AW E R nL Q ad0 n0 cells slots pc lv (.int y :: .int x :: st) h := by
  obtain ⟨p, l, e, s, m, args, below, meth, c, D, tc, sa, A⟩ := E
  subst hq
  obtain ⟨⟨hx, hb, hml, hown, hts⟩, hK, hT, hA, hr, hlk, hnm⟩ := hE
  intro ad H locs ls hP hD hS hl hn h0 h1
  exact lv_iushr hx hb hd rfl (kk ad H locs ls hP hD hS hl hn h0 h1)

theorem A_idiv (hE : AGood E cc nL own ret nm) (q : Nat) {x y : Int32} (hd : decode cc pc = .ok (.idiv, 1)) (hq : pc + 1 = q) (hne : ¬ y = 0) (kk : AW E R nL Q ad0 n0 cells slots q lv (.int (x / y) :: st) h) : AW E R nL Q ad0 n0 cells slots pc lv (.int y :: .int x :: st) h := by
  obtain ⟨p, l, e, s, m, args, below, meth, c, D, tc, sa, A⟩ := E
  subst hq
  obtain ⟨⟨hx, hb, hml, hown, hts⟩, hK, hT, hA, hr, hlk, hnm⟩ := hE
  intro ad H locs ls hP hD hS hl hn h0 h1
  exact lv_idiv hx hb hd hne (kk ad H locs ls hP hD hS hl hn h0 h1)

theorem A_irem (hE : AGood E cc nL own ret nm) (q : Nat) {x y : Int32} (hd : decode cc pc = .ok (.irem, 1)) (hq : pc + 1 = q) (hne : ¬ y = 0) (kk : AW E R nL Q ad0 n0 cells slots q lv (.int (rm x y) :: st) h) : AW E R nL Q ad0 n0 cells slots pc lv (.int y :: .int x :: st) h := by
  obtain ⟨p, l, e, s, m, args, below, meth, c, D, tc, sa, A⟩ := E
  subst hq
  obtain ⟨⟨hx, hb, hml, hown, hts⟩, hK, hT, hA, hr, hlk, hnm⟩ := hE
  intro ad H locs ls hP hD hS hl hn h0 h1
  exact lv_irem hx hb hd hne (kk ad H locs ls hP hD hS hl hn h0 h1)

theorem A_ineg (hE : AGood E cc nL own ret nm) (q : Nat) {x : Int32} (hd : decode cc pc = .ok (.ineg, 1)) (hq : pc + 1 = q)  (kk : AW E R nL Q ad0 n0 cells slots q lv (.int (-x) :: st) h) : AW E R nL Q ad0 n0 cells slots pc lv (.int x :: st) h := by
  obtain ⟨p, l, e, s, m, args, below, meth, c, D, tc, sa, A⟩ := E
  subst hq
  obtain ⟨⟨hx, hb, hml, hown, hts⟩, hK, hT, hA, hr, hlk, hnm⟩ := hE
  intro ad H locs ls hP hD hS hl hn h0 h1
  exact lv_ineg hx hb hd (kk ad H locs ls hP hD hS hl hn h0 h1)

theorem A_i2l (hE : AGood E cc nL own ret nm) (q : Nat) {x : Int32} (hd : decode cc pc = .ok (.i2l, 1)) (hq : pc + 1 = q)  (kk : AW E R nL Q ad0 n0 cells slots q lv (.long (x.toInt64) :: st) h) : AW E R nL Q ad0 n0 cells slots pc lv (.int x :: st) h := by
  obtain ⟨p, l, e, s, m, args, below, meth, c, D, tc, sa, A⟩ := E
  subst hq
  obtain ⟨⟨hx, hb, hml, hown, hts⟩, hK, hT, hA, hr, hlk, hnm⟩ := hE
  intro ad H locs ls hP hD hS hl hn h0 h1
  exact lv_i2l hx hb hd rfl (kk ad H locs ls hP hD hS hl hn h0 h1)

theorem A_l2i (hE : AGood E cc nL own ret nm) (q : Nat) {x : Int64} (hd : decode cc pc = .ok (.l2i, 1)) (hq : pc + 1 = q)  (kk : AW E R nL Q ad0 n0 cells slots q lv (.int (x.toInt32) :: st) h) : AW E R nL Q ad0 n0 cells slots pc lv (.long x :: st) h := by
  obtain ⟨p, l, e, s, m, args, below, meth, c, D, tc, sa, A⟩ := E
  subst hq
  obtain ⟨⟨hx, hb, hml, hown, hts⟩, hK, hT, hA, hr, hlk, hnm⟩ := hE
  intro ad H locs ls hP hD hS hl hn h0 h1
  exact lv_l2i hx hb hd rfl (kk ad H locs ls hP hD hS hl hn h0 h1)

theorem A_i2c (hE : AGood E cc nL own ret nm) (q : Nat) {x : Int32} (hd : decode cc pc = .ok (.i2c, 1)) (hq : pc + 1 = q)  (kk : AW E R nL Q ad0 n0 cells slots q lv (.int ((x.toUInt32 % 65536).toInt32) :: st) h) : AW E R nL Q ad0 n0 cells slots pc lv (.int x :: st) h := by
  obtain ⟨p, l, e, s, m, args, below, meth, c, D, tc, sa, A⟩ := E
  subst hq
  obtain ⟨⟨hx, hb, hml, hown, hts⟩, hK, hT, hA, hr, hlk, hnm⟩ := hE
  intro ad H locs ls hP hD hS hl hn h0 h1
  exact lv_i2c hx hb hd rfl (kk ad H locs ls hP hD hS hl hn h0 h1)

theorem A_i2b (hE : AGood E cc nL own ret nm) (q : Nat) {x : Int32} (hd : decode cc pc = .ok (.i2b, 1)) (hq : pc + 1 = q)  (kk : AW E R nL Q ad0 n0 cells slots q lv (.int (x.toInt8.toInt32) :: st) h) : AW E R nL Q ad0 n0 cells slots pc lv (.int x :: st) h := by
  obtain ⟨p, l, e, s, m, args, below, meth, c, D, tc, sa, A⟩ := E
  subst hq
  obtain ⟨⟨hx, hb, hml, hown, hts⟩, hK, hT, hA, hr, hlk, hnm⟩ := hE
  intro ad H locs ls hP hD hS hl hn h0 h1
  exact lv_i2b hx hb hd rfl (kk ad H locs ls hP hD hS hl hn h0 h1)

theorem A_i2s (hE : AGood E cc nL own ret nm) (q : Nat) {x : Int32} (hd : decode cc pc = .ok (.i2s, 1)) (hq : pc + 1 = q)  (kk : AW E R nL Q ad0 n0 cells slots q lv (.int (x.toInt16.toInt32) :: st) h) : AW E R nL Q ad0 n0 cells slots pc lv (.int x :: st) h := by
  obtain ⟨p, l, e, s, m, args, below, meth, c, D, tc, sa, A⟩ := E
  subst hq
  obtain ⟨⟨hx, hb, hml, hown, hts⟩, hK, hT, hA, hr, hlk, hnm⟩ := hE
  intro ad H locs ls hP hD hS hl hn h0 h1
  exact lv_i2s hx hb hd rfl (kk ad H locs ls hP hD hS hl hn h0 h1)

theorem A_land (hE : AGood E cc nL own ret nm) (q : Nat) {x y : Int64} (hd : decode cc pc = .ok (.land, 1)) (hq : pc + 1 = q)  (kk : AW E R nL Q ad0 n0 cells slots q lv (.long (x &&& y) :: st) h) : AW E R nL Q ad0 n0 cells slots pc lv (.long y :: .long x :: st) h := by
  obtain ⟨p, l, e, s, m, args, below, meth, c, D, tc, sa, A⟩ := E
  subst hq
  obtain ⟨⟨hx, hb, hml, hown, hts⟩, hK, hT, hA, hr, hlk, hnm⟩ := hE
  intro ad H locs ls hP hD hS hl hn h0 h1
  exact lv_land hx hb hd (kk ad H locs ls hP hD hS hl hn h0 h1)

theorem A_lor (hE : AGood E cc nL own ret nm) (q : Nat) {x y : Int64} (hd : decode cc pc = .ok (.lor, 1)) (hq : pc + 1 = q)  (kk : AW E R nL Q ad0 n0 cells slots q lv (.long (x ||| y) :: st) h) : AW E R nL Q ad0 n0 cells slots pc lv (.long y :: .long x :: st) h := by
  obtain ⟨p, l, e, s, m, args, below, meth, c, D, tc, sa, A⟩ := E
  subst hq
  obtain ⟨⟨hx, hb, hml, hown, hts⟩, hK, hT, hA, hr, hlk, hnm⟩ := hE
  intro ad H locs ls hP hD hS hl hn h0 h1
  exact lv_lor hx hb hd (kk ad H locs ls hP hD hS hl hn h0 h1)

theorem A_lshl (hE : AGood E cc nL own ret nm) (q : Nat) {x : Int64} {y : Int32} (hd : decode cc pc = .ok (.lshl, 1)) (hq : pc + 1 = q)  (kk : AW E R nL Q ad0 n0 cells slots q lv (.long (x <<< (y.toInt64 &&& 63)) :: st) h) : AW E R nL Q ad0 n0 cells slots pc lv (.int y :: .long x :: st) h := by
  obtain ⟨p, l, e, s, m, args, below, meth, c, D, tc, sa, A⟩ := E
  subst hq
  obtain ⟨⟨hx, hb, hml, hown, hts⟩, hK, hT, hA, hr, hlk, hnm⟩ := hE
  intro ad H locs ls hP hD hS hl hn h0 h1
  exact lv_lshl hx hb hd rfl (kk ad H locs ls hP hD hS hl hn h0 h1)

theorem A_lshr (hE : AGood E cc nL own ret nm) (q : Nat) {x : Int64} {y : Int32} (hd : decode cc pc = .ok (.lshr, 1)) (hq : pc + 1 = q)  (kk : AW E R nL Q ad0 n0 cells slots q lv (.long (x >>> (y.toInt64 &&& 63)) :: st) h) : AW E R nL Q ad0 n0 cells slots pc lv (.int y :: .long x :: st) h := by
  obtain ⟨p, l, e, s, m, args, below, meth, c, D, tc, sa, A⟩ := E
  subst hq
  obtain ⟨⟨hx, hb, hml, hown, hts⟩, hK, hT, hA, hr, hlk, hnm⟩ := hE
  intro ad H locs ls hP hD hS hl hn h0 h1
  exact lv_lshr hx hb hd rfl (kk ad H locs ls hP hD hS hl hn h0 h1)

theorem A_lushr (hE : AGood E cc nL own ret nm) (q : Nat) {x : Int64} {y : Int32} (hd : decode cc pc = .ok (.lushr, 1)) (hq : pc + 1 = q)  (kk : AW E R nL Q ad0 n0 cells slots q lv (.long ((x.toUInt64 >>> (y.toInt64.toUInt64 &&& Int64.toUInt64 63)).toInt64) :: st) h) : AW E R nL Q ad0 n0 cells slots pc lv (.int y :: .long x :: st) h := by
  obtain ⟨p, l, e, s, m, args, below, meth, c, D, tc, sa, A⟩ := E
  subst hq
  obtain ⟨⟨hx, hb, hml, hown, hts⟩, hK, hT, hA, hr, hlk, hnm⟩ := hE
  intro ad H locs ls hP hD hS hl hn h0 h1
  exact lv_lushr hx hb hd rfl (kk ad H locs ls hP hD hS hl hn h0 h1)

theorem A_dup (hE : AGood E cc nL own ret nm) (q : Nat) {v : Value} (hd : decode cc pc = .ok (.dup, 1)) (hq : pc + 1 = q) (hc : (cat2 v) = false) (kk : AW E R nL Q ad0 n0 cells slots q lv (v :: v :: st) h) : AW E R nL Q ad0 n0 cells slots pc lv (v :: st) h := by
  obtain ⟨p, l, e, s, m, args, below, meth, c, D, tc, sa, A⟩ := E
  subst hq
  obtain ⟨⟨hx, hb, hml, hown, hts⟩, hK, hT, hA, hr, hlk, hnm⟩ := hE
  intro ad H locs ls hP hD hS hl hn h0 h1
  exact lv_dup hx hb hd (by cases v <;> first | rfl | (cases hc)) (kk ad H locs ls hP hD hS hl hn h0 h1)

theorem A_dup2 (hE : AGood E cc nL own ret nm) (q : Nat) {v w : Value} (hd : decode cc pc = .ok (.dup2, 1)) (hq : pc + 1 = q) (hc : (cat2 v) = false) (hc2 : (cat2 w) = false) (kk : AW E R nL Q ad0 n0 cells slots q lv (v :: w :: v :: w :: st) h) : AW E R nL Q ad0 n0 cells slots pc lv (v :: w :: st) h := by
  obtain ⟨p, l, e, s, m, args, below, meth, c, D, tc, sa, A⟩ := E
  subst hq
  obtain ⟨⟨hx, hb, hml, hown, hts⟩, hK, hT, hA, hr, hlk, hnm⟩ := hE
  intro ad H locs ls hP hD hS hl hn h0 h1
  exact lv_dup2_11 hx hb hd (by cases v <;> first | rfl | (cases hc)) (by cases w <;> first | rfl | (cases hc2)) (kk ad H locs ls hP hD hS hl hn h0 h1)

theorem A_pop (hE : AGood E cc nL own ret nm) (q : Nat) {v : Value} (hd : decode cc pc = .ok (.pop, 1)) (hq : pc + 1 = q) (hc : (cat2 v) = false) (kk : AW E R nL Q ad0 n0 cells slots q lv st h) : AW E R nL Q ad0 n0 cells slots pc lv (v :: st) h := by
  obtain ⟨p, l, e, s, m, args, below, meth, c, D, tc, sa, A⟩ := E
  subst hq
  obtain ⟨⟨hx, hb, hml, hown, hts⟩, hK, hT, hA, hr, hlk, hnm⟩ := hE
  intro ad H locs ls hP hD hS hl hn h0 h1
  exact lv_pop hx hb hd (by cases v <;> first | rfl | (cases hc)) (kk ad H locs ls hP hD hS hl hn h0 h1)

theorem A_if_eq (hE : AGood E cc nL own ret nm) (q tgt : Nat) {x  : Int32} {off : Int} (hd : decode cc pc = .ok (.ifCond .eq off, 3)) (hq : pc + 3 = q) (ht : (pc : Int) + off = (tgt : Int)) (kt : x = 0 → AW E R nL Q ad0 n0 cells slots tgt lv st h) (kf : ¬ x = 0 → AW E R nL Q ad0 n0 cells slots q lv st h) : AW E R nL Q ad0 n0 cells slots pc lv (.int x :: st) h := by
  obtain ⟨p, l, e, s, m, args, below, meth, c, D, tc, sa, A⟩ := E
  subst hq
  obtain ⟨⟨hx, hb, hml, hown, hts⟩, hK, hT, hA, hr, hlk, hnm⟩ := hE
  intro ad H locs ls hP hD hS hl hn h0 h1
  exact lv_if_eq hx hb hd ht (fun z => kt z ad H locs ls hP hD hS hl hn h0 h1) (fun z => kf z ad H locs ls hP hD hS hl hn h0 h1)

theorem A_icmp_eq (hE : AGood E cc nL own ret nm) (q tgt : Nat) {x y : Int32} {off : Int} (hd : decode cc pc = .ok (.if_icmp .eq off, 3)) (hq : pc + 3 = q) (ht : (pc : Int) + off = (tgt : Int)) (kt : x = y → AW E R nL Q ad0 n0 cells slots tgt lv st h) (kf : ¬ x = y → AW E R nL Q ad0 n0 cells slots q lv st h) : AW E R nL Q ad0 n0 cells slots pc lv (.int y :: .int x :: st) h := by
  obtain ⟨p, l, e, s, m, args, below, meth, c, D, tc, sa, A⟩ := E
  subst hq
  obtain ⟨⟨hx, hb, hml, hown, hts⟩, hK, hT, hA, hr, hlk, hnm⟩ := hE
  intro ad H locs ls hP hD hS hl hn h0 h1
  exact lv_icmp_eq hx hb hd ht (fun z => kt z ad H locs ls hP hD hS hl hn h0 h1) (fun z => kf z ad H locs ls hP hD hS hl hn h0 h1)

theorem A_if_ne (hE : AGood E cc nL own ret nm) (q tgt : Nat) {x  : Int32} {off : Int} (hd : decode cc pc = .ok (.ifCond .ne off, 3)) (hq : pc + 3 = q) (ht : (pc : Int) + off = (tgt : Int)) (kt : ¬ x = 0 → AW E R nL Q ad0 n0 cells slots tgt lv st h) (kf : x = 0 → AW E R nL Q ad0 n0 cells slots q lv st h) : AW E R nL Q ad0 n0 cells slots pc lv (.int x :: st) h := by
  obtain ⟨p, l, e, s, m, args, below, meth, c, D, tc, sa, A⟩ := E
  subst hq
  obtain ⟨⟨hx, hb, hml, hown, hts⟩, hK, hT, hA, hr, hlk, hnm⟩ := hE
  intro ad H locs ls hP hD hS hl hn h0 h1
  exact lv_if_ne hx hb hd ht (fun z => kt z ad H locs ls hP hD hS hl hn h0 h1) (fun z => kf z ad H locs ls hP hD hS hl hn h0 h1)

theorem A_icmp_ne (hE : AGood E cc nL own ret nm) (q tgt : Nat) {x y : Int32} {off : Int} (hd : decode cc pc = .ok (.if_icmp .ne off, 3)) (hq : pc + 3 = q) (ht : (pc : Int) + off = (tgt : Int)) (kt : ¬ x = y → AW E R nL Q ad0 n0 cells slots tgt lv st h) (kf : x = y → AW E R nL Q ad0 n0 cells slots q lv st h) : AW E R nL Q ad0 n0 cells slots pc lv (.int y :: .int x :: st) h := by
  obtain ⟨p, l, e, s, m, args, below, meth, c, D, tc, sa, A⟩ := E
  subst hq
  obtain ⟨⟨hx, hb, hml, hown, hts⟩, hK, hT, hA, hr, hlk, hnm⟩ := hE
  intro ad H locs ls hP hD hS hl hn h0 h1
  exact lv_icmp_ne hx hb hd ht (fun z => kt z ad H locs ls hP hD hS hl hn h0 h1) (fun z => kf z ad H locs ls hP hD hS hl hn h0 h1)

theorem A_if_lt (hE : AGood E cc nL own ret nm) (q tgt : Nat) {x  : Int32} {off : Int} (hd : decode cc pc = .ok (.ifCond .lt off, 3)) (hq : pc + 3 = q) (ht : (pc : Int) + off = (tgt : Int)) (kt : x < 0 → AW E R nL Q ad0 n0 cells slots tgt lv st h) (kf : ¬ x < 0 → AW E R nL Q ad0 n0 cells slots q lv st h) : AW E R nL Q ad0 n0 cells slots pc lv (.int x :: st) h := by
  obtain ⟨p, l, e, s, m, args, below, meth, c, D, tc, sa, A⟩ := E
  subst hq
  obtain ⟨⟨hx, hb, hml, hown, hts⟩, hK, hT, hA, hr, hlk, hnm⟩ := hE
  intro ad H locs ls hP hD hS hl hn h0 h1
  exact lv_if_lt hx hb hd ht (fun z => kt z ad H locs ls hP hD hS hl hn h0 h1) (fun z => kf z ad H locs ls hP hD hS hl hn h0 h1)

theorem A_icmp_lt (hE : AGood E cc nL own ret nm) (q tgt : Nat) {x y : Int32} {off : Int} (hd : decode cc pc = .ok (.if_icmp .lt off, 3)) (hq : pc + 3 = q) (ht : (pc : Int) + off = (tgt : Int)) (kt : x < y → AW E R nL Q ad0 n0 cells slots tgt lv st h) (kf : ¬ x < y → AW E R nL Q ad0 n0 cells slots q lv st h) : AW E R nL Q ad0 n0 cells slots pc lv (.int y :: .int x :: st) h := by
  obtain ⟨p, l, e, s, m, args, below, meth, c, D, tc, sa, A⟩ := E
  subst hq
  obtain ⟨⟨hx, hb, hml, hown, hts⟩, hK, hT, hA, hr, hlk, hnm⟩ := hE
  intro ad H locs ls hP hD hS hl hn h0 h1
  exact lv_icmp_lt hx hb hd ht (fun z => kt z ad H locs ls hP hD hS hl hn h0 h1) (fun z => kf z ad H locs ls hP hD hS hl hn h0 h1)

theorem A_if_ge (hE : AGood E cc nL own ret nm) (q tgt : Nat) {x  : Int32} {off : Int} (hd : decode cc pc = .ok (.ifCond .ge off, 3)) (hq : pc + 3 = q) (ht : (pc : Int) + off = (tgt : Int)) (kt : 0 ≤ x → AW E R nL Q ad0 n0 cells slots tgt lv st h) (kf : ¬ 0 ≤ x → AW E R nL Q ad0 n0 cells slots q lv st h) : AW E R nL Q ad0 n0 cells slots pc lv (.int x :: st) h := by
  obtain ⟨p, l, e, s, m, args, below, meth, c, D, tc, sa, A⟩ := E
  subst hq
  obtain ⟨⟨hx, hb, hml, hown, hts⟩, hK, hT, hA, hr, hlk, hnm⟩ := hE
  intro ad H locs ls hP hD hS hl hn h0 h1
  exact lv_if_ge hx hb hd ht (fun z => kt z ad H locs ls hP hD hS hl hn h0 h1) (fun z => kf z ad H locs ls hP hD hS hl hn h0 h1)

theorem A_icmp_ge (hE : AGood E cc nL own ret nm) (q tgt : Nat) {x y : Int32} {off : Int} (hd : decode cc pc = .ok (.if_icmp .ge off, 3)) (hq : pc + 3 = q) (ht : (pc : Int) + off = (tgt : Int)) (kt : y ≤ x → AW E R nL Q ad0 n0 cells slots tgt lv st h) (kf : ¬ y ≤ x → AW E R nL Q ad0 n0 cells slots q lv st h) : AW E R nL Q ad0 n0 cells slots pc lv (.int y :: .int x :: st) h := by
  obtain ⟨p, l, e, s, m, args, below, meth, c, D, tc, sa, A⟩ := E
  subst hq
  obtain ⟨⟨hx, hb, hml, hown, hts⟩, hK, hT, hA, hr, hlk, hnm⟩ := hE
  intro ad H locs ls hP hD hS hl hn h0 h1
  exact lv_icmp_ge hx hb hd ht (fun z => kt z ad H locs ls hP hD hS hl hn h0 h1) (fun z => kf z ad H locs ls hP hD hS hl hn h0 h1)

theorem A_if_gt (hE : AGood E cc nL own ret nm) (q tgt : Nat) {x  : Int32} {off : Int} (hd : decode cc pc = .ok (.ifCond .gt off, 3)) (hq : pc + 3 = q) (ht : (pc : Int) + off = (tgt : Int)) (kt : 0 < x → AW E R nL Q ad0 n0 cells slots tgt lv st h) (kf : ¬ 0 < x → AW E R nL Q ad0 n0 cells slots q lv st h) : AW E R nL Q ad0 n0 cells slots pc lv (.int x :: st) h := by
  obtain ⟨p, l, e, s, m, args, below, meth, c, D, tc, sa, A⟩ := E
  subst hq
  obtain ⟨⟨hx, hb, hml, hown, hts⟩, hK, hT, hA, hr, hlk, hnm⟩ := hE
  intro ad H locs ls hP hD hS hl hn h0 h1
  exact lv_if_gt hx hb hd ht (fun z => kt z ad H locs ls hP hD hS hl hn h0 h1) (fun z => kf z ad H locs ls hP hD hS hl hn h0 h1)

theorem A_icmp_gt (hE : AGood E cc nL own ret nm) (q tgt : Nat) {x y : Int32} {off : Int} (hd : decode cc pc = .ok (.if_icmp .gt off, 3)) (hq : pc + 3 = q) (ht : (pc : Int) + off = (tgt : Int)) (kt : y < x → AW E R nL Q ad0 n0 cells slots tgt lv st h) (kf : ¬ y < x → AW E R nL Q ad0 n0 cells slots q lv st h) : AW E R nL Q ad0 n0 cells slots pc lv (.int y :: .int x :: st) h := by
  obtain ⟨p, l, e, s, m, args, below, meth, c, D, tc, sa, A⟩ := E
  subst hq
  obtain ⟨⟨hx, hb, hml, hown, hts⟩, hK, hT, hA, hr, hlk, hnm⟩ := hE
  intro ad H locs ls hP hD hS hl hn h0 h1
  exact lv_icmp_gt hx hb hd ht (fun z => kt z ad H locs ls hP hD hS hl hn h0 h1) (fun z => kf z ad H locs ls hP hD hS hl hn h0 h1)

theorem A_if_le (hE : AGood E cc nL own ret nm) (q tgt : Nat) {x  : Int32} {off : Int} (hd : decode cc pc = .ok (.ifCond .le off, 3)) (hq : pc + 3 = q) (ht : (pc : Int) + off = (tgt : Int)) (kt : x ≤ 0 → AW E R nL Q ad0 n0 cells slots tgt lv st h) (kf : ¬ x ≤ 0 → AW E R nL Q ad0 n0 cells slots q lv st h) : AW E R nL Q ad0 n0 cells slots pc lv (.int x :: st) h := by
  obtain ⟨p, l, e, s, m, args, below, meth, c, D, tc, sa, A⟩ := E
  subst hq
  obtain ⟨⟨hx, hb, hml, hown, hts⟩, hK, hT, hA, hr, hlk, hnm⟩ := hE
  intro ad H locs ls hP hD hS hl hn h0 h1
  exact lv_if_le hx hb hd ht (fun z => kt z ad H locs ls hP hD hS hl hn h0 h1) (fun z => kf z ad H locs ls hP hD hS hl hn h0 h1)

theorem A_icmp_le (hE : AGood E cc nL own ret nm) (q tgt : Nat) {x y : Int32} {off : Int} (hd : decode cc pc = .ok (.if_icmp .le off, 3)) (hq : pc + 3 = q) (ht : (pc : Int) + off = (tgt : Int)) (kt : x ≤ y → AW E R nL Q ad0 n0 cells slots tgt lv st h) (kf : ¬ x ≤ y → AW E R nL Q ad0 n0 cells slots q lv st h) : AW E R nL Q ad0 n0 cells slots pc lv (.int y :: .int x :: st) h := by
  obtain ⟨p, l, e, s, m, args, below, meth, c, D, tc, sa, A⟩ := E
  subst hq
  obtain ⟨⟨hx, hb, hml, hown, hts⟩, hK, hT, hA, hr, hlk, hnm⟩ := hE
  intro ad H locs ls hP hD hS hl hn h0 h1
  exact lv_icmp_le hx hb hd ht (fun z => kt z ad H locs ls hP hD hS hl hn h0 h1) (fun z => kf z ad H locs ls hP hD hS hl hn h0 h1)

theorem A_goto (hE : AGood E cc nL own ret nm) (tgt : Nat) {off : Int} (hd : decode cc pc = .ok (.goto off, 3)) (ht : (pc : Int) + off = (tgt : Int)) (kk : AW E R nL Q ad0 n0 cells slots tgt lv st h) : AW E R nL Q ad0 n0 cells slots pc lv st h := by
  obtain ⟨p, l, e, s, m, args, below, meth, c, D, tc, sa, A⟩ := E
  obtain ⟨⟨hx, hb, hml, hown, hts⟩, hK, hT, hA, hr, hlk, hnm⟩ := hE
  intro ad H locs ls hP hD hS hl hn h0 h1
  exact lv_goto hx hb hd ht (kk ad H locs ls hP hD hS hl hn h0 h1)
theorem A_tabIn (hE : AGood E cc nL own ret nm) (tgt : Nat) {x : Int32} {dflt lo hi off : Int} {offs : Array Int} {len : Nat} (hd : decode cc pc = .ok (.tableswitch dflt lo hi offs, len)) (h1 : ¬ x.toInt < lo) (h2 : ¬ hi < x.toInt) (ho : offs[(x.toInt - lo).toNat]? = some off) (ht : (pc : Int) + off = (tgt : Int)) (kk : AW E R nL Q ad0 n0 cells slots tgt lv st h) : AW E R nL Q ad0 n0 cells slots pc lv (.int x :: st) h := by
  obtain ⟨p, l, e, s, m, args, below, meth, c, D, tc, sa, A⟩ := E
  obtain ⟨⟨hx, hb, hml, hown, hts⟩, hK, hT, hA, hr, hlk, hnm⟩ := hE
  intro ad H locs ls hP hD hS hl hn h0 h1'
  exact lv_tableIn hx hb hd h1 h2 ho ht (kk ad H locs ls hP hD hS hl hn h0 h1')
theorem A_tabOut (hE : AGood E cc nL own ret nm) (tgt : Nat) {x : Int32} {dflt lo hi : Int} {offs : Array Int} {len : Nat} (hd : decode cc pc = .ok (.tableswitch dflt lo hi offs, len)) (h1 : x.toInt < lo ∨ hi < x.toInt) (ht : (pc : Int) + dflt = (tgt : Int)) (kk : AW E R nL Q ad0 n0 cells slots tgt lv st h) : AW E R nL Q ad0 n0 cells slots pc lv (.int x :: st) h := by
  obtain ⟨p, l, e, s, m, args, below, meth, c, D, tc, sa, A⟩ := E
  obtain ⟨⟨hx, hb, hml, hown, hts⟩, hK, hT, hA, hr, hlk, hnm⟩ := hE
  intro ad H locs ls hP hD hS hl hn h0 h1'
  exact lv_tableOut hx hb hd h1 ht (kk ad H locs ls hP hD hS hl hn h0 h1')
theorem A_lookup (hE : AGood E cc nL own ret nm) (tgt : Nat) {x : Int32} {dflt off : Int} {ps : Array (Int × Int)} {len : Nat} (hd : decode cc pc = .ok (.lookupswitch dflt ps, len)) (hp : (ps.toList.zip (ps.toList.drop 1)).all (fun (a, next) => a.1 < next.1) = true) (ho : Op.lookupswitch.offset ps.toList dflt x.toInt = off) (ht : (pc : Int) + off = (tgt : Int)) (kk : AW E R nL Q ad0 n0 cells slots tgt lv st h) : AW E R nL Q ad0 n0 cells slots pc lv (.int x :: st) h := by
  obtain ⟨p, l, e, s, m, args, below, meth, c, D, tc, sa, A⟩ := E
  obtain ⟨⟨hx, hb, hml, hown, hts⟩, hK, hT, hA, hr, hlk, hnm⟩ := hE
  intro ad H locs ls hP hD hS hl hn h0 h1
  exact lv_lookup hx hb hd hp ho ht (kk ad H locs ls hP hD hS hl hn h0 h1)

theorem A_alen (hE : AGood E cc nL own ret nm) (q : Nat) {i : Nat} {n : Nat} {f : Nat → Int32} (hd : decode cc pc = .ok (.arraylength, 1)) (hq : pc + 1 = q) (hh : getO h i = some (.inl (0, n, .inl f))) (kk : AW E R nL Q ad0 n0 cells slots q lv (.int (nI n) :: st) h) : AW E R nL Q ad0 n0 cells slots pc lv (.ref i :: st) h := by
  obtain ⟨p, l, e, s, m, args, below, meth, c, D, tc, sa, A⟩ := E
  subst hq
  obtain ⟨⟨hx, hb, hml, hown, hts⟩, hK, hT, hA, hr, hlk, hnm⟩ := hE
  intro ad H locs ls hP hD hS hl hn h0 h1
  exact va_alen hx hb hK hP i 0 (cw_get hh) rfl rfl hd (kk ad H locs ls hP hD hS hl hn h0 h1)
/-- an element at a place that is a small number -/
theorem A_iald (hE : AGood E cc nL own ret nm) (q k : Nat) {i n : Nat} {f : Nat → Int32} {x : Int32} (hd : decode cc pc = .ok (.iaload, 1)) (hq : pc + 1 = q) (hh : getO h i = some (.inl (0, n, .inl f))) (hx : x = nI k) (hk : k < n) (hn : Nat.ble n 1000 = true) (kk : AW E R nL Q ad0 n0 cells slots q lv (.int (f k) :: st) h) : AW E R nL Q ad0 n0 cells slots pc lv (.int x :: .ref i :: st) h := by
  have hn' : n ≤ 1000 := Nat.le_of_ble_eq_true hn
  subst hx
  refine A_iaload hE q hd hq hh (vp_in_nI hk (by omega)) ?_
  rw [nI_clamp (by omega)]
  exact kk
theorem A_iast (hE : AGood E cc nL own ret nm) (q k : Nat) {i n : Nat} {f : Nat → Int32} {x y : Int32} {h' : List AE} (hd : decode cc pc = .ok (.iastore, 1)) (hq : pc + 1 = q) (hh : getO h i = some (.inl (0, n, .inl f))) (hx : x = nI k) (hk : k < n) (hn : Nat.ble n 1000 = true) (hs : setO h i (.inl (0, n, .inl (upd f k y))) = some h') (kk : AW E R nL Q ad0 n0 cells slots q lv st h') : AW E R nL Q ad0 n0 cells slots pc lv (.int y :: .int x :: .ref i :: st) h := by
  have hn' : n ≤ 1000 := Nat.le_of_ble_eq_true hn
  subst hx
  refine A_iastore hE q hd hq hh (vp_in_nI hk (by omega)) ?_ kk
  rw [nI_clamp (by omega)]
  exact hs
theorem A_aald (hE : AGood E cc nL own ret nm) (q k : Nat) {i n j : Nat} {f : Nat → Option Nat} {x : Int32} (hd : decode cc pc = .ok (.aaload, 1)) (hq : pc + 1 = q) (hh : getO h i = some (.inl (1, n, .inr (.inr (.inr (.inr f)))))) (hx : x = nI k) (hk : k < n) (hn : Nat.ble n 1000 = true) (hj : f k = some j) (kk : AW E R nL Q ad0 n0 cells slots q lv (.ref j :: st) h) : AW E R nL Q ad0 n0 cells slots pc lv (.int x :: .ref i :: st) h := by
  have hn' : n ≤ 1000 := Nat.le_of_ble_eq_true hn
  subst hx
  obtain ⟨p, l, e, s, m, args, below, meth, c, D, tc, sa, A⟩ := E
  subst hq
  obtain ⟨⟨hx, hb, hml, hown, hts⟩, hK, hT, hA, hr, hlk, hnm⟩ := hE
  intro ad H locs ls hP hD hS hl hn h0 h1
  refine va_aldq hx hb hK hP i 1 (cw_get hh) rfl (vp_in_nI hk (by omega)) hd ?_
  rw [nI_clamp (by omega), hj]
  exact kk ad H locs ls hP hD hS hl hn h0 h1
theorem A_aast (hE : AGood E cc nL own ret nm) (q k : Nat) {i n j : Nat} {f : Nat → Option Nat} {fs : List Value} {x : Int32} {h' : List AE} (hd : decode cc pc = .ok (.aastore, 1)) (hq : pc + 1 = q) (hh : getO h i = some (.inl (1, n, .inr (.inr (.inr (.inr f)))))) (hj : getO h j = some (.inr (4, fs))) (hx : x = nI k) (hk : k < n) (hn : Nat.ble n 1000 = true) (hs : setO h i (.inl (1, n, .inr (.inr (.inr (.inr (va_up f k (some j))))))) = some h') (kk : AW E R nL Q ad0 n0 cells slots q lv st h') : AW E R nL Q ad0 n0 cells slots pc lv (.ref j :: .int x :: .ref i :: st) h := by
  have hn' : n ≤ 1000 := Nat.le_of_ble_eq_true hn
  subst hx
  obtain ⟨p, l, e, s, m, args, below, meth, c, D, tc, sa, A⟩ := E
  subst hq
  obtain ⟨⟨hx, hb, hml, hown, hts⟩, hK, hT, hA, hr, hlk, hnm⟩ := hE
  intro ad H locs ls hP hD hS hl hn h0 h1
  obtain ⟨e1, e2⟩ := cw_set (ad := ad) (sa := sa) (tc := tc) hs
  refine va_astq hx hb hK hP hD hS i 1 j 4 (cw_get hh) rfl (cw_get hj) rfl (vp_in_nI hk (by omega)) hd fun H1 locs1 hP1 hD1 hS1 => ?_
  rw [nI_clamp (by omega)] at hP1 hD1
  have e3 : (ce ad sa tc (.inl (1, n, .inr (.inr (.inr (.inr (va_up f k (some j)))))))) = .inl (tc 1, n, .inr (.inr (.inr (.inr (va_up (fun z => (f z).map ad) k (some (ad j))))))) := by
    show (Sum.inl (tc 1, n, .inr (.inr (.inr (.inr (fun z => (va_up f k (some j) z).map ad))))) : va_E) = _
    have e4 : (fun z => (va_up f k (some j) z).map ad) = va_up (fun z => (f z).map ad) k (some (ad j)) := by
      funext z
      by_cases hz : z = k
      · simp [va_up, hz]
      · simp [va_up, hz]
    rw [e4]
  rw [e3] at e1
  rw [← e1] at hP1 hD1
  exact kk ad H1 locs1 ls hP1 hD1 hS1 hl (e2.trans hn) h0 h1

theorem A_gsAbove (hE : AGood E cc nL own ret nm) (q : Nat) {idx : Nat} (hd : decode cc pc = .ok (.getstatic idx, 3)) (hq : pc + 3 = q) (hf : Cond.fieldLink own idx "LoanedRound" "ABOVE" "[I" ∈ lw_g) (kk : AW E R nL Q ad0 n0 cells slots q lv (.retAddr 0 :: st) h) : AW E R nL Q ad0 n0 cells slots pc lv st h := by
  obtain ⟨p, l, e, s, m, args, below, meth, c, D, tc, sa, A⟩ := E
  subst hq
  obtain ⟨⟨hx, hb, hml, hown, hts⟩, hK, hT, hA, hr, hlk, hnm⟩ := hE
  intro ad H locs ls hP hD hS hl hn h0 h1
  exact va_gets hx hb hT.1.1 hS hown (hts _ hf) (fun _ z => z) hd (kk ad H locs ls hP hD hS hl hn h0 h1)
theorem A_gsAboveN (hE : AGood E cc nL "LoanedRound$Voices" ret nm) (q : Nat) (hd : decode cc pc = .ok (.getstatic 57, 3)) (hq : pc + 3 = q) (kk : AW E R nL Q ad0 n0 cells slots q lv (.retAddr 0 :: st) h) : AW E R nL Q ad0 n0 cells slots pc lv st h := by
  obtain ⟨p, l, e, s, m, args, below, meth, c, D, tc, sa, A⟩ := E
  subst hq
  obtain ⟨⟨hx, hb, hml, hown, hts⟩, hK, hT, hA, hr, hlk, hnm⟩ := hE
  intro ad H locs ls hP hD hS hl hn h0 h1
  exact va_getsN hx hb hT.1.1 hS hown (va_Nw.use rfl hT.2.2.2.2.2.1) (fun _ z => z) hd (kk ad H locs ls hP hD hS hl hn h0 h1)
theorem A_gsBodies (hE : AGood E cc nL own ret nm) (q : Nat) {idx : Nat} (hd : decode cc pc = .ok (.getstatic idx, 3)) (hq : pc + 3 = q) (hf : Cond.fieldLink own idx "LoanedRound$Voices" "BODIES" "[I" ∈ lw_g) (kk : AW E R nL Q ad0 n0 cells slots q lv (.retAddr 1 :: st) h) : AW E R nL Q ad0 n0 cells slots pc lv st h := by
  obtain ⟨p, l, e, s, m, args, below, meth, c, D, tc, sa, A⟩ := E
  subst hq
  obtain ⟨⟨hx, hb, hml, hown, hts⟩, hK, hT, hA, hr, hlk, hnm⟩ := hE
  intro ad H locs ls hP hD hS hl hn h0 h1
  exact va_gets hx hb hT.2.1.1 hS hown (hts _ hf) (fun _ z => z) hd (kk ad H locs ls hP hD hS hl hn h0 h1)
theorem A_tabA (hE : AGood E cc nL own ret nm) (q k : Nat) {x : Int32} (hd : decode cc pc = .ok (.iaload, 1)) (hq : pc + 1 = q) (hx : x = nI k) (hk : k < 7) (v : Int32) (hv : aboveL.getD k 0 = v) (kk : AW E R nL Q ad0 n0 cells slots q lv (.int v :: st) h) : AW E R nL Q ad0 n0 cells slots pc lv (.int x :: .retAddr 0 :: st) h := by
  subst hx
  obtain ⟨p, l, e, s, m, args, below, meth, c, D, tc, sa, A⟩ := E
  subst hq
  obtain ⟨⟨hx, hb, hml, hown, hts⟩, hK, hT, hA, hr, hlk, hnm⟩ := hE
  intro ad H locs ls hP hD hS hl hn h0 h1
  exact va_ti hx hb hT.1.2 hS (vp_in_nI hk (by omega)) (by rw [nI_clamp (by omega), hv]; rfl) hd (kk ad H locs ls hP hD hS hl hn h0 h1)
theorem A_tabB (hE : AGood E cc nL own ret nm) (q k : Nat) {x : Int32} (hd : decode cc pc = .ok (.iaload, 1)) (hq : pc + 1 = q) (hx : x = nI k) (hk : k < 28) (v : Int32) (hv : bodiesL.getD k 0 = v) (kk : AW E R nL Q ad0 n0 cells slots q lv (.int v :: st) h) : AW E R nL Q ad0 n0 cells slots pc lv (.int x :: .retAddr 1 :: st) h := by
  subst hx
  obtain ⟨p, l, e, s, m, args, below, meth, c, D, tc, sa, A⟩ := E
  subst hq
  obtain ⟨⟨hx, hb, hml, hown, hts⟩, hK, hT, hA, hr, hlk, hnm⟩ := hE
  intro ad H locs ls hP hD hS hl hn h0 h1
  exact va_ti hx hb hT.2.1.2 hS (vp_in_nI hk (by omega)) (by rw [nI_clamp (by omega), hv]; rfl) hd (kk ad H locs ls hP hD hS hl hn h0 h1)
theorem A_ldcE (hE : AGood E cc nL RX1 ret nm) (q : Nat) (hd : decode cc pc = .ok (.ldc 23, 2)) (hq : pc + 2 = q) (kk : AW E R nL Q ad0 n0 cells slots q lv (.retAddr 2 :: st) h) : AW E R nL Q ad0 n0 cells slots pc lv st h := by
  obtain ⟨p, l, e, s, m, args, below, meth, c, D, tc, sa, A⟩ := E
  subst hq
  obtain ⟨⟨hx, hb, hml, hown, hts⟩, hK, hT, hA, hr, hlk, hnm⟩ := hE
  intro ad H locs ls hP hD hS hl hn h0 h1
  exact va_ldcS hx hb hown hT.2.2.2.2.1.1 hd (kk ad H locs ls hP hD hS hl hn h0 h1)
theorem A_ldcV (hE : AGood E cc nL RX1 ret nm) (q : Nat) (hd : decode cc pc = .ok (.ldc 36, 2)) (hq : pc + 2 = q) (kk : AW E R nL Q ad0 n0 cells slots q lv (.retAddr 3 :: st) h) : AW E R nL Q ad0 n0 cells slots pc lv st h := by
  obtain ⟨p, l, e, s, m, args, below, meth, c, D, tc, sa, A⟩ := E
  subst hq
  obtain ⟨⟨hx, hb, hml, hown, hts⟩, hK, hT, hA, hr, hlk, hnm⟩ := hE
  intro ad H locs ls hP hD hS hl hn h0 h1
  exact va_ldcS hx hb hown hT.2.2.2.2.1.2.1 hd (kk ad H locs ls hP hD hS hl hn h0 h1)
theorem A_ldcL (hE : AGood E cc nL RX1 ret nm) (q : Nat) (hd : decode cc pc = .ok (.ldc 38, 2)) (hq : pc + 2 = q) (kk : AW E R nL Q ad0 n0 cells slots q lv (.retAddr 4 :: st) h) : AW E R nL Q ad0 n0 cells slots pc lv st h := by
  obtain ⟨p, l, e, s, m, args, below, meth, c, D, tc, sa, A⟩ := E
  subst hq
  obtain ⟨⟨hx, hb, hml, hown, hts⟩, hK, hT, hA, hr, hlk, hnm⟩ := hE
  intro ad H locs ls hP hD hS hl hn h0 h1
  exact va_ldcS hx hb hown hT.2.2.2.2.1.2.2 hd (kk ad H locs ls hP hD hS hl hn h0 h1)

theorem A_mmax (hE : AGood E cc nL own ret nm) (q : Nat) {idx : Nat} {x y : Int32} (hd : decode cc pc = .ok (.invokestatic idx, 3)) (hq : pc + 3 = q) (hlkk : Cond.methodLink own idx Lib.Math.max.name ∈ lw_g) (hst : Cond.static Lib.Math.max.name ∈ lw_g) (hcd : Cond.code Lib.Math.max.name Lib.Math.max.code 2 (some .int) ∈ lw_g) (hin : Cond.initialized "java/lang/Math" ∈ lw_g) (hfr : Nat.ble 1 R.frames = true) (hlo : ((st.map (cv (fun _ => 0) (fun _ => 0))).map fun v => v.category).sum + 13 ≤ R.locals) (hc : cells ≤ R.cells) (hs : slots ≤ R.slots) (kk : AW E R nL Q ad0 n0 cells slots q lv (.int (if x < y then y else x) :: st) h) : AW E R nL Q ad0 n0 cells slots pc lv (.int y :: .int x :: st) h := by
  obtain ⟨p, l, e, s, m, args, below, meth, c, D, tc, sa, A⟩ := E
  subst hq
  obtain ⟨⟨hx, hb, hml, hown, hts⟩, hK, hT, hA, hr, hlk, hnm⟩ := hE
  intro ad H locs ls hP hD hS hl hn h0 h1
  have hcat : ((st.map (cv ad sa)).map fun v => v.category) = ((st.map (cv (fun _ => 0) (fun _ => 0))).map fun v => v.category) := by
    rw [List.map_map, List.map_map]
    refine List.map_congr_left fun v _ => ?_
    cases v <;> rfl
  exact va_mmax hx hb (hml.trans hl.1.symm) hown (hts _ hlkk) (hts _ hst) (hts _ hin) (hts _ hcd) (Nat.le_of_ble_eq_true hfr) (by rw [hcat]; exact hlo) hc hs hd (kk ad H locs ls hP hD hS hl hn h0 h1)
theorem A_mmin (hE : AGood E cc nL own ret nm) (q : Nat) {idx : Nat} {x y : Int32} (hd : decode cc pc = .ok (.invokestatic idx, 3)) (hq : pc + 3 = q) (hlkk : Cond.methodLink own idx Lib.Math.min.name ∈ lw_g) (hst : Cond.static Lib.Math.min.name ∈ lw_g) (hcd : Cond.code Lib.Math.min.name Lib.Math.min.code 2 (some .int) ∈ lw_g) (hin : Cond.initialized "java/lang/Math" ∈ lw_g) (hfr : Nat.ble 1 R.frames = true) (hlo : ((st.map (cv (fun _ => 0) (fun _ => 0))).map fun v => v.category).sum + 13 ≤ R.locals) (hc : cells ≤ R.cells) (hs : slots ≤ R.slots) (kk : AW E R nL Q ad0 n0 cells slots q lv (.int (if y < x then y else x) :: st) h) : AW E R nL Q ad0 n0 cells slots pc lv (.int y :: .int x :: st) h := by
  obtain ⟨p, l, e, s, m, args, below, meth, c, D, tc, sa, A⟩ := E
  subst hq
  obtain ⟨⟨hx, hb, hml, hown, hts⟩, hK, hT, hA, hr, hlk, hnm⟩ := hE
  intro ad H locs ls hP hD hS hl hn h0 h1
  have hcat : ((st.map (cv ad sa)).map fun v => v.category) = ((st.map (cv (fun _ => 0) (fun _ => 0))).map fun v => v.category) := by
    rw [List.map_map, List.map_map]
    refine List.map_congr_left fun v _ => ?_
    cases v <;> rfl
  exact va_mmin hx hb (hml.trans hl.1.symm) hown (hts _ hlkk) (hts _ hst) (hts _ hin) (hts _ hcd) (Nat.le_of_ble_eq_true hfr) (by rw [hcat]; exact hlo) hc hs hd (kk ad H locs ls hP hD hS hl hn h0 h1)
theorem A_objInit (hE : AGood E cc nL own ret nm) (q : Nat) {idx i : Nat} (hd : decode cc pc = .ok (.invokespecial idx, 3)) (hq : pc + 3 = q) (hlkk : Cond.methodLink own idx Lib.objectInit ∈ lw_g) (hin : Cond.instanceMethod Lib.objectInit ∈ lw_g) (hcd : Cond.code Lib.objectInit ⟨#[0xb1]⟩ 1 none ∈ lw_g) (hfr : Nat.ble 1 R.frames = true) (hlo : ((st.map (cv (fun _ => 0) (fun _ => 0))).map fun v => v.category).sum + 12 ≤ R.locals) (kk : AW E R nL Q ad0 n0 cells slots q lv st h) : AW E R nL Q ad0 n0 cells slots pc lv (.ref i :: st) h := by
  obtain ⟨p, l, e, s, m, args, below, meth, c, D, tc, sa, A⟩ := E
  subst hq
  obtain ⟨⟨hx, hb, hml, hown, hts⟩, hK, hT, hA, hr, hlk, hnm⟩ := hE
  intro ad H locs ls hP hD hS hl hn h0 h1
  have hcat : ((st.map (cv ad sa)).map fun v => v.category) = ((st.map (cv (fun _ => 0) (fun _ => 0))).map fun v => v.category) := by
    rw [List.map_map, List.map_map]
    refine List.map_congr_left fun v _ => ?_
    cases v <;> rfl
  refine W.objInit hx hb hown (hts _ hlkk) (hts _ hin) (hts _ hcd) rfl (hl.1.trans hml.symm) rfl hd (Nat.le_of_ble_eq_true hfr) ?_ (kk ad H locs ls hP hD hS hl hn h0 h1)
  rw [hcat]
  show 2 * 0 + _ + 12 ≤ _
  omega

theorem A_copyi (hE : AGood E cc nL own ret nm) (q : Nat) {idx i j n0' n1 : Nat} {f g : Nat → Int32} {sp dp n : Int32} {h' : List AE} (hd : decode cc pc = .ok (.invokestatic idx, 3)) (hq : pc + 3 = q) (hlkk : Cond.methodLink own idx arraycopyName ∈ lw_g) (hnt : Cond.native arraycopyName ∈ lw_g) (hst : Cond.static arraycopyName ∈ lw_g) (hin : Cond.initialized "java/lang/System" ∈ lw_g) (hf : getO h i = some (.inl (0, n0', .inl f))) (hg : getO h j = some (.inl (0, n1, .inl g))) (a1 : ¬ sp < 0) (a2 : ¬ dp < 0) (a3 : ¬ n < 0) (a4 : sp.toNatClampNeg + n.toNatClampNeg ≤ n0') (a5 : dp.toNatClampNeg + n.toNatClampNeg ≤ n1) (hfr : Nat.ble 1 R.frames = true) (hlo : ((st.map (cv (fun _ => 0) (fun _ => 0))).map fun v => v.category).sum + (nativeFrameWords "java/lang/System" "arraycopy" 5 + 11) ≤ R.locals) (hs : setO h j (.inl (0, n1, .inl (va_cpy f g sp.toNatClampNeg dp.toNatClampNeg n.toNatClampNeg))) = some h') (kk : AW E R nL Q ad0 n0 cells slots q lv st h') : AW E R nL Q ad0 n0 cells slots pc lv (.int n :: .int dp :: .ref j :: .int sp :: .ref i :: st) h := by
  obtain ⟨p, l, e, s, m, args, below, meth, c, D, tc, sa, A⟩ := E
  subst hq
  obtain ⟨⟨hx, hb, hml, hown, hts⟩, hK, hT, hA, hr, hlk, hnm⟩ := hE
  intro ad H locs ls hP hD hS hl hn h0 h1
  have hcat : ((st.map (cv ad sa)).map fun v => v.category) = ((st.map (cv (fun _ => 0) (fun _ => 0))).map fun v => v.category) := by
    rw [List.map_map, List.map_map]
    refine List.map_congr_left fun v _ => ?_
    cases v <;> rfl
  obtain ⟨e1, e2⟩ := cw_set (ad := ad) (sa := sa) (tc := tc) hs
  refine va_copyi hx hb (hml.trans hl.1.symm) hown (hts _ hlkk) (hts _ hnt) (hts _ hst) (hts _ hin) hK hP hD hS i j 0 0 (cw_get hf) (cw_get hg) rfl rfl rfl a1 a2 a3 a4 a5 (fun _ _ => rfl) (Nat.le_of_ble_eq_true hfr) (by rw [hcat]; exact hlo) hd fun H1 locs1 hP1 hD1 hS1 => ?_
  have hP1 : va_P D vwCl ((cw ad sa tc h).set j (ad j, ce ad sa tc (.inl (0, n1, .inl (va_cpy f g sp.toNatClampNeg dp.toNatClampNeg n.toNatClampNeg))))) H1 := hP1
  have hD1 : va_D A ((cw ad sa tc h).set j (ad j, ce ad sa tc (.inl (0, n1, .inl (va_cpy f g sp.toNatClampNeg dp.toNatClampNeg n.toNatClampNeg))))) := hD1
  rw [← e1] at hP1 hD1
  exact kk ad H1 locs1 ls hP1 hD1 hS1 hl (e2.trans hn) h0 h1
end ROWS2
end
section
/-! CONTRACTS over the abstract machine, their ends and calls -/
def rn (is : List Nat) (i : Nat) : Nat := match getO is i with
  | some j => j
  | none => i
def rv (is : List Nat) (v : Value) : Value := match v with
  | .ref i => .ref (rn is i)
  | .retAddr k => .retAddr k
  | .int x => .int x
  | .long x => .long x
  | .float x => .float x
  | .double x => .double x
  | .null => .null
def ra (is : List Nat) (a : vp_A) : vp_A := match a with
  | (n, .inl f) => (n, .inl f)
  | (n, .inr (.inl f)) => (n, .inr (.inl f))
  | (n, .inr (.inr (.inl f))) => (n, .inr (.inr (.inl f)))
  | (n, .inr (.inr (.inr (.inl f)))) => (n, .inr (.inr (.inr (.inl f))))
  | (n, .inr (.inr (.inr (.inr f)))) => (n, .inr (.inr (.inr (.inr (fun j => (f j).map (rn is))))))
def re (is : List Nat) (e : AE) : AE := match e with
  | .inl (k, a) => .inl (k, ra is a)
  | .inr (c, fs) => .inr (c, fs.map (rv is))
theorem cv_rn (ad sa : Nat → Nat) (is : List Nat) (v : Value) : cv (fun i => ad (rn is i)) sa v = cv ad sa (rv is v) := by cases v <;> rfl
theorem ce_rn (ad sa : Nat → Nat) (tc : Nat → ClassId) (is : List Nat) (e : AE) : ce (fun i => ad (rn is i)) sa tc e = ce ad sa tc (re is e) := by
  cases e with
  | inl x =>
    obtain ⟨k, n, f | f | f | f | f⟩ := x
    · rfl
    · rfl
    · rfl
    · rfl
    · show (Sum.inl (tc k, n, Sum.inr (Sum.inr (Sum.inr (Sum.inr (fun j => (f j).map (fun i => ad (rn is i))))))) : va_E) = Sum.inl (tc k, n, Sum.inr (Sum.inr (Sum.inr (Sum.inr (fun j => ((f j).map (rn is)).map ad)))))
      have e4 : (fun j => (f j).map (fun i => ad (rn is i))) = (fun j => ((f j).map (rn is)).map ad) := by
        funext j
        cases f j <;> rfl
      rw [e4]
  | inr x =>
    obtain ⟨c, fs⟩ := x
    show (Sum.inr (c, fs.map (cv (fun i => ad (rn is i)) sa)) : va_E) = Sum.inr (c, (fs.map (rv is)).map (cv ad sa))
    rw [List.map_map]
    congr 2
    exact List.map_congr_left fun v _ => cv_rn ad sa is v
theorem gets_spec : ∀ (h : List AE) (is : List Nat) (r : List AE), gets h is = some r → r.length = is.length ∧ ∀ k i : Nat, is[k]? = some i → ∃ e : AE, h[i]? = some e ∧ r[k]? = some e
  | _, [], r, hr => by
    simp only [gets, Option.some.injEq] at hr
    subst hr
    exact ⟨rfl, fun k i hk => by simp at hk⟩
  | h, j :: is, r, hr => by
    cases h1 : getO h j with
    | none => simp [gets, h1] at hr
    | some e =>
      cases h2 : gets h is with
      | none => simp [gets, h1, h2] at hr
      | some r2 =>
        simp only [gets, h1, h2, Option.some.injEq] at hr
        subst hr
        obtain ⟨g1, g2⟩ := gets_spec h is r2 h2
        refine ⟨by simp [g1], fun k i hk => ?_⟩
        cases k with
        | zero =>
          simp only [List.getElem?_cons_zero, Option.some.injEq] at hk
          subst hk
          rw [getO_eq] at h1
          exact ⟨e, h1, rfl⟩
        | succ k =>
          rw [List.getElem?_cons_succ] at hk
          rw [List.getElem?_cons_succ]
          exact g2 k i hk
theorem wbO_spec : ∀ (is : List Nat) (r h h2 : List AE), wbO is r h = some h2 → va_nd is = true → h2.length = h.length ∧ (∀ k : Nat, k ∉ is → h2[k]? = h[k]?) ∧ ∀ j i : Nat, is[j]? = some i → ∃ e : AE, r[j]? = some e ∧ h2[i]? = some e
  | [], _, h, h2, hw, _ => by
    simp only [wbO, Option.some.injEq] at hw
    subst hw
    exact ⟨rfl, fun _ _ => rfl, fun j i hj => by simp at hj⟩
  | _ :: _, [], _, _, hw, _ => by simp [wbO] at hw
  | i :: is, e :: r, h, h2, hw, hn => by
    simp only [va_nd, Bool.and_eq_true, decide_eq_true_eq] at hn
    cases h1 : setO h i e with
    | none => simp [wbO, h1] at hw
    | some h' =>
      simp only [wbO, h1] at hw
      obtain ⟨rfl, hl⟩ := setO_eq _ _ _ _ h1
      obtain ⟨g1, g2, g3⟩ := wbO_spec is r _ h2 hw hn.2
      refine ⟨by simpa using g1, fun k hk => ?_, fun j z hj => ?_⟩
      · rw [List.mem_cons, not_or] at hk
        rw [g2 k hk.2, List.getElem?_set_ne (Ne.symm hk.1)]
      · cases j with
        | zero =>
          simp only [List.getElem?_cons_zero, Option.some.injEq] at hj
          subst hj
          exact ⟨e, rfl, by rw [g2 _ hn.1, List.getElem?_set_self hl]⟩
        | succ j =>
          rw [List.getElem?_cons_succ] at hj
          rw [List.getElem?_cons_succ]
          exact g3 j z hj
theorem rn_eq {is : List Nat} {k i : Nat} (h : is[k]? = some i) : rn is k = i := by
  rw [← getO_eq] at h
  simp [rn, h]
theorem sub_world {ad sa : Nat → Nat} {tc : Nat → ClassId} {h hc : List AE} {is : List Nat} (hg : gets h is = some (hc.map (re is))) : is.map (fun i => (cw ad sa tc h)[i]?) = (cw (fun i => ad (rn is i)) sa tc hc).map some := by
  obtain ⟨g1, g2⟩ := gets_spec _ _ _ hg
  rw [List.length_map] at g1
  apply List.ext_getElem?
  intro k
  rw [List.getElem?_map, List.getElem?_map]
  cases hk : is[k]? with
  | none =>
    have h1 : is.length ≤ k := by simpa using hk
    have h2 : (cw (fun i => ad (rn is i)) sa tc hc)[k]? = none := by
      rw [List.getElem?_eq_none_iff, cw_len, g1]
      exact h1
    rw [h2]
    rfl
  | some i =>
    obtain ⟨e, h1, h2⟩ := g2 k i hk
    rw [List.getElem?_map] at h2
    cases h3 : hc[k]? with
    | none => rw [h3] at h2; cases h2
    | some e0 =>
      rw [h3] at h2
      cases h2
      have h4 : (cw ad sa tc h)[i]? = some (ad i, ce ad sa tc (re is e0)) := cw_get (by rw [getO_eq]; exact h1)
      have h5 : (cw (fun i => ad (rn is i)) sa tc hc)[k]? = some (ad (rn is k), ce (fun i => ad (rn is i)) sa tc e0) := cw_get (ad := fun i => ad (rn is i)) (by rw [getO_eq]; exact h3)
      rw [h5]
      simp only [Option.map_some, h4]
      rw [ce_rn, rn_eq hk]
/-- the end of a contract: its answer, its cells -/
def QAc (D : va_G) (tc : Nat → ClassId) (sa : Nat → Nat) (A : Nat → Prop) (ad0 : Nat → Nat) (n0 mc : Nat) (post : Option Value → List AE → Prop) : Array Value → State → Outcome → State → Prop := fun _ st oc t =>
  (∃ (v : Option Value) (h' : List AE) (ad' : Nat → Nat), oc = .returned (v.map (cv ad' sa)) ∧ post v h' ∧ h'.length = n0 + mc ∧ (∀ i, i < n0 → ad' i = ad0 i) ∧ (mc = 0 → ad' = ad0) ∧ va_P D vwCl (cw ad' sa tc h') t.heap ∧ va_D A (cw ad' sa tc h')) ∧ va_F A st t
def QM (E : AV) (ad0 : Nat → Nat) (n0 mc ms : Nat) (post : Option Value → List AE → Prop) : State → Prop := match E with
  | (_, _, _, s, _, args, below, _, _, D, tc, sa, A) => MQ below (QAc D tc sa A ad0 n0 mc post) args s mc ms A
def B0 (D : va_G) (tc : Nat → ClassId) (sa ad : Nat → Nat) (sz : Nat) (h : List AE) (U : State) : Prop :=
  U.heap.size = sz ∧ va_P D vwCl (cw ad sa tc h) U.heap ∧ va_K D vwCl (tysO tc) U ∧ va_D (fun _ => True) (cw ad sa tc h) ∧ TB sa (va_A (cw ad sa tc h) sz) U U.heap
/-- the room of a method below which d calls may stand open -/
def rmD (d mc ms : Nat) : Room := { frames := d, cells := mc, slots := ms, locals := 32 * d + 20 }
/-- A CONTRACT: from the cells h, with the arguments as, the method returns, and post holds of its answer and the cells behind it -/
def AMet (y : MethodName) (cc : ByteArray) (nL : Nat) (ret : Option FieldType) (d mc ms : Nat) (as : List Value) (h : List AE) (post : Option Value → List AE → Prop) : Prop :=
  ∀ (l : Launch) (D : va_G) (tc : Nat → ClassId) (sa ad : Nat → Nat) (sz : Nat), Met l y (.code y cc nL ret :: lw_g) (rmD d mc ms) (va_Pc (as.map (cv ad sa)) (B0 D tc sa ad sz h)) (QAc D tc sa (va_A (cw ad sa tc h) sz) ad h.length mc post) mc ms (va_A (cw ad sa tc h) sz)
theorem lv_args_cv (ad sa : Nat → Nat) : ∀ (i : Nat) (vs : List Value), lv_args i (vs.map (cv ad sa)) = (lv_args i vs).map (cl' ad sa)
  | _, [] => rfl
  | i, v :: vs => by
    have e : (cv ad sa v).category = v.category := by cases v <;> rfl
    simp only [List.map_cons, lv_args, e]
    rw [lv_args_cv ad sa _ vs]
    rfl
theorem lg_sl_cv (ad sa : Nat → Nat) : ∀ (vs : List Value), (lg_sl (vs.map (cv ad sa))).length = (lg_sl vs).length
  | [] => rfl
  | v :: vs => by
    have ih := lg_sl_cv ad sa vs
    have e : (cv ad sa v).category = v.category := by cases v <;> rfl
    simp only [lg_sl, List.map_cons, List.flatMap_cons, List.length_append, e] at ih ⊢
    rw [ih]
    split <;> rfl
theorem AMet.of {y : MethodName} {cc : ByteArray} {nL : Nat} {ret : Option FieldType} {d mc ms : Nat} {as : List Value} {h : List AE} {post : Option Value → List AE → Prop} (hy : plainName y.cls = true) (hn : Nat.ble (lg_sl as).length nL = true)
    (body : ∀ (E : AV) (ad0 : Nat → Nat), AGood E cc nL y.cls ret y.name → AW E (rmD d mc ms) nL (QM E ad0 h.length mc ms post) ad0 h.length 0 0 0 (lv_args 0 as) [] h) : AMet y cc nL ret d mc ms as h post := by
  intro l D tc sa ad sz
  refine Met.ofW (cc := cc) (maxL := nL) (ret := ret) hy rfl ?_
  intro p e s m args below meth c s₁ B hml hv
  obtain ⟨rfl, hsz, hP, hK, hD0, hT⟩ := hv
  have hx := B.exec
  have hb := B.bytes
  have hr := B.returns
  have hts0 := atoms_spec (ws := .code y cc nL ret :: lw_g) B.pre
  have hts : ∀ w ∈ lw_g, w.before (as.map (cv ad sa)).toArray s = true := fun w hw => hts0 w (List.mem_cons_of_mem _ hw)
  have hown : s.vm.findClass y.cls = some m.cls := findClass_of_methodNamed B.named
  have hlocks := B.notSynchronized
  have hin : meth.name = y.name := (name_of_methodNamed B.named B.method).1
  subst hsz
  have hD := hD0.self (sz := s.heap.size)
  have hl := lv_entry (as.map (cv ad sa)) (n := nL) (by rw [lg_sl_cv]; exact Nat.le_of_ble_eq_true hn)
  rw [lg_entry_eq]
  rw [lv_args_cv] at hl
  exact body (p, l, e, s, m, (as.map (cv ad sa)).toArray, below, meth, c, D, tc, sa, va_A (cw ad sa tc h) s.heap.size) ad ⟨⟨hx, hb, hml, hown, hts⟩, hK, hT, fun q hq => Or.inr hq, hr, hlocks, hin⟩ ad s.heap [] _ hP hD va_S.rf hl rfl (fun _ _ => rfl) (fun _ => rfl)
/-- typed ends -/
def pI (P : Int32 → List AE → Prop) : Option Value → List AE → Prop := fun v h => ∃ x, v = some (.int x) ∧ P x h
def pV (P : List AE → Prop) : Option Value → List AE → Prop := fun v h => v = none ∧ P h
def pR (P : Nat → List AE → Prop) : Option Value → List AE → Prop := fun v h => ∃ i, v = some (.ref i) ∧ P i h
section RETS
variable {E : AV} {R : Room} {nL : Nat} {ad0 : Nat → Nat} {n0 cells slots pc mc ms : Nat} {lv : List (Nat × Value)} {h : List AE} {cc : ByteArray} {own : String} {ret : Option FieldType} {nm : String}
theorem A_iret {P : Int32 → List AE → Prop} {x : Int32} (hE : AGood E cc nL own (some .int) nm) (hd : decode cc pc = .ok (.ireturn, 1)) (hp : P x h) : AW E R nL (QM E ad0 n0 cells slots (pI P)) ad0 n0 cells slots pc lv [.int x] h := by
  obtain ⟨p, l, e, s, m, args, below, meth, c, D, tc, sa, A⟩ := E
  obtain ⟨⟨hx, hb, hml, hown, hts⟩, hK, hT, hA, hr, hlk, hnm⟩ := hE
  intro ad H locs ls hP hD hS hl hn h0 h1
  refine W.iret hx hb hr (fun t ht hW => ⟨⟨some (.int x), h, ad, rfl, ⟨x, rfl, hp⟩, hn, h0, h1, by rw [ht]; exact hP, hD⟩, hS.F ht⟩) hS.2.2 hd hlk
theorem A_zret {P : Int32 → List AE → Prop} {x : Int32} (hE : AGood E cc nL own (some .boolean) nm) (hd : decode cc pc = .ok (.ireturn, 1)) (hz : x = 0 ∨ x = 1) (hp : P x h) : AW E R nL (QM E ad0 n0 cells slots (pI P)) ad0 n0 cells slots pc lv [.int x] h := by
  obtain ⟨p, l, e, s, m, args, below, meth, c, D, tc, sa, A⟩ := E
  obtain ⟨⟨hx, hb, hml, hown, hts⟩, hK, hT, hA, hr, hlk, hnm⟩ := hE
  intro ad H locs ls hP hD hS hl hn h0 h1
  have hnr : narrow .boolean (.int x) = .int x := by rcases hz with rfl | rfl <;> decide
  refine W.zret hx hb hr hnr (fun t ht hW => ⟨⟨some (.int x), h, ad, rfl, ⟨x, rfl, hp⟩, hn, h0, h1, by rw [ht]; exact hP, hD⟩, hS.F ht⟩) hS.2.2 hd hlk
theorem A_cret {P : Int32 → List AE → Prop} {x : Int32} {ty : FieldType} (hE : AGood E cc nL own (some ty) nm) (hd : decode cc pc = .ok (.ireturn, 1)) (hnr : narrow ty (.int x) = .int x) (hp : P x h) : AW E R nL (QM E ad0 n0 cells slots (pI P)) ad0 n0 cells slots pc lv [.int x] h := by
  obtain ⟨p, l, e, s, m, args, below, meth, c, D, tc, sa, A⟩ := E
  obtain ⟨⟨hx, hb, hml, hown, hts⟩, hK, hT, hA, hr, hlk, hnm⟩ := hE
  intro ad H locs ls hP hD hS hl hn h0 h1
  refine W.zret hx hb hr hnr (fun t ht hW => ⟨⟨some (.int x), h, ad, rfl, ⟨x, rfl, hp⟩, hn, h0, h1, by rw [ht]; exact hP, hD⟩, hS.F ht⟩) hS.2.2 hd hlk
theorem A_vret {P : List AE → Prop} (hE : AGood E cc nL own none nm) (hd : decode cc pc = .ok (.return_, 1)) (hp : P h) : AW E R nL (QM E ad0 n0 cells slots (pV P)) ad0 n0 cells slots pc lv [] h := by
  obtain ⟨p, l, e, s, m, args, below, meth, c, D, tc, sa, A⟩ := E
  obtain ⟨⟨hx, hb, hml, hown, hts⟩, hK, hT, hA, hr, hlk, hnm⟩ := hE
  intro ad H locs ls hP hD hS hl hn h0 h1
  refine W.vret hx hb hr (fun t ht hW => ⟨⟨none, h, ad, rfl, ⟨rfl, hp⟩, hn, h0, h1, by rw [ht]; exact hP, hD⟩, hS.F ht⟩) hS.2.2 hd hlk
theorem A_aret {P : Nat → List AE → Prop} {i : Nat} {C : String} (hE : AGood E cc nL own (some (.object C)) nm) (hd : decode cc pc = .ok (.areturn, 1)) (hp : P i h) : AW E R nL (QM E ad0 n0 cells slots (pR P)) ad0 n0 cells slots pc lv [.ref i] h := by
  obtain ⟨p, l, e, s, m, args, below, meth, c, D, tc, sa, A⟩ := E
  obtain ⟨⟨hx, hb, hml, hown, hts⟩, hK, hT, hA, hr, hlk, hnm⟩ := hE
  intro ad H locs ls hP hD hS hl hn h0 h1
  exact W.aret hx hb hr (Or.inl ⟨C, rfl⟩) (Or.inr ⟨ad i, rfl⟩) (fun t ht hW => ⟨⟨some (.ref i), h, ad, rfl, ⟨i, rfl, hp⟩, hn, h0, h1, by rw [ht]; exact hP, hD⟩, hS.F ht⟩) hS.2.2 hd hlk
end RETS
section CALLS
variable {p : Program} {l : Launch} {e : Env} {R : Room} {s : State} {m : MethodId} {args : Array Value} {below : List Frame} {meth : Method} {c : Code} {H : Heap} {locs : List Loc} {cells slots : Nat} {Q : State → Prop}
variable {pc : Nat} {ls : Array Slot} {rest st0 : List Value} {a : Array Value} {A0 A1 : Nat → Prop} {H0 : Heap} {mc ms : Nat}
theorem callA {D : va_G} {tc : Nat → ClassId} {sa ad2 : Nat → Nat} {n2 : Nat} {post : Option Value → List AE → Prop} (hr : va_Run p l e R s m args below meth c H locs cells slots mc ms (F0 m pc ls st0) rest (QAc D tc sa A1 ad2 n2 mc post a) A1) (hS : va_S A0 H0 H locs) (hF : ∀ q, A1 q → A0 q)
    (kk : ∀ (v : Option Value) (h' : List AE) (ad' : Nat → Nat) (H1 : Heap) (locs1 : List Loc), post v h' → h'.length = n2 + mc → (∀ i, i < n2 → ad' i = ad2 i) → (mc = 0 → ad' = ad2) → va_P D vwCl (cw ad' sa tc h') H1 → va_D A1 (cw ad' sa tc h') → H.size ≤ H1.size → (∀ q : Nat, q < H.size → ¬ A1 q → H1[q]? = H[q]?) → va_S A0 H0 H1 locs1 → W p l e R s m args below meth c H1 locs1 (cells + mc) (slots + ms) Q (F0 m (pc + 3) ls ((v.map (cv ad' sa)).toList ++ rest))) : W p l e R s m args below meth c H locs cells slots Q (F0 m pc ls st0) := by
  intro T hT X
  obtain ⟨v0, st₀, t, T', L, h0, X', hL, e1, e2, ⟨⟨v, h', ad', hv, hp, g1, g2, g3, g4, g5⟩, hz, hk⟩, st⟩ := hr T hT X
  cases hv
  rw [h0] at hz hk
  obtain ⟨t2, a1, b1⟩ := kk v h' ad' T'.heap (locs ++ L) hp g1 g2 g3 (by rw [e1]; exact g4) g5 (by rw [e1]; exact hz) (fun q h1 h2 => by rw [e1]; exact hk q h1 h2)
    ⟨Nat.le_trans hS.1 (by rw [e1]; exact hz), fun q h1 h2 => by rw [e1, hk q (Nat.lt_of_lt_of_le h1 hS.1) (fun z => h2 (hF q z))]; exact hS.2.1 q h1 h2, fun q hq => by
      rcases List.mem_append.mp hq with h | h
      · exact hS.2.2 q h
      · exact hF _ (hL q h)⟩ T' rfl X'
  exact ⟨t2, st t2 a1, b1⟩
end CALLS
theorem B0_blind {av : List Value} {D : va_G} {tc : Nat → ClassId} {sa ad : Nat → Nat} {sz : Nat} {h : List AE} : FrameBlind (va_Pc av (B0 D tc sa ad sz h)) := by
  intro a U g mk hq
  obtain ⟨h1, h2, h3, h4, h5, h6⟩ := hq
  exact ⟨h1, h2, h3, va_K.moved (u := U) (U := U.calling g mk a) (Vm.Alike.refl U.vm) h4, h5, TB.same (s := U) (U := U.calling g mk a) h6 rfl⟩
/-- the callee's start, out of the caller's stand -/
theorem B0_of {D : va_G} {tc : Nat → ClassId} {sa ad : Nat → Nat} {h hc : List AE} {is : List Nat} {A : Nat → Prop} {s : State} {H : Heap} {locs : List Loc} (hP : va_P D vwCl (cw ad sa tc h) H) (hD : va_D A (cw ad sa tc h)) (hS : va_S A s.heap H locs) (hA : ∀ q : Nat, s.heap.size ≤ q → A q) (hK : va_K D vwCl (tysO tc) s) (hT : TB sa A s s.heap) (hg : gets h is = some (hc.map (re is))) (hnd : va_nd is = true) :
    (∀ U : State, U.heap = H → s.WarmedH U.vm → B0 D tc sa (fun i => ad (rn is i)) H.size hc U) ∧ va_P D vwCl (cw (fun i => ad (rn is i)) sa tc hc) H ∧ ∀ q, va_A (cw (fun i => ad (rn is i)) sa tc hc) H.size q → A q := by
  have hsub := sub_world (ad := ad) (sa := sa) (tc := tc) hg
  have hF := va_free hD hS hA is hsub
  have hDc := hD.sub is hnd hsub
  have hPc : va_P D vwCl (cw (fun i => ad (rn is i)) sa tc hc) H := by
    intro k q hk
    have h1 : (is.map (fun i => (cw ad sa tc h)[i]?))[k]? = some (some q) := by rw [hsub, List.getElem?_map, hk]; rfl
    rw [List.getElem?_map] at h1
    cases hi : is[k]? with
    | none => rw [hi] at h1; cases h1
    | some i => rw [hi] at h1; exact hP i q (Option.some.inj h1)
  refine ⟨fun U hU hW => ⟨by rw [hU], by rw [hU]; exact hPc, va_K.moved hW.alike hK, hDc.weaken (fun _ _ _ _ => trivial), ?_⟩, hPc, hF⟩
  rw [hU]
  exact ((hT.kept (fun a ha hn => hS.2.1 a ha hn)).narrow hF).warm hW
/-- the world behind a call that makes no cells -/
theorem back0 {D : va_G} {tc : Nat → ClassId} {sa ad : Nat → Nat} {h hc h' h2 : List AE} {is : List Nat} {A : Nat → Prop} {H H1 : Heap} (hP : va_P D vwCl (cw ad sa tc h) H) (hD : va_D A (cw ad sa tc h)) (hg : gets h is = some (hc.map (re is))) (hnd : va_nd is = true) (hw : wbO is (h'.map (re is)) h = some h2)
    (hP1 : va_P D vwCl (cw (fun i => ad (rn is i)) sa tc h') H1) (hk : ∀ q : Nat, q < H.size → ¬ va_A (cw (fun i => ad (rn is i)) sa tc hc) H.size q → H1[q]? = H[q]?) : va_P D vwCl (cw ad sa tc h2) H1 ∧ va_D A (cw ad sa tc h2) ∧ h2.length = h.length := by
  obtain ⟨w1, w2, w3⟩ := wbO_spec _ _ _ _ hw hnd
  obtain ⟨g1, g2⟩ := gets_spec _ _ _ hg
  rw [List.length_map] at g1
  have hadr : ∀ (k : Nat) (q : Nat × va_E), (cw ad sa tc h2)[k]? = some q → ∃ e0, (cw ad sa tc h)[k]? = some (ad k, e0) ∧ q.1 = ad k := by
    intro k q hq
    obtain ⟨e, h1, rfl⟩ := cw_inv hq
    have hlt : k < h.length := by rw [← w1]; exact (List.getElem?_eq_some_iff.mp h1).1
    exact ⟨_, cw_get (by rw [getO_eq]; exact List.getElem?_eq_getElem hlt), rfl⟩
  refine ⟨fun k q hq => ?_, ⟨fun i j x y hi hj hxy => ?_, fun k q hq => ?_⟩, w1⟩
  · obtain ⟨e, h1, rfl⟩ := cw_inv hq
    by_cases hin : k ∈ is
    · obtain ⟨j, hj⟩ := List.getElem?_of_mem hin
      obtain ⟨e', h3, h4⟩ := w3 j k hj
      rw [h1] at h4
      cases h4
      rw [List.getElem?_map] at h3
      cases h5 : h'[j]? with
      | none => rw [h5] at h3; cases h3
      | some e0 =>
        rw [h5] at h3
        cases h3
        have h6 := hP1 j _ (cw_get (ad := fun i => ad (rn is i)) (sa := sa) (tc := tc) (by rw [getO_eq]; exact h5))
        rw [ce_rn] at h6
        rw [← rn_eq hj]
        exact h6
    · rw [w2 k hin] at h1
      have h2 := hP k _ (cw_get (ad := ad) (sa := sa) (tc := tc) (by rw [getO_eq]; exact h1))
      refine h2.kept (hk _ h2.lt ?_)
      rintro (⟨k2, e2, hx⟩ | hx)
      · obtain ⟨e3, h3, h4⟩ := cw_inv hx
        have hk2 : k2 < is.length := by rw [← g1]; exact (List.getElem?_eq_some_iff.mp h3).1
        obtain ⟨i2, hi2⟩ : ∃ i2, is[k2]? = some i2 := ⟨_, List.getElem?_eq_getElem hk2⟩
        obtain ⟨e4, h5, -⟩ := g2 k2 i2 hi2
        have h7 := cw_get (ad := ad) (sa := sa) (tc := tc) (h := h) (k := i2) (by rw [getO_eq]; exact h5)
        have h8 := cw_get (ad := ad) (sa := sa) (tc := tc) (h := h) (k := k) (by rw [getO_eq]; exact h1)
        have h9 : ad k = ad i2 := by
          have := congrArg Prod.fst h4
          rw [← rn_eq hi2]
          exact this
        have h10 := hD.1 _ _ _ _ h8 h7 h9
        exact hin (h10 ▸ List.mem_of_getElem? hi2)
      · exact absurd h2.lt (Nat.not_lt.mpr hx)
  · obtain ⟨e1, h1, h2⟩ := hadr i x hi
    obtain ⟨e2, h3, h4⟩ := hadr j y hj
    exact hD.1 i j _ _ h1 h3 (h2.symm.trans (hxy.trans h4))
  · obtain ⟨e1, h1, h2⟩ := hadr k q hq
    rw [h2]
    exact hD.2 k _ h1
end
section
/-! calls, an instruction a row -/
def catS : List Value → Nat
  | [] => 0
  | v :: l => (match cat2 v with
    | true => 2
    | false => 1) + catS l
theorem catS_eq (ad sa : Nat → Nat) : ∀ st : List Value, ((st.map (cv ad sa)).map fun v => v.category).sum = catS st
  | [] => rfl
  | v :: l => by
    have ih := catS_eq ad sa l
    simp only [List.map_cons, List.sum_cons, catS, ih]
    cases v <;> rfl
theorem stk_eq {ad sa : Nat → Nat} {is : List Nat} {st0 st as : List Value} (h : st0 = (as.map (rv is)).reverse ++ st) : st0.map (cv ad sa) = (as.map (cv (fun i => ad (rn is i)) sa)).reverse ++ st.map (cv ad sa) := by
  subst h
  rw [List.map_append, List.map_reverse, List.map_map]
  congr 2
  exact List.map_congr_left fun v _ => (cv_rn ad sa is v).symm
theorem opt_rv (ad sa : Nat → Nat) (is : List Nat) (v : Option Value) (st : List Value) : (v.map (cv (fun i => ad (rn is i)) sa)).toList ++ st.map (cv ad sa) = ((v.map (rv is)).toList ++ st).map (cv ad sa) := by
  cases v with
  | none => rfl
  | some v =>
    show cv (fun i => ad (rn is i)) sa v :: _ = _
    rw [cv_rn]
    rfl
section CROWS
variable {E : AV} {R : Room} {nL : Nat} {Q : State → Prop} {ad0 : Nat → Nat} {n0 cells slots pc : Nat} {lv : List (Nat × Value)} {st0 st : List Value} {h : List AE} {cc : ByteArray} {own : String} {ret : Option FieldType} {nm : String}
variable {y : MethodName} {cc2 : ByteArray} {nL2 d2 np ci idx r : Nat} {ret2 : Option FieldType} {as : List Value} {hc : List AE} {post : Option Value → List AE → Prop} {fs : List Value}
theorem A_callV (hE : AGood E cc nL own ret nm) (q : Nat) (hM : AMet y cc2 nL2 ret2 d2 0 0 (.ref r :: as) hc post) (is : List Nat) (hd : decode cc pc = .ok (.invokevirtual idx, 3)) (hq : pc + 3 = q) (hk : MKV own idx y cc2 nL2 ret2 np ci) (hrc : getO hc r = some (.inr (ci, fs))) (hg : gets h is = some (hc.map (re is))) (hnd : va_nd is = true) (hst : st0 = (as.map (rv is)).reverse ++ .ref (rn is r) :: st) (hlen : as.length = np) (hfr : Nat.blt d2 R.frames = true) (hlo : Nat.ble (8 + (nL2 + 11) + (32 * d2 + 20)) R.locals = true) (hcl : cells ≤ R.cells) (hsl : slots ≤ R.slots) (hcat : Nat.ble (catS st) 8 = true)
    (kk : ∀ (v : Option Value) (h' h2 : List AE), post v h' → wbO is (h'.map (re is)) h = some h2 → AW E R nL Q ad0 n0 cells slots q lv ((v.map (rv is)).toList ++ st) h2) : AW E R nL Q ad0 n0 cells slots pc lv st0 h := by
  obtain ⟨p, l, e, s, m, args, below, meth, c, D, tc, sa, A⟩ := E
  subst hq
  obtain ⟨⟨hx, hb, hml, hown, hts⟩, hK, hT, hA, hr, hlk, hnm⟩ := hE
  intro ad H locs ls hP hD hS hl hn h0 h1
  obtain ⟨hB, hPc, hF⟩ := B0_of hP hD hS hA hK hT hg hnd
  obtain ⟨⟨k1, k2, k3, k4, k5, k6⟩, k7, k8, T, N, k9⟩ := hk
  have hstk : st0.map (cv ad sa) = (as.map (cv (fun i => ad (rn is i)) sa)).reverse ++ Value.ref (ad (rn is r)) :: st.map (cv ad sa) := stk_eq hst
  refine callA (va_runV (C := y.cls) (b := ad (rn is r)) (As := as.map (cv (fun i => ad (rn is i)) sa)) (rest := st.map (cv ad sa)) ⟨hx, hb, hml, hown, hts⟩ (hM l D tc sa (fun i => ad (rn is i)) H.size)
    ⟨callB_of np hts (lg_good k2) rfl rfl rfl (hts _ k3) (hts _ k1) ⟨k4, k5, k6⟩ ⟨Nat.le_of_ble_eq_true hfr, Nat.le_of_ble_eq_true hlo⟩, hts _ k7, hts _ k8⟩
    ⟨B0_blind, va_recv (q := (y.cls, T, N)) hK hPc k9 (cw_get hrc), fun U hU hW => ⟨rfl, hB U hU hW⟩⟩ rfl (by rw [List.length_map]; exact hlen) hl.1 hstk (by rw [catS_eq]; show 2 * 0 + _ ≤ _; rw [Nat.mul_zero, Nat.zero_add]; exact Nat.le_of_ble_eq_true hcat) hd ⟨hcl, hsl⟩) hS hF ?_
  intro v h' ad' H1 locs1 hp hlen' hx' hy' hP1 hD1 hz hk1 hS1
  have e0 := hy' rfl
  subst e0
  have hlw : ∃ h2, wbO is (h'.map (re is)) h = some h2 := by
    obtain ⟨g1, g2⟩ := gets_spec _ _ _ hg
    rw [List.length_map] at g1
    have key : ∀ (is : List Nat) (r : List AE) (h : List AE), is.length ≤ r.length → (∀ i ∈ is, i < h.length) → ∃ h2, wbO is r h = some h2 := by
      intro is
      induction is with
      | nil => intro r h _ _; exact ⟨h, rfl⟩
      | cons i is ih =>
        intro r h hr hi
        cases r with
        | nil => simp at hr
        | cons e r =>
          have hset : ∃ h', setO h i e = some h' := by
            have : ∀ (h : List AE) (i : Nat), i < h.length → ∃ h', setO h i e = some h' := by
              intro h
              induction h with
              | nil => intro i hi; simp at hi
              | cons a h ih2 =>
                intro i hi
                cases i with
                | zero => exact ⟨_, rfl⟩
                | succ i =>
                  obtain ⟨h', hh⟩ := ih2 i (by simpa using hi)
                  exact ⟨a :: h', by simp [setO, hh]⟩
            exact this h i (hi i List.mem_cons_self)
          obtain ⟨h', hh⟩ := hset
          obtain ⟨h2, hh2⟩ := ih r h' (by simpa using hr) (fun j hj => by rw [(setO_eq _ _ _ _ hh).1, List.length_set]; exact hi j (List.mem_cons_of_mem _ hj))
          exact ⟨h2, by simp only [wbO, hh]; exact hh2⟩
    refine key is _ h (by rw [List.length_map, hlen', ← g1]; omega) (fun i hi => ?_)
    obtain ⟨k, hk⟩ := List.getElem?_of_mem hi
    obtain ⟨e0, h3, -⟩ := g2 k i hk
    exact (List.getElem?_eq_some_iff.mp h3).1
  obtain ⟨h2, hw⟩ := hlw
  obtain ⟨b1, b2, b3⟩ := back0 hP hD hg hnd hw hP1 hk1
  rw [opt_rv]
  exact kk v h' h2 hp hw ad H1 locs1 ls b1 b2 hS1 hl (b3.trans hn) h0 h1
theorem A_callS (hE : AGood E cc nL own ret nm) (q : Nat) (hM : AMet y cc2 nL2 ret2 d2 0 0 as hc post) (is : List Nat) (hd : decode cc pc = .ok (.invokestatic idx, 3)) (hq : pc + 3 = q) (hk : MKS own idx y cc2 nL2 ret2 np) (hg : gets h is = some (hc.map (re is))) (hnd : va_nd is = true) (hst : st0 = (as.map (rv is)).reverse ++ st) (hlen : as.length = np) (hfr : Nat.blt d2 R.frames = true) (hlo : Nat.ble (8 + (nL2 + 11) + (32 * d2 + 20)) R.locals = true) (hcl : cells ≤ R.cells) (hsl : slots ≤ R.slots) (hcat : Nat.ble (catS st) 8 = true)
    (kk : ∀ (v : Option Value) (h' h2 : List AE), post v h' → wbO is (h'.map (re is)) h = some h2 → AW E R nL Q ad0 n0 cells slots q lv ((v.map (rv is)).toList ++ st) h2) : AW E R nL Q ad0 n0 cells slots pc lv st0 h := by
  obtain ⟨p, l, e, s, m, args, below, meth, c, D, tc, sa, A⟩ := E
  subst hq
  obtain ⟨⟨hx, hb, hml, hown, hts⟩, hK, hT, hA, hr, hlk, hnm⟩ := hE
  intro ad H locs ls hP hD hS hl hn h0 h1
  obtain ⟨hB, hPc, hF⟩ := B0_of hP hD hS hA hK hT hg hnd
  obtain ⟨⟨k1, k2, k3, k4, k5, k6⟩, k7⟩ := hk
  refine callA (va_runS (As := as.map (cv (fun i => ad (rn is i)) sa)) (rest := st.map (cv ad sa)) ⟨hx, hb, hml, hown, hts⟩ (hM l D tc sa (fun i => ad (rn is i)) H.size)
    ⟨callB_of np hts (lg_good k2) rfl rfl rfl (hts _ k3) (hts _ k1) ⟨k4, k5, k6⟩ ⟨Nat.le_of_ble_eq_true hfr, Nat.le_of_ble_eq_true hlo⟩, hts _ k7⟩
    ⟨B0_blind, fun U hU hW => ⟨rfl, hB U hU hW⟩⟩ rfl (by rw [List.length_map]; exact hlen) hl.1 (stk_eq hst) (by rw [catS_eq]; show 2 * 0 + _ ≤ _; rw [Nat.mul_zero, Nat.zero_add]; exact Nat.le_of_ble_eq_true hcat) hd ⟨hcl, hsl⟩) hS hF ?_
  intro v h' ad' H1 locs1 hp hlen' hx' hy' hP1 hD1 hz hk1 hS1
  have e0 := hy' rfl
  subst e0
  have hlw : ∃ h2, wbO is (h'.map (re is)) h = some h2 := by
    obtain ⟨g1, g2⟩ := gets_spec _ _ _ hg
    rw [List.length_map] at g1
    have key : ∀ (is : List Nat) (r : List AE) (h : List AE), is.length ≤ r.length → (∀ i ∈ is, i < h.length) → ∃ h2, wbO is r h = some h2 := by
      intro is
      induction is with
      | nil => intro r h _ _; exact ⟨h, rfl⟩
      | cons i is ih =>
        intro r h hr hi
        cases r with
        | nil => simp at hr
        | cons e r =>
          have hset : ∃ h', setO h i e = some h' := by
            have : ∀ (h : List AE) (i : Nat), i < h.length → ∃ h', setO h i e = some h' := by
              intro h
              induction h with
              | nil => intro i hi; simp at hi
              | cons a h ih2 =>
                intro i hi
                cases i with
                | zero => exact ⟨_, rfl⟩
                | succ i =>
                  obtain ⟨h', hh⟩ := ih2 i (by simpa using hi)
                  exact ⟨a :: h', by simp [setO, hh]⟩
            exact this h i (hi i List.mem_cons_self)
          obtain ⟨h', hh⟩ := hset
          obtain ⟨h2, hh2⟩ := ih r h' (by simpa using hr) (fun j hj => by rw [(setO_eq _ _ _ _ hh).1, List.length_set]; exact hi j (List.mem_cons_of_mem _ hj))
          exact ⟨h2, by simp only [wbO, hh]; exact hh2⟩
    refine key is _ h (by rw [List.length_map, hlen', ← g1]; omega) (fun i hi => ?_)
    obtain ⟨k, hk⟩ := List.getElem?_of_mem hi
    obtain ⟨e0, h3, -⟩ := g2 k i hk
    exact (List.getElem?_eq_some_iff.mp h3).1
  obtain ⟨h2, hw⟩ := hlw
  obtain ⟨b1, b2, b3⟩ := back0 hP hD hg hnd hw hP1 hk1
  rw [opt_rv]
  exact kk v h' h2 hp hw ad H1 locs1 ls b1 b2 hS1 hl (b3.trans hn) h0 h1
theorem A_callVi {P : Int32 → List AE → Prop} (hE : AGood E cc nL own ret nm) (q : Nat) (hM : AMet y cc2 nL2 ret2 d2 0 0 (.ref r :: as) hc (pI P)) (is : List Nat) (hd : decode cc pc = .ok (.invokevirtual idx, 3)) (hq : pc + 3 = q) (hk : MKV own idx y cc2 nL2 ret2 np ci) (hrc : getO hc r = some (.inr (ci, fs))) (hg : gets h is = some (hc.map (re is))) (hnd : va_nd is = true) (hst : st0 = (as.map (rv is)).reverse ++ .ref (rn is r) :: st) (hlen : as.length = np) (hfr : Nat.blt d2 R.frames = true) (hlo : Nat.ble (8 + (nL2 + 11) + (32 * d2 + 20)) R.locals = true) (hcl : cells ≤ R.cells) (hsl : slots ≤ R.slots) (hcat : Nat.ble (catS st) 8 = true)
    (kk : ∀ (x : Int32) (h' h2 : List AE), P x h' → wbO is (h'.map (re is)) h = some h2 → AW E R nL Q ad0 n0 cells slots q lv (.int x :: st) h2) : AW E R nL Q ad0 n0 cells slots pc lv st0 h :=
  A_callV hE q hM is hd hq hk hrc hg hnd hst hlen hfr hlo hcl hsl hcat fun v h' h2 hp hw => by
    obtain ⟨x, rfl, hp⟩ := hp
    exact kk x h' h2 hp hw
theorem A_callVv {P : List AE → Prop} (hE : AGood E cc nL own ret nm) (q : Nat) (hM : AMet y cc2 nL2 ret2 d2 0 0 (.ref r :: as) hc (pV P)) (is : List Nat) (hd : decode cc pc = .ok (.invokevirtual idx, 3)) (hq : pc + 3 = q) (hk : MKV own idx y cc2 nL2 ret2 np ci) (hrc : getO hc r = some (.inr (ci, fs))) (hg : gets h is = some (hc.map (re is))) (hnd : va_nd is = true) (hst : st0 = (as.map (rv is)).reverse ++ .ref (rn is r) :: st) (hlen : as.length = np) (hfr : Nat.blt d2 R.frames = true) (hlo : Nat.ble (8 + (nL2 + 11) + (32 * d2 + 20)) R.locals = true) (hcl : cells ≤ R.cells) (hsl : slots ≤ R.slots) (hcat : Nat.ble (catS st) 8 = true)
    (kk : ∀ (h' h2 : List AE), P h' → wbO is (h'.map (re is)) h = some h2 → AW E R nL Q ad0 n0 cells slots q lv st h2) : AW E R nL Q ad0 n0 cells slots pc lv st0 h :=
  A_callV hE q hM is hd hq hk hrc hg hnd hst hlen hfr hlo hcl hsl hcat fun v h' h2 hp hw => by
    obtain ⟨rfl, hp⟩ := hp
    exact kk h' h2 hp hw
theorem A_callVr {P : Nat → List AE → Prop} (hE : AGood E cc nL own ret nm) (q : Nat) (hM : AMet y cc2 nL2 ret2 d2 0 0 (.ref r :: as) hc (pR P)) (is : List Nat) (hd : decode cc pc = .ok (.invokevirtual idx, 3)) (hq : pc + 3 = q) (hk : MKV own idx y cc2 nL2 ret2 np ci) (hrc : getO hc r = some (.inr (ci, fs))) (hg : gets h is = some (hc.map (re is))) (hnd : va_nd is = true) (hst : st0 = (as.map (rv is)).reverse ++ .ref (rn is r) :: st) (hlen : as.length = np) (hfr : Nat.blt d2 R.frames = true) (hlo : Nat.ble (8 + (nL2 + 11) + (32 * d2 + 20)) R.locals = true) (hcl : cells ≤ R.cells) (hsl : slots ≤ R.slots) (hcat : Nat.ble (catS st) 8 = true)
    (kk : ∀ (i : Nat) (h' h2 : List AE), P i h' → wbO is (h'.map (re is)) h = some h2 → AW E R nL Q ad0 n0 cells slots q lv (.ref (rn is i) :: st) h2) : AW E R nL Q ad0 n0 cells slots pc lv st0 h :=
  A_callV hE q hM is hd hq hk hrc hg hnd hst hlen hfr hlo hcl hsl hcat fun v h' h2 hp hw => by
    obtain ⟨i, rfl, hp⟩ := hp
    exact kk i h' h2 hp hw
theorem A_callSi {P : Int32 → List AE → Prop} (hE : AGood E cc nL own ret nm) (q : Nat) (hM : AMet y cc2 nL2 ret2 d2 0 0 as hc (pI P)) (is : List Nat) (hd : decode cc pc = .ok (.invokestatic idx, 3)) (hq : pc + 3 = q) (hk : MKS own idx y cc2 nL2 ret2 np) (hg : gets h is = some (hc.map (re is))) (hnd : va_nd is = true) (hst : st0 = (as.map (rv is)).reverse ++ st) (hlen : as.length = np) (hfr : Nat.blt d2 R.frames = true) (hlo : Nat.ble (8 + (nL2 + 11) + (32 * d2 + 20)) R.locals = true) (hcl : cells ≤ R.cells) (hsl : slots ≤ R.slots) (hcat : Nat.ble (catS st) 8 = true)
    (kk : ∀ (x : Int32) (h' h2 : List AE), P x h' → wbO is (h'.map (re is)) h = some h2 → AW E R nL Q ad0 n0 cells slots q lv (.int x :: st) h2) : AW E R nL Q ad0 n0 cells slots pc lv st0 h :=
  A_callS hE q hM is hd hq hk hg hnd hst hlen hfr hlo hcl hsl hcat fun v h' h2 hp hw => by
    obtain ⟨x, rfl, hp⟩ := hp
    exact kk x h' h2 hp hw
theorem A_callSv {P : List AE → Prop} (hE : AGood E cc nL own ret nm) (q : Nat) (hM : AMet y cc2 nL2 ret2 d2 0 0 as hc (pV P)) (is : List Nat) (hd : decode cc pc = .ok (.invokestatic idx, 3)) (hq : pc + 3 = q) (hk : MKS own idx y cc2 nL2 ret2 np) (hg : gets h is = some (hc.map (re is))) (hnd : va_nd is = true) (hst : st0 = (as.map (rv is)).reverse ++ st) (hlen : as.length = np) (hfr : Nat.blt d2 R.frames = true) (hlo : Nat.ble (8 + (nL2 + 11) + (32 * d2 + 20)) R.locals = true) (hcl : cells ≤ R.cells) (hsl : slots ≤ R.slots) (hcat : Nat.ble (catS st) 8 = true)
    (kk : ∀ (h' h2 : List AE), P h' → wbO is (h'.map (re is)) h = some h2 → AW E R nL Q ad0 n0 cells slots q lv st h2) : AW E R nL Q ad0 n0 cells slots pc lv st0 h :=
  A_callS hE q hM is hd hq hk hg hnd hst hlen hfr hlo hcl hsl hcat fun v h' h2 hp hw => by
    obtain ⟨rfl, hp⟩ := hp
    exact kk h' h2 hp hw
end CROWS
end
section
theorem dJ11_isValidCodePoint_9a6ad_0 : decode cJ11_isValidCodePoint_9a6ad 0 = .ok (.iload_n 0, 1) := by decide +kernel
theorem dJ11_isValidCodePoint_9a6ad_1 : decode cJ11_isValidCodePoint_9a6ad 1 = .ok (.bipush 16, 2) := by decide +kernel
theorem dJ11_isValidCodePoint_9a6ad_3 : decode cJ11_isValidCodePoint_9a6ad 3 = .ok (.iushr, 1) := by decide +kernel
theorem dJ11_isValidCodePoint_9a6ad_4 : decode cJ11_isValidCodePoint_9a6ad 4 = .ok (.istore_n 1, 1) := by decide +kernel
theorem dJ11_isValidCodePoint_9a6ad_5 : decode cJ11_isValidCodePoint_9a6ad 5 = .ok (.iload_n 1, 1) := by decide +kernel
theorem dJ11_isValidCodePoint_9a6ad_6 : decode cJ11_isValidCodePoint_9a6ad 6 = .ok (.bipush 17, 2) := by decide +kernel
theorem dJ11_isValidCodePoint_9a6ad_8 : decode cJ11_isValidCodePoint_9a6ad 8 = .ok (.if_icmp .ge 7, 3) := by decide +kernel
theorem dJ11_isValidCodePoint_9a6ad_11 : decode cJ11_isValidCodePoint_9a6ad 11 = .ok (.iconst 1, 1) := by decide +kernel
theorem dJ11_isValidCodePoint_9a6ad_12 : decode cJ11_isValidCodePoint_9a6ad 12 = .ok (.goto 4, 3) := by decide +kernel
theorem dJ11_isValidCodePoint_9a6ad_15 : decode cJ11_isValidCodePoint_9a6ad 15 = .ok (.iconst 0, 1) := by decide +kernel
theorem dJ11_isValidCodePoint_9a6ad_16 : decode cJ11_isValidCodePoint_9a6ad 16 = .ok (.ireturn, 1) := by decide +kernel
theorem dJ11_highSurrogate_5068e_0 : decode cJ11_highSurrogate_5068e 0 = .ok (.iload_n 0, 1) := by decide +kernel
theorem dJ11_highSurrogate_5068e_1 : decode cJ11_highSurrogate_5068e 1 = .ok (.bipush 10, 2) := by decide +kernel
theorem dJ11_highSurrogate_5068e_3 : decode cJ11_highSurrogate_5068e 3 = .ok (.iushr, 1) := by decide +kernel
theorem dJ11_highSurrogate_5068e_4 : decode cJ11_highSurrogate_5068e 4 = .ok (.ldc 110, 2) := by decide +kernel
theorem dJ11_highSurrogate_5068e_6 : decode cJ11_highSurrogate_5068e 6 = .ok (.iadd, 1) := by decide +kernel
theorem dJ11_highSurrogate_5068e_7 : decode cJ11_highSurrogate_5068e 7 = .ok (.i2c, 1) := by decide +kernel
theorem dJ11_highSurrogate_5068e_8 : decode cJ11_highSurrogate_5068e 8 = .ok (.ireturn, 1) := by decide +kernel
theorem dJ11_lowSurrogate_5068e_0 : decode cJ11_lowSurrogate_5068e 0 = .ok (.iload_n 0, 1) := by decide +kernel
theorem dJ11_lowSurrogate_5068e_1 : decode cJ11_lowSurrogate_5068e 1 = .ok (.sipush 1023, 3) := by decide +kernel
theorem dJ11_lowSurrogate_5068e_4 : decode cJ11_lowSurrogate_5068e 4 = .ok (.iand, 1) := by decide +kernel
theorem dJ11_lowSurrogate_5068e_5 : decode cJ11_lowSurrogate_5068e 5 = .ok (.ldc 76, 2) := by decide +kernel
theorem dJ11_lowSurrogate_5068e_7 : decode cJ11_lowSurrogate_5068e 7 = .ok (.iadd, 1) := by decide +kernel
theorem dJ11_lowSurrogate_5068e_8 : decode cJ11_lowSurrogate_5068e 8 = .ok (.i2c, 1) := by decide +kernel
theorem dJ11_lowSurrogate_5068e_9 : decode cJ11_lowSurrogate_5068e 9 = .ok (.ireturn, 1) := by decide +kernel
theorem dJ6_bitCount_0f7a4_0 : decode cJ6_bitCount_0f7a4 0 = .ok (.iload_n 0, 1) := by decide +kernel
theorem dJ6_bitCount_0f7a4_1 : decode cJ6_bitCount_0f7a4 1 = .ok (.iload_n 0, 1) := by decide +kernel
theorem dJ6_bitCount_0f7a4_2 : decode cJ6_bitCount_0f7a4 2 = .ok (.iconst 1, 1) := by decide +kernel
theorem dJ6_bitCount_0f7a4_3 : decode cJ6_bitCount_0f7a4 3 = .ok (.iushr, 1) := by decide +kernel
theorem dJ6_bitCount_0f7a4_4 : decode cJ6_bitCount_0f7a4 4 = .ok (.ldc_w 265, 3) := by decide +kernel
theorem dJ6_bitCount_0f7a4_7 : decode cJ6_bitCount_0f7a4 7 = .ok (.iand, 1) := by decide +kernel
theorem dJ6_bitCount_0f7a4_8 : decode cJ6_bitCount_0f7a4 8 = .ok (.isub, 1) := by decide +kernel
theorem dJ6_bitCount_0f7a4_9 : decode cJ6_bitCount_0f7a4 9 = .ok (.istore_n 0, 1) := by decide +kernel
theorem dJ6_bitCount_0f7a4_10 : decode cJ6_bitCount_0f7a4 10 = .ok (.iload_n 0, 1) := by decide +kernel
theorem dJ6_bitCount_0f7a4_11 : decode cJ6_bitCount_0f7a4 11 = .ok (.ldc_w 266, 3) := by decide +kernel
theorem dJ6_bitCount_0f7a4_14 : decode cJ6_bitCount_0f7a4 14 = .ok (.iand, 1) := by decide +kernel
theorem dJ6_bitCount_0f7a4_15 : decode cJ6_bitCount_0f7a4 15 = .ok (.iload_n 0, 1) := by decide +kernel
theorem dJ6_bitCount_0f7a4_16 : decode cJ6_bitCount_0f7a4 16 = .ok (.iconst 2, 1) := by decide +kernel
theorem dJ6_bitCount_0f7a4_17 : decode cJ6_bitCount_0f7a4 17 = .ok (.iushr, 1) := by decide +kernel
theorem dJ6_bitCount_0f7a4_18 : decode cJ6_bitCount_0f7a4 18 = .ok (.ldc_w 266, 3) := by decide +kernel
theorem dJ6_bitCount_0f7a4_21 : decode cJ6_bitCount_0f7a4 21 = .ok (.iand, 1) := by decide +kernel
theorem dJ6_bitCount_0f7a4_22 : decode cJ6_bitCount_0f7a4 22 = .ok (.iadd, 1) := by decide +kernel
theorem dJ6_bitCount_0f7a4_23 : decode cJ6_bitCount_0f7a4 23 = .ok (.istore_n 0, 1) := by decide +kernel
theorem dJ6_bitCount_0f7a4_24 : decode cJ6_bitCount_0f7a4 24 = .ok (.iload_n 0, 1) := by decide +kernel
theorem dJ6_bitCount_0f7a4_25 : decode cJ6_bitCount_0f7a4 25 = .ok (.iload_n 0, 1) := by decide +kernel
theorem dJ6_bitCount_0f7a4_26 : decode cJ6_bitCount_0f7a4 26 = .ok (.iconst 4, 1) := by decide +kernel
theorem dJ6_bitCount_0f7a4_27 : decode cJ6_bitCount_0f7a4 27 = .ok (.iushr, 1) := by decide +kernel
theorem dJ6_bitCount_0f7a4_28 : decode cJ6_bitCount_0f7a4 28 = .ok (.iadd, 1) := by decide +kernel
theorem dJ6_bitCount_0f7a4_29 : decode cJ6_bitCount_0f7a4 29 = .ok (.ldc_w 267, 3) := by decide +kernel
theorem dJ6_bitCount_0f7a4_32 : decode cJ6_bitCount_0f7a4 32 = .ok (.iand, 1) := by decide +kernel
theorem dJ6_bitCount_0f7a4_33 : decode cJ6_bitCount_0f7a4 33 = .ok (.istore_n 0, 1) := by decide +kernel
theorem dJ6_bitCount_0f7a4_34 : decode cJ6_bitCount_0f7a4 34 = .ok (.iload_n 0, 1) := by decide +kernel
theorem dJ6_bitCount_0f7a4_35 : decode cJ6_bitCount_0f7a4 35 = .ok (.iload_n 0, 1) := by decide +kernel
theorem dJ6_bitCount_0f7a4_36 : decode cJ6_bitCount_0f7a4 36 = .ok (.bipush 8, 2) := by decide +kernel
theorem dJ6_bitCount_0f7a4_38 : decode cJ6_bitCount_0f7a4 38 = .ok (.iushr, 1) := by decide +kernel
theorem dJ6_bitCount_0f7a4_39 : decode cJ6_bitCount_0f7a4 39 = .ok (.iadd, 1) := by decide +kernel
theorem dJ6_bitCount_0f7a4_40 : decode cJ6_bitCount_0f7a4 40 = .ok (.istore_n 0, 1) := by decide +kernel
theorem dJ6_bitCount_0f7a4_41 : decode cJ6_bitCount_0f7a4 41 = .ok (.iload_n 0, 1) := by decide +kernel
theorem dJ6_bitCount_0f7a4_42 : decode cJ6_bitCount_0f7a4 42 = .ok (.iload_n 0, 1) := by decide +kernel
theorem dJ6_bitCount_0f7a4_43 : decode cJ6_bitCount_0f7a4 43 = .ok (.bipush 16, 2) := by decide +kernel
theorem dJ6_bitCount_0f7a4_45 : decode cJ6_bitCount_0f7a4 45 = .ok (.iushr, 1) := by decide +kernel
theorem dJ6_bitCount_0f7a4_46 : decode cJ6_bitCount_0f7a4 46 = .ok (.iadd, 1) := by decide +kernel
theorem dJ6_bitCount_0f7a4_47 : decode cJ6_bitCount_0f7a4 47 = .ok (.istore_n 0, 1) := by decide +kernel
theorem dJ6_bitCount_0f7a4_48 : decode cJ6_bitCount_0f7a4 48 = .ok (.iload_n 0, 1) := by decide +kernel
theorem dJ6_bitCount_0f7a4_49 : decode cJ6_bitCount_0f7a4 49 = .ok (.bipush 63, 2) := by decide +kernel
theorem dJ6_bitCount_0f7a4_51 : decode cJ6_bitCount_0f7a4 51 = .ok (.iand, 1) := by decide +kernel
theorem dJ6_bitCount_0f7a4_52 : decode cJ6_bitCount_0f7a4 52 = .ok (.ireturn, 1) := by decide +kernel
theorem dJ9_floorMod_7cf53_0 : decode cJ9_floorMod_7cf53 0 = .ok (.iload_n 0, 1) := by decide +kernel
theorem dJ9_floorMod_7cf53_1 : decode cJ9_floorMod_7cf53 1 = .ok (.iload_n 1, 1) := by decide +kernel
theorem dJ9_floorMod_7cf53_2 : decode cJ9_floorMod_7cf53 2 = .ok (.irem, 1) := by decide +kernel
theorem dJ9_floorMod_7cf53_3 : decode cJ9_floorMod_7cf53 3 = .ok (.istore_n 2, 1) := by decide +kernel
theorem dJ9_floorMod_7cf53_4 : decode cJ9_floorMod_7cf53 4 = .ok (.iload_n 0, 1) := by decide +kernel
theorem dJ9_floorMod_7cf53_5 : decode cJ9_floorMod_7cf53 5 = .ok (.iload_n 1, 1) := by decide +kernel
theorem dJ9_floorMod_7cf53_6 : decode cJ9_floorMod_7cf53 6 = .ok (.ixor, 1) := by decide +kernel
theorem dJ9_floorMod_7cf53_7 : decode cJ9_floorMod_7cf53 7 = .ok (.ifCond .ge 11, 3) := by decide +kernel
theorem dJ9_floorMod_7cf53_10 : decode cJ9_floorMod_7cf53 10 = .ok (.iload_n 2, 1) := by decide +kernel
theorem dJ9_floorMod_7cf53_11 : decode cJ9_floorMod_7cf53 11 = .ok (.ifCond .eq 7, 3) := by decide +kernel
theorem dJ9_floorMod_7cf53_14 : decode cJ9_floorMod_7cf53 14 = .ok (.iload_n 2, 1) := by decide +kernel
theorem dJ9_floorMod_7cf53_15 : decode cJ9_floorMod_7cf53 15 = .ok (.iload_n 1, 1) := by decide +kernel
theorem dJ9_floorMod_7cf53_16 : decode cJ9_floorMod_7cf53 16 = .ok (.iadd, 1) := by decide +kernel
theorem dJ9_floorMod_7cf53_17 : decode cJ9_floorMod_7cf53 17 = .ok (.ireturn, 1) := by decide +kernel
theorem dJ9_floorMod_7cf53_18 : decode cJ9_floorMod_7cf53 18 = .ok (.iload_n 2, 1) := by decide +kernel
theorem dJ9_floorMod_7cf53_19 : decode cJ9_floorMod_7cf53 19 = .ok (.ireturn, 1) := by decide +kernel
theorem dJ9_max_7cf53_0 : decode cJ9_max_7cf53 0 = .ok (.iload_n 0, 1) := by decide +kernel
theorem dJ9_max_7cf53_1 : decode cJ9_max_7cf53 1 = .ok (.iload_n 1, 1) := by decide +kernel
theorem dJ9_max_7cf53_2 : decode cJ9_max_7cf53 2 = .ok (.if_icmp .lt 7, 3) := by decide +kernel
theorem dJ9_max_7cf53_5 : decode cJ9_max_7cf53 5 = .ok (.iload_n 0, 1) := by decide +kernel
theorem dJ9_max_7cf53_6 : decode cJ9_max_7cf53 6 = .ok (.goto 4, 3) := by decide +kernel
theorem dJ9_max_7cf53_9 : decode cJ9_max_7cf53 9 = .ok (.iload_n 1, 1) := by decide +kernel
theorem dJ9_max_7cf53_10 : decode cJ9_max_7cf53 10 = .ok (.ireturn, 1) := by decide +kernel
theorem dJ9_min_7cf53_0 : decode cJ9_min_7cf53 0 = .ok (.iload_n 0, 1) := by decide +kernel
theorem dJ9_min_7cf53_1 : decode cJ9_min_7cf53 1 = .ok (.iload_n 1, 1) := by decide +kernel
theorem dJ9_min_7cf53_2 : decode cJ9_min_7cf53 2 = .ok (.if_icmp .gt 7, 3) := by decide +kernel
theorem dJ9_min_7cf53_5 : decode cJ9_min_7cf53 5 = .ok (.iload_n 0, 1) := by decide +kernel
theorem dJ9_min_7cf53_6 : decode cJ9_min_7cf53 6 = .ok (.goto 4, 3) := by decide +kernel
theorem dJ9_min_7cf53_9 : decode cJ9_min_7cf53 9 = .ok (.iload_n 1, 1) := by decide +kernel
theorem dJ9_min_7cf53_10 : decode cJ9_min_7cf53 10 = .ok (.ireturn, 1) := by decide +kernel
theorem dJ0_length_8abf5_0 : decode cJ0_length_8abf5 0 = .ok (.aload_n 0, 1) := by decide +kernel
theorem dJ0_length_8abf5_1 : decode cJ0_length_8abf5 1 = .ok (.getfield 9, 3) := by decide +kernel
theorem dJ0_length_8abf5_4 : decode cJ0_length_8abf5 4 = .ok (.arraylength, 1) := by decide +kernel
theorem dJ0_length_8abf5_5 : decode cJ0_length_8abf5 5 = .ok (.aload_n 0, 1) := by decide +kernel
theorem dJ0_length_8abf5_6 : decode cJ0_length_8abf5 6 = .ok (.invokevirtual 335, 3) := by decide +kernel
theorem dJ0_length_8abf5_9 : decode cJ0_length_8abf5 9 = .ok (.ishr, 1) := by decide +kernel
theorem dJ0_length_8abf5_10 : decode cJ0_length_8abf5 10 = .ok (.ireturn, 1) := by decide +kernel
theorem dJ0_indexOf_0f7a4_0 : decode cJ0_indexOf_0f7a4 0 = .ok (.aload_n 0, 1) := by decide +kernel
theorem dJ0_indexOf_0f7a4_1 : decode cJ0_indexOf_0f7a4 1 = .ok (.iload_n 1, 1) := by decide +kernel
theorem dJ0_indexOf_0f7a4_2 : decode cJ0_indexOf_0f7a4 2 = .ok (.iconst 0, 1) := by decide +kernel
theorem dJ0_indexOf_0f7a4_3 : decode cJ0_indexOf_0f7a4 3 = .ok (.invokevirtual 633, 3) := by decide +kernel
theorem dJ0_indexOf_0f7a4_6 : decode cJ0_indexOf_0f7a4 6 = .ok (.ireturn, 1) := by decide +kernel
theorem dJ0_indexOf_7cf53_0 : decode cJ0_indexOf_7cf53 0 = .ok (.aload_n 0, 1) := by decide +kernel
theorem dJ0_indexOf_7cf53_1 : decode cJ0_indexOf_7cf53 1 = .ok (.invokevirtual 492, 3) := by decide +kernel
theorem dJ0_indexOf_7cf53_4 : decode cJ0_indexOf_7cf53 4 = .ok (.ifCond .eq 19, 3) := by decide +kernel
theorem dJ0_indexOf_7cf53_7 : decode cJ0_indexOf_7cf53 7 = .ok (.aload_n 0, 1) := by decide +kernel
theorem dJ0_indexOf_7cf53_8 : decode cJ0_indexOf_7cf53 8 = .ok (.getfield 9, 3) := by decide +kernel
theorem dJ0_indexOf_7cf53_11 : decode cJ0_indexOf_7cf53 11 = .ok (.iload_n 1, 1) := by decide +kernel
theorem dJ0_indexOf_7cf53_12 : decode cJ0_indexOf_7cf53 12 = .ok (.iload_n 2, 1) := by decide +kernel
theorem dJ0_indexOf_7cf53_13 : decode cJ0_indexOf_7cf53 13 = .ok (.aload_n 0, 1) := by decide +kernel
theorem dJ0_indexOf_7cf53_14 : decode cJ0_indexOf_7cf53 14 = .ok (.invokevirtual 505, 3) := by decide +kernel
theorem dJ0_indexOf_7cf53_17 : decode cJ0_indexOf_7cf53 17 = .ok (.invokestatic 637, 3) := by decide +kernel
theorem dJ0_indexOf_7cf53_20 : decode cJ0_indexOf_7cf53 20 = .ok (.goto 16, 3) := by decide +kernel
theorem dJ0_indexOf_7cf53_23 : decode cJ0_indexOf_7cf53 23 = .ok (.aload_n 0, 1) := by decide +kernel
theorem dJ0_indexOf_7cf53_24 : decode cJ0_indexOf_7cf53 24 = .ok (.getfield 9, 3) := by decide +kernel
theorem dJ0_indexOf_7cf53_27 : decode cJ0_indexOf_7cf53 27 = .ok (.iload_n 1, 1) := by decide +kernel
theorem dJ0_indexOf_7cf53_28 : decode cJ0_indexOf_7cf53 28 = .ok (.iload_n 2, 1) := by decide +kernel
theorem dJ0_indexOf_7cf53_29 : decode cJ0_indexOf_7cf53 29 = .ok (.aload_n 0, 1) := by decide +kernel
theorem dJ0_indexOf_7cf53_30 : decode cJ0_indexOf_7cf53 30 = .ok (.invokevirtual 505, 3) := by decide +kernel
theorem dJ0_indexOf_7cf53_33 : decode cJ0_indexOf_7cf53 33 = .ok (.invokestatic 640, 3) := by decide +kernel
theorem dJ0_indexOf_7cf53_36 : decode cJ0_indexOf_7cf53 36 = .ok (.ireturn, 1) := by decide +kernel
theorem dJ0_coder_7d493_0 : decode cJ0_coder_7d493 0 = .ok (.getstatic 38, 3) := by decide +kernel
theorem dJ0_coder_7d493_3 : decode cJ0_coder_7d493 3 = .ok (.ifCond .eq 10, 3) := by decide +kernel
theorem dJ0_coder_7d493_6 : decode cJ0_coder_7d493 6 = .ok (.aload_n 0, 1) := by decide +kernel
theorem dJ0_coder_7d493_7 : decode cJ0_coder_7d493 7 = .ok (.getfield 15, 3) := by decide +kernel
theorem dJ0_coder_7d493_10 : decode cJ0_coder_7d493 10 = .ok (.goto 4, 3) := by decide +kernel
theorem dJ0_coder_7d493_13 : decode cJ0_coder_7d493 13 = .ok (.iconst 1, 1) := by decide +kernel
theorem dJ0_coder_7d493_14 : decode cJ0_coder_7d493 14 = .ok (.ireturn, 1) := by decide +kernel
theorem dJ0_isLatin1_aae02_0 : decode cJ0_isLatin1_aae02 0 = .ok (.getstatic 38, 3) := by decide +kernel
theorem dJ0_isLatin1_aae02_3 : decode cJ0_isLatin1_aae02 3 = .ok (.ifCond .eq 14, 3) := by decide +kernel
theorem dJ0_isLatin1_aae02_6 : decode cJ0_isLatin1_aae02 6 = .ok (.aload_n 0, 1) := by decide +kernel
theorem dJ0_isLatin1_aae02_7 : decode cJ0_isLatin1_aae02 7 = .ok (.getfield 15, 3) := by decide +kernel
theorem dJ0_isLatin1_aae02_10 : decode cJ0_isLatin1_aae02 10 = .ok (.ifCond .ne 7, 3) := by decide +kernel
theorem dJ0_isLatin1_aae02_13 : decode cJ0_isLatin1_aae02 13 = .ok (.iconst 1, 1) := by decide +kernel
theorem dJ0_isLatin1_aae02_14 : decode cJ0_isLatin1_aae02 14 = .ok (.goto 4, 3) := by decide +kernel
theorem dJ0_isLatin1_aae02_17 : decode cJ0_isLatin1_aae02 17 = .ok (.iconst 0, 1) := by decide +kernel
theorem dJ0_isLatin1_aae02_18 : decode cJ0_isLatin1_aae02 18 = .ok (.ireturn, 1) := by decide +kernel
theorem dJ0_checkBoundsBeginEnd_23922_0 : decode cJ0_checkBoundsBeginEnd_23922 0 = .ok (.iload_n 0, 1) := by decide +kernel
theorem dJ0_checkBoundsBeginEnd_23922_1 : decode cJ0_checkBoundsBeginEnd_23922 1 = .ok (.iload_n 1, 1) := by decide +kernel
theorem dJ0_checkBoundsBeginEnd_23922_2 : decode cJ0_checkBoundsBeginEnd_23922 2 = .ok (.iload_n 2, 1) := by decide +kernel
theorem dJ0_checkBoundsBeginEnd_23922_3 : decode cJ0_checkBoundsBeginEnd_23922 3 = .ok (.getstatic 1053, 3) := by decide +kernel
theorem dJ0_checkBoundsBeginEnd_23922_6 : decode cJ0_checkBoundsBeginEnd_23922 6 = .ok (.invokestatic 1062, 3) := by decide +kernel
theorem dJ0_checkBoundsBeginEnd_23922_9 : decode cJ0_checkBoundsBeginEnd_23922 9 = .ok (.pop, 1) := by decide +kernel
theorem dJ0_checkBoundsBeginEnd_23922_10 : decode cJ0_checkBoundsBeginEnd_23922 10 = .ok (.return_, 1) := by decide +kernel
theorem dJ1_canEncode_9a6ad_0 : decode cJ1_canEncode_9a6ad 0 = .ok (.iload_n 0, 1) := by decide +kernel
theorem dJ1_canEncode_9a6ad_1 : decode cJ1_canEncode_9a6ad 1 = .ok (.ifCond .lt 14, 3) := by decide +kernel
theorem dJ1_canEncode_9a6ad_4 : decode cJ1_canEncode_9a6ad 4 = .ok (.iload_n 0, 1) := by decide +kernel
theorem dJ1_canEncode_9a6ad_5 : decode cJ1_canEncode_9a6ad 5 = .ok (.sipush 255, 3) := by decide +kernel
theorem dJ1_canEncode_9a6ad_8 : decode cJ1_canEncode_9a6ad 8 = .ok (.if_icmp .gt 7, 3) := by decide +kernel
theorem dJ1_canEncode_9a6ad_11 : decode cJ1_canEncode_9a6ad 11 = .ok (.iconst 1, 1) := by decide +kernel
theorem dJ1_canEncode_9a6ad_12 : decode cJ1_canEncode_9a6ad 12 = .ok (.goto 4, 3) := by decide +kernel
theorem dJ1_canEncode_9a6ad_15 : decode cJ1_canEncode_9a6ad 15 = .ok (.iconst 0, 1) := by decide +kernel
theorem dJ1_canEncode_9a6ad_16 : decode cJ1_canEncode_9a6ad 16 = .ok (.ireturn, 1) := by decide +kernel
theorem dJ1_indexOf_4cfef_0 : decode cJ1_indexOf_4cfef 0 = .ok (.iload_n 1, 1) := by decide +kernel
theorem dJ1_indexOf_4cfef_1 : decode cJ1_indexOf_4cfef 1 = .ok (.invokestatic 88, 3) := by decide +kernel
theorem dJ1_indexOf_4cfef_4 : decode cJ1_indexOf_4cfef 4 = .ok (.ifCond .ne 5, 3) := by decide +kernel
theorem dJ1_indexOf_4cfef_7 : decode cJ1_indexOf_4cfef 7 = .ok (.iconst (-1), 1) := by decide +kernel
theorem dJ1_indexOf_4cfef_8 : decode cJ1_indexOf_4cfef 8 = .ok (.ireturn, 1) := by decide +kernel
theorem dJ1_indexOf_4cfef_9 : decode cJ1_indexOf_4cfef 9 = .ok (.iload_n 2, 1) := by decide +kernel
theorem dJ1_indexOf_4cfef_10 : decode cJ1_indexOf_4cfef 10 = .ok (.iconst 0, 1) := by decide +kernel
theorem dJ1_indexOf_4cfef_11 : decode cJ1_indexOf_4cfef 11 = .ok (.invokestatic 92, 3) := by decide +kernel
theorem dJ1_indexOf_4cfef_14 : decode cJ1_indexOf_4cfef 14 = .ok (.istore_n 2, 1) := by decide +kernel
theorem dJ1_indexOf_4cfef_15 : decode cJ1_indexOf_4cfef 15 = .ok (.iload_n 3, 1) := by decide +kernel
theorem dJ1_indexOf_4cfef_16 : decode cJ1_indexOf_4cfef 16 = .ok (.aload_n 0, 1) := by decide +kernel
theorem dJ1_indexOf_4cfef_17 : decode cJ1_indexOf_4cfef 17 = .ok (.arraylength, 1) := by decide +kernel
theorem dJ1_indexOf_4cfef_18 : decode cJ1_indexOf_4cfef 18 = .ok (.invokestatic 38, 3) := by decide +kernel
theorem dJ1_indexOf_4cfef_21 : decode cJ1_indexOf_4cfef 21 = .ok (.istore_n 3, 1) := by decide +kernel
theorem dJ1_indexOf_4cfef_22 : decode cJ1_indexOf_4cfef 22 = .ok (.iload_n 2, 1) := by decide +kernel
theorem dJ1_indexOf_4cfef_23 : decode cJ1_indexOf_4cfef 23 = .ok (.iload_n 3, 1) := by decide +kernel
theorem dJ1_indexOf_4cfef_24 : decode cJ1_indexOf_4cfef 24 = .ok (.if_icmp .lt 5, 3) := by decide +kernel
theorem dJ1_indexOf_4cfef_27 : decode cJ1_indexOf_4cfef 27 = .ok (.iconst (-1), 1) := by decide +kernel
theorem dJ1_indexOf_4cfef_28 : decode cJ1_indexOf_4cfef 28 = .ok (.ireturn, 1) := by decide +kernel
theorem dJ1_indexOf_4cfef_29 : decode cJ1_indexOf_4cfef 29 = .ok (.aload_n 0, 1) := by decide +kernel
theorem dJ1_indexOf_4cfef_30 : decode cJ1_indexOf_4cfef 30 = .ok (.iload_n 1, 1) := by decide +kernel
theorem dJ1_indexOf_4cfef_31 : decode cJ1_indexOf_4cfef 31 = .ok (.iload_n 2, 1) := by decide +kernel
theorem dJ1_indexOf_4cfef_32 : decode cJ1_indexOf_4cfef 32 = .ok (.iload_n 3, 1) := by decide +kernel
theorem dJ1_indexOf_4cfef_33 : decode cJ1_indexOf_4cfef 33 = .ok (.invokestatic 95, 3) := by decide +kernel
theorem dJ1_indexOf_4cfef_36 : decode cJ1_indexOf_4cfef 36 = .ok (.ireturn, 1) := by decide +kernel
theorem dJ1_indexOfChar_4cfef_0 : decode cJ1_indexOfChar_4cfef 0 = .ok (.iload_n 1, 1) := by decide +kernel
theorem dJ1_indexOfChar_4cfef_1 : decode cJ1_indexOfChar_4cfef 1 = .ok (.i2b, 1) := by decide +kernel
theorem dJ1_indexOfChar_4cfef_2 : decode cJ1_indexOfChar_4cfef 2 = .ok (.istore 4, 2) := by decide +kernel
theorem dJ1_indexOfChar_4cfef_4 : decode cJ1_indexOfChar_4cfef 4 = .ok (.iload_n 2, 1) := by decide +kernel
theorem dJ1_indexOfChar_4cfef_5 : decode cJ1_indexOfChar_4cfef 5 = .ok (.istore 5, 2) := by decide +kernel
theorem dJ1_indexOfChar_4cfef_7 : decode cJ1_indexOfChar_4cfef 7 = .ok (.iload 5, 2) := by decide +kernel
theorem dJ1_indexOfChar_4cfef_9 : decode cJ1_indexOfChar_4cfef 9 = .ok (.iload_n 3, 1) := by decide +kernel
theorem dJ1_indexOfChar_4cfef_10 : decode cJ1_indexOfChar_4cfef 10 = .ok (.if_icmp .ge 21, 3) := by decide +kernel
theorem dJ1_indexOfChar_4cfef_13 : decode cJ1_indexOfChar_4cfef 13 = .ok (.aload_n 0, 1) := by decide +kernel
theorem dJ1_indexOfChar_4cfef_14 : decode cJ1_indexOfChar_4cfef 14 = .ok (.iload 5, 2) := by decide +kernel
theorem dJ1_indexOfChar_4cfef_16 : decode cJ1_indexOfChar_4cfef 16 = .ok (.baload, 1) := by decide +kernel
theorem dJ1_indexOfChar_4cfef_17 : decode cJ1_indexOfChar_4cfef 17 = .ok (.iload 4, 2) := by decide +kernel
theorem dJ1_indexOfChar_4cfef_19 : decode cJ1_indexOfChar_4cfef 19 = .ok (.if_icmp .ne 6, 3) := by decide +kernel
theorem dJ1_indexOfChar_4cfef_22 : decode cJ1_indexOfChar_4cfef 22 = .ok (.iload 5, 2) := by decide +kernel
theorem dJ1_indexOfChar_4cfef_24 : decode cJ1_indexOfChar_4cfef 24 = .ok (.ireturn, 1) := by decide +kernel
theorem dJ1_indexOfChar_4cfef_25 : decode cJ1_indexOfChar_4cfef 25 = .ok (.iinc 5 1, 3) := by decide +kernel
theorem dJ1_indexOfChar_4cfef_28 : decode cJ1_indexOfChar_4cfef 28 = .ok (.goto (-21), 3) := by decide +kernel
theorem dJ1_indexOfChar_4cfef_31 : decode cJ1_indexOfChar_4cfef 31 = .ok (.iconst (-1), 1) := by decide +kernel
theorem dJ1_indexOfChar_4cfef_32 : decode cJ1_indexOfChar_4cfef 32 = .ok (.ireturn, 1) := by decide +kernel
theorem dJ2_getChar_3b067_0 : decode cJ2_getChar_3b067 0 = .ok (.getstatic 44, 3) := by decide +kernel
theorem dJ2_getChar_3b067_3 : decode cJ2_getChar_3b067 3 = .ok (.ifCond .ne 25, 3) := by decide +kernel
theorem dJ2_getChar_3b067_6 : decode cJ2_getChar_3b067 6 = .ok (.iload_n 1, 1) := by decide +kernel
theorem dJ2_getChar_3b067_7 : decode cJ2_getChar_3b067 7 = .ok (.ifCond .lt 11, 3) := by decide +kernel
theorem dJ2_getChar_3b067_10 : decode cJ2_getChar_3b067 10 = .ok (.iload_n 1, 1) := by decide +kernel
theorem dJ2_getChar_3b067_11 : decode cJ2_getChar_3b067 11 = .ok (.aload_n 0, 1) := by decide +kernel
theorem dJ2_getChar_3b067_12 : decode cJ2_getChar_3b067 12 = .ok (.invokestatic 48, 3) := by decide +kernel
theorem dJ2_getChar_3b067_15 : decode cJ2_getChar_3b067 15 = .ok (.if_icmp .lt 13, 3) := by decide +kernel
theorem dJ2_getChar_3b067_18 : decode cJ2_getChar_3b067 18 = .ok (.new 52, 3) := by decide +kernel
theorem dJ2_getChar_3b067_21 : decode cJ2_getChar_3b067 21 = .ok (.dup, 1) := by decide +kernel
theorem dJ2_getChar_3b067_22 : decode cJ2_getChar_3b067 22 = .ok (.ldc 54, 2) := by decide +kernel
theorem dJ2_getChar_3b067_24 : decode cJ2_getChar_3b067 24 = .ok (.invokespecial 56, 3) := by decide +kernel
theorem dJ2_getChar_3b067_27 : decode cJ2_getChar_3b067 27 = .ok (.athrow, 1) := by decide +kernel
theorem dJ2_getChar_3b067_28 : decode cJ2_getChar_3b067 28 = .ok (.iload_n 1, 1) := by decide +kernel
theorem dJ2_getChar_3b067_29 : decode cJ2_getChar_3b067 29 = .ok (.iconst 1, 1) := by decide +kernel
theorem dJ2_getChar_3b067_30 : decode cJ2_getChar_3b067 30 = .ok (.ishl, 1) := by decide +kernel
theorem dJ2_getChar_3b067_31 : decode cJ2_getChar_3b067 31 = .ok (.istore_n 1, 1) := by decide +kernel
theorem dJ2_getChar_3b067_32 : decode cJ2_getChar_3b067 32 = .ok (.aload_n 0, 1) := by decide +kernel
theorem dJ2_getChar_3b067_33 : decode cJ2_getChar_3b067 33 = .ok (.iload_n 1, 1) := by decide +kernel
theorem dJ2_getChar_3b067_34 : decode cJ2_getChar_3b067 34 = .ok (.iinc 1 1, 3) := by decide +kernel
theorem dJ2_getChar_3b067_37 : decode cJ2_getChar_3b067 37 = .ok (.baload, 1) := by decide +kernel
theorem dJ2_getChar_3b067_38 : decode cJ2_getChar_3b067 38 = .ok (.sipush 255, 3) := by decide +kernel
theorem dJ2_getChar_3b067_41 : decode cJ2_getChar_3b067 41 = .ok (.iand, 1) := by decide +kernel
theorem dJ2_getChar_3b067_42 : decode cJ2_getChar_3b067 42 = .ok (.getstatic 59, 3) := by decide +kernel
theorem dJ2_getChar_3b067_45 : decode cJ2_getChar_3b067 45 = .ok (.ishl, 1) := by decide +kernel
theorem dJ2_getChar_3b067_46 : decode cJ2_getChar_3b067 46 = .ok (.aload_n 0, 1) := by decide +kernel
theorem dJ2_getChar_3b067_47 : decode cJ2_getChar_3b067 47 = .ok (.iload_n 1, 1) := by decide +kernel
theorem dJ2_getChar_3b067_48 : decode cJ2_getChar_3b067 48 = .ok (.baload, 1) := by decide +kernel
theorem dJ2_getChar_3b067_49 : decode cJ2_getChar_3b067 49 = .ok (.sipush 255, 3) := by decide +kernel
theorem dJ2_getChar_3b067_52 : decode cJ2_getChar_3b067 52 = .ok (.iand, 1) := by decide +kernel
theorem dJ2_getChar_3b067_53 : decode cJ2_getChar_3b067 53 = .ok (.getstatic 63, 3) := by decide +kernel
theorem dJ2_getChar_3b067_56 : decode cJ2_getChar_3b067 56 = .ok (.ishl, 1) := by decide +kernel
theorem dJ2_getChar_3b067_57 : decode cJ2_getChar_3b067 57 = .ok (.ior, 1) := by decide +kernel
theorem dJ2_getChar_3b067_58 : decode cJ2_getChar_3b067 58 = .ok (.i2c, 1) := by decide +kernel
theorem dJ2_getChar_3b067_59 : decode cJ2_getChar_3b067 59 = .ok (.ireturn, 1) := by decide +kernel
theorem dJ2_length_9d52b_0 : decode cJ2_length_9d52b 0 = .ok (.aload_n 0, 1) := by decide +kernel
theorem dJ2_length_9d52b_1 : decode cJ2_length_9d52b 1 = .ok (.arraylength, 1) := by decide +kernel
theorem dJ2_length_9d52b_2 : decode cJ2_length_9d52b 2 = .ok (.iconst 1, 1) := by decide +kernel
theorem dJ2_length_9d52b_3 : decode cJ2_length_9d52b 3 = .ok (.ishr, 1) := by decide +kernel
theorem dJ2_length_9d52b_4 : decode cJ2_length_9d52b 4 = .ok (.ireturn, 1) := by decide +kernel
theorem dJ2_indexOf_4cfef_0 : decode cJ2_indexOf_4cfef 0 = .ok (.iload_n 2, 1) := by decide +kernel
theorem dJ2_indexOf_4cfef_1 : decode cJ2_indexOf_4cfef 1 = .ok (.iconst 0, 1) := by decide +kernel
theorem dJ2_indexOf_4cfef_2 : decode cJ2_indexOf_4cfef 2 = .ok (.invokestatic 224, 3) := by decide +kernel
theorem dJ2_indexOf_4cfef_5 : decode cJ2_indexOf_4cfef 5 = .ok (.istore_n 2, 1) := by decide +kernel
theorem dJ2_indexOf_4cfef_6 : decode cJ2_indexOf_4cfef 6 = .ok (.iload_n 3, 1) := by decide +kernel
theorem dJ2_indexOf_4cfef_7 : decode cJ2_indexOf_4cfef 7 = .ok (.aload_n 0, 1) := by decide +kernel
theorem dJ2_indexOf_4cfef_8 : decode cJ2_indexOf_4cfef 8 = .ok (.arraylength, 1) := by decide +kernel
theorem dJ2_indexOf_4cfef_9 : decode cJ2_indexOf_4cfef 9 = .ok (.iconst 1, 1) := by decide +kernel
theorem dJ2_indexOf_4cfef_10 : decode cJ2_indexOf_4cfef 10 = .ok (.ishr, 1) := by decide +kernel
theorem dJ2_indexOf_4cfef_11 : decode cJ2_indexOf_4cfef 11 = .ok (.invokestatic 183, 3) := by decide +kernel
theorem dJ2_indexOf_4cfef_14 : decode cJ2_indexOf_4cfef 14 = .ok (.istore_n 3, 1) := by decide +kernel
theorem dJ2_indexOf_4cfef_15 : decode cJ2_indexOf_4cfef 15 = .ok (.iload_n 2, 1) := by decide +kernel
theorem dJ2_indexOf_4cfef_16 : decode cJ2_indexOf_4cfef 16 = .ok (.iload_n 3, 1) := by decide +kernel
theorem dJ2_indexOf_4cfef_17 : decode cJ2_indexOf_4cfef 17 = .ok (.if_icmp .lt 5, 3) := by decide +kernel
theorem dJ2_indexOf_4cfef_20 : decode cJ2_indexOf_4cfef 20 = .ok (.iconst (-1), 1) := by decide +kernel
theorem dJ2_indexOf_4cfef_21 : decode cJ2_indexOf_4cfef 21 = .ok (.ireturn, 1) := by decide +kernel
theorem dJ2_indexOf_4cfef_22 : decode cJ2_indexOf_4cfef 22 = .ok (.iload_n 1, 1) := by decide +kernel
theorem dJ2_indexOf_4cfef_23 : decode cJ2_indexOf_4cfef 23 = .ok (.ldc 227, 2) := by decide +kernel
theorem dJ2_indexOf_4cfef_25 : decode cJ2_indexOf_4cfef 25 = .ok (.if_icmp .ge 11, 3) := by decide +kernel
theorem dJ2_indexOf_4cfef_28 : decode cJ2_indexOf_4cfef 28 = .ok (.aload_n 0, 1) := by decide +kernel
theorem dJ2_indexOf_4cfef_29 : decode cJ2_indexOf_4cfef 29 = .ok (.iload_n 1, 1) := by decide +kernel
theorem dJ2_indexOf_4cfef_30 : decode cJ2_indexOf_4cfef 30 = .ok (.iload_n 2, 1) := by decide +kernel
theorem dJ2_indexOf_4cfef_31 : decode cJ2_indexOf_4cfef 31 = .ok (.iload_n 3, 1) := by decide +kernel
theorem dJ2_indexOf_4cfef_32 : decode cJ2_indexOf_4cfef 32 = .ok (.invokestatic 228, 3) := by decide +kernel
theorem dJ2_indexOf_4cfef_35 : decode cJ2_indexOf_4cfef 35 = .ok (.ireturn, 1) := by decide +kernel
theorem dJ2_indexOf_4cfef_36 : decode cJ2_indexOf_4cfef 36 = .ok (.aload_n 0, 1) := by decide +kernel
theorem dJ2_indexOf_4cfef_37 : decode cJ2_indexOf_4cfef 37 = .ok (.iload_n 1, 1) := by decide +kernel
theorem dJ2_indexOf_4cfef_38 : decode cJ2_indexOf_4cfef 38 = .ok (.iload_n 2, 1) := by decide +kernel
theorem dJ2_indexOf_4cfef_39 : decode cJ2_indexOf_4cfef 39 = .ok (.iload_n 3, 1) := by decide +kernel
theorem dJ2_indexOf_4cfef_40 : decode cJ2_indexOf_4cfef 40 = .ok (.invokestatic 232, 3) := by decide +kernel
theorem dJ2_indexOf_4cfef_43 : decode cJ2_indexOf_4cfef 43 = .ok (.ireturn, 1) := by decide +kernel
theorem dJ2_indexOfChar_4cfef_0 : decode cJ2_indexOfChar_4cfef 0 = .ok (.iload_n 2, 1) := by decide +kernel
theorem dJ2_indexOfChar_4cfef_1 : decode cJ2_indexOfChar_4cfef 1 = .ok (.iload_n 3, 1) := by decide +kernel
theorem dJ2_indexOfChar_4cfef_2 : decode cJ2_indexOfChar_4cfef 2 = .ok (.aload_n 0, 1) := by decide +kernel
theorem dJ2_indexOfChar_4cfef_3 : decode cJ2_indexOfChar_4cfef 3 = .ok (.invokestatic 96, 3) := by decide +kernel
theorem dJ2_indexOfChar_4cfef_6 : decode cJ2_indexOfChar_4cfef 6 = .ok (.aload_n 0, 1) := by decide +kernel
theorem dJ2_indexOfChar_4cfef_7 : decode cJ2_indexOfChar_4cfef 7 = .ok (.iload_n 1, 1) := by decide +kernel
theorem dJ2_indexOfChar_4cfef_8 : decode cJ2_indexOfChar_4cfef 8 = .ok (.iload_n 2, 1) := by decide +kernel
theorem dJ2_indexOfChar_4cfef_9 : decode cJ2_indexOfChar_4cfef 9 = .ok (.iload_n 3, 1) := by decide +kernel
theorem dJ2_indexOfChar_4cfef_10 : decode cJ2_indexOfChar_4cfef 10 = .ok (.invokestatic 244, 3) := by decide +kernel
theorem dJ2_indexOfChar_4cfef_13 : decode cJ2_indexOfChar_4cfef 13 = .ok (.ireturn, 1) := by decide +kernel
theorem dJ2_indexOfCharUnsafe_4cfef_0 : decode cJ2_indexOfCharUnsafe_4cfef 0 = .ok (.iload_n 2, 1) := by decide +kernel
theorem dJ2_indexOfCharUnsafe_4cfef_1 : decode cJ2_indexOfCharUnsafe_4cfef 1 = .ok (.istore 4, 2) := by decide +kernel
theorem dJ2_indexOfCharUnsafe_4cfef_3 : decode cJ2_indexOfCharUnsafe_4cfef 3 = .ok (.iload 4, 2) := by decide +kernel
theorem dJ2_indexOfCharUnsafe_4cfef_5 : decode cJ2_indexOfCharUnsafe_4cfef 5 = .ok (.iload_n 3, 1) := by decide +kernel
theorem dJ2_indexOfCharUnsafe_4cfef_6 : decode cJ2_indexOfCharUnsafe_4cfef 6 = .ok (.if_icmp .ge 22, 3) := by decide +kernel
theorem dJ2_indexOfCharUnsafe_4cfef_9 : decode cJ2_indexOfCharUnsafe_4cfef 9 = .ok (.aload_n 0, 1) := by decide +kernel
theorem dJ2_indexOfCharUnsafe_4cfef_10 : decode cJ2_indexOfCharUnsafe_4cfef 10 = .ok (.iload 4, 2) := by decide +kernel
theorem dJ2_indexOfCharUnsafe_4cfef_12 : decode cJ2_indexOfCharUnsafe_4cfef 12 = .ok (.invokestatic 71, 3) := by decide +kernel
theorem dJ2_indexOfCharUnsafe_4cfef_15 : decode cJ2_indexOfCharUnsafe_4cfef 15 = .ok (.iload_n 1, 1) := by decide +kernel
theorem dJ2_indexOfCharUnsafe_4cfef_16 : decode cJ2_indexOfCharUnsafe_4cfef 16 = .ok (.if_icmp .ne 6, 3) := by decide +kernel
theorem dJ2_indexOfCharUnsafe_4cfef_19 : decode cJ2_indexOfCharUnsafe_4cfef 19 = .ok (.iload 4, 2) := by decide +kernel
theorem dJ2_indexOfCharUnsafe_4cfef_21 : decode cJ2_indexOfCharUnsafe_4cfef 21 = .ok (.ireturn, 1) := by decide +kernel
theorem dJ2_indexOfCharUnsafe_4cfef_22 : decode cJ2_indexOfCharUnsafe_4cfef 22 = .ok (.iinc 4 1, 3) := by decide +kernel
theorem dJ2_indexOfCharUnsafe_4cfef_25 : decode cJ2_indexOfCharUnsafe_4cfef 25 = .ok (.goto (-22), 3) := by decide +kernel
theorem dJ2_indexOfCharUnsafe_4cfef_28 : decode cJ2_indexOfCharUnsafe_4cfef 28 = .ok (.iconst (-1), 1) := by decide +kernel
theorem dJ2_indexOfCharUnsafe_4cfef_29 : decode cJ2_indexOfCharUnsafe_4cfef 29 = .ok (.ireturn, 1) := by decide +kernel
theorem dJ2_indexOfSupplementary_4cfef_0 : decode cJ2_indexOfSupplementary_4cfef 0 = .ok (.iload_n 1, 1) := by decide +kernel
theorem dJ2_indexOfSupplementary_4cfef_1 : decode cJ2_indexOfSupplementary_4cfef 1 = .ok (.invokestatic 164, 3) := by decide +kernel
theorem dJ2_indexOfSupplementary_4cfef_4 : decode cJ2_indexOfSupplementary_4cfef 4 = .ok (.ifCond .eq 65, 3) := by decide +kernel
theorem dJ2_indexOfSupplementary_4cfef_7 : decode cJ2_indexOfSupplementary_4cfef 7 = .ok (.iload_n 1, 1) := by decide +kernel
theorem dJ2_indexOfSupplementary_4cfef_8 : decode cJ2_indexOfSupplementary_4cfef 8 = .ok (.invokestatic 157, 3) := by decide +kernel
theorem dJ2_indexOfSupplementary_4cfef_11 : decode cJ2_indexOfSupplementary_4cfef 11 = .ok (.istore 4, 2) := by decide +kernel
theorem dJ2_indexOfSupplementary_4cfef_13 : decode cJ2_indexOfSupplementary_4cfef 13 = .ok (.iload_n 1, 1) := by decide +kernel
theorem dJ2_indexOfSupplementary_4cfef_14 : decode cJ2_indexOfSupplementary_4cfef 14 = .ok (.invokestatic 161, 3) := by decide +kernel
theorem dJ2_indexOfSupplementary_4cfef_17 : decode cJ2_indexOfSupplementary_4cfef 17 = .ok (.istore 5, 2) := by decide +kernel
theorem dJ2_indexOfSupplementary_4cfef_19 : decode cJ2_indexOfSupplementary_4cfef 19 = .ok (.iload_n 2, 1) := by decide +kernel
theorem dJ2_indexOfSupplementary_4cfef_20 : decode cJ2_indexOfSupplementary_4cfef 20 = .ok (.iload_n 3, 1) := by decide +kernel
theorem dJ2_indexOfSupplementary_4cfef_21 : decode cJ2_indexOfSupplementary_4cfef 21 = .ok (.aload_n 0, 1) := by decide +kernel
theorem dJ2_indexOfSupplementary_4cfef_22 : decode cJ2_indexOfSupplementary_4cfef 22 = .ok (.invokestatic 96, 3) := by decide +kernel
theorem dJ2_indexOfSupplementary_4cfef_25 : decode cJ2_indexOfSupplementary_4cfef 25 = .ok (.iload_n 2, 1) := by decide +kernel
theorem dJ2_indexOfSupplementary_4cfef_26 : decode cJ2_indexOfSupplementary_4cfef 26 = .ok (.istore 6, 2) := by decide +kernel
theorem dJ2_indexOfSupplementary_4cfef_28 : decode cJ2_indexOfSupplementary_4cfef 28 = .ok (.iload 6, 2) := by decide +kernel
theorem dJ2_indexOfSupplementary_4cfef_30 : decode cJ2_indexOfSupplementary_4cfef 30 = .ok (.iload_n 3, 1) := by decide +kernel
theorem dJ2_indexOfSupplementary_4cfef_31 : decode cJ2_indexOfSupplementary_4cfef 31 = .ok (.iconst 1, 1) := by decide +kernel
theorem dJ2_indexOfSupplementary_4cfef_32 : decode cJ2_indexOfSupplementary_4cfef 32 = .ok (.isub, 1) := by decide +kernel
theorem dJ2_indexOfSupplementary_4cfef_33 : decode cJ2_indexOfSupplementary_4cfef 33 = .ok (.if_icmp .ge 36, 3) := by decide +kernel
theorem dJ2_indexOfSupplementary_4cfef_36 : decode cJ2_indexOfSupplementary_4cfef 36 = .ok (.aload_n 0, 1) := by decide +kernel
theorem dJ2_indexOfSupplementary_4cfef_37 : decode cJ2_indexOfSupplementary_4cfef 37 = .ok (.iload 6, 2) := by decide +kernel
theorem dJ2_indexOfSupplementary_4cfef_39 : decode cJ2_indexOfSupplementary_4cfef 39 = .ok (.invokestatic 71, 3) := by decide +kernel
theorem dJ2_indexOfSupplementary_4cfef_42 : decode cJ2_indexOfSupplementary_4cfef 42 = .ok (.iload 4, 2) := by decide +kernel
theorem dJ2_indexOfSupplementary_4cfef_44 : decode cJ2_indexOfSupplementary_4cfef 44 = .ok (.if_icmp .ne 19, 3) := by decide +kernel
theorem dJ2_indexOfSupplementary_4cfef_47 : decode cJ2_indexOfSupplementary_4cfef 47 = .ok (.aload_n 0, 1) := by decide +kernel
theorem dJ2_indexOfSupplementary_4cfef_48 : decode cJ2_indexOfSupplementary_4cfef 48 = .ok (.iload 6, 2) := by decide +kernel
theorem dJ2_indexOfSupplementary_4cfef_50 : decode cJ2_indexOfSupplementary_4cfef 50 = .ok (.iconst 1, 1) := by decide +kernel
theorem dJ2_indexOfSupplementary_4cfef_51 : decode cJ2_indexOfSupplementary_4cfef 51 = .ok (.iadd, 1) := by decide +kernel
theorem dJ2_indexOfSupplementary_4cfef_52 : decode cJ2_indexOfSupplementary_4cfef 52 = .ok (.invokestatic 71, 3) := by decide +kernel
theorem dJ2_indexOfSupplementary_4cfef_55 : decode cJ2_indexOfSupplementary_4cfef 55 = .ok (.iload 5, 2) := by decide +kernel
theorem dJ2_indexOfSupplementary_4cfef_57 : decode cJ2_indexOfSupplementary_4cfef 57 = .ok (.if_icmp .ne 6, 3) := by decide +kernel
theorem dJ2_indexOfSupplementary_4cfef_60 : decode cJ2_indexOfSupplementary_4cfef 60 = .ok (.iload 6, 2) := by decide +kernel
theorem dJ2_indexOfSupplementary_4cfef_62 : decode cJ2_indexOfSupplementary_4cfef 62 = .ok (.ireturn, 1) := by decide +kernel
theorem dJ2_indexOfSupplementary_4cfef_63 : decode cJ2_indexOfSupplementary_4cfef 63 = .ok (.iinc 6 1, 3) := by decide +kernel
theorem dJ2_indexOfSupplementary_4cfef_66 : decode cJ2_indexOfSupplementary_4cfef 66 = .ok (.goto (-38), 3) := by decide +kernel
theorem dJ2_indexOfSupplementary_4cfef_69 : decode cJ2_indexOfSupplementary_4cfef 69 = .ok (.iconst (-1), 1) := by decide +kernel
theorem dJ2_indexOfSupplementary_4cfef_70 : decode cJ2_indexOfSupplementary_4cfef 70 = .ok (.ireturn, 1) := by decide +kernel
theorem dJ2_checkBoundsBeginEnd_d044e_0 : decode cJ2_checkBoundsBeginEnd_d044e 0 = .ok (.iload_n 0, 1) := by decide +kernel
theorem dJ2_checkBoundsBeginEnd_d044e_1 : decode cJ2_checkBoundsBeginEnd_d044e 1 = .ok (.iload_n 1, 1) := by decide +kernel
theorem dJ2_checkBoundsBeginEnd_d044e_2 : decode cJ2_checkBoundsBeginEnd_d044e 2 = .ok (.aload_n 2, 1) := by decide +kernel
theorem dJ2_checkBoundsBeginEnd_d044e_3 : decode cJ2_checkBoundsBeginEnd_d044e 3 = .ok (.invokestatic 48, 3) := by decide +kernel
theorem dJ2_checkBoundsBeginEnd_d044e_6 : decode cJ2_checkBoundsBeginEnd_d044e 6 = .ok (.invokestatic 241, 3) := by decide +kernel
theorem dJ2_checkBoundsBeginEnd_d044e_9 : decode cJ2_checkBoundsBeginEnd_d044e 9 = .ok (.return_, 1) := by decide +kernel
theorem dJ3_checkFromToIndex_8c36e_0 : decode cJ3_checkFromToIndex_8c36e 0 = .ok (.iload_n 0, 1) := by decide +kernel
theorem dJ3_checkFromToIndex_8c36e_1 : decode cJ3_checkFromToIndex_8c36e 1 = .ok (.ifCond .lt 13, 3) := by decide +kernel
theorem dJ3_checkFromToIndex_8c36e_4 : decode cJ3_checkFromToIndex_8c36e 4 = .ok (.iload_n 0, 1) := by decide +kernel
theorem dJ3_checkFromToIndex_8c36e_5 : decode cJ3_checkFromToIndex_8c36e 5 = .ok (.iload_n 1, 1) := by decide +kernel
theorem dJ3_checkFromToIndex_8c36e_6 : decode cJ3_checkFromToIndex_8c36e 6 = .ok (.if_icmp .gt 8, 3) := by decide +kernel
theorem dJ3_checkFromToIndex_8c36e_9 : decode cJ3_checkFromToIndex_8c36e 9 = .ok (.iload_n 1, 1) := by decide +kernel
theorem dJ3_checkFromToIndex_8c36e_10 : decode cJ3_checkFromToIndex_8c36e 10 = .ok (.iload_n 2, 1) := by decide +kernel
theorem dJ3_checkFromToIndex_8c36e_11 : decode cJ3_checkFromToIndex_8c36e 11 = .ok (.if_icmp .le 11, 3) := by decide +kernel
theorem dJ3_checkFromToIndex_8c36e_14 : decode cJ3_checkFromToIndex_8c36e 14 = .ok (.aload_n 3, 1) := by decide +kernel
theorem dJ3_checkFromToIndex_8c36e_15 : decode cJ3_checkFromToIndex_8c36e 15 = .ok (.iload_n 0, 1) := by decide +kernel
theorem dJ3_checkFromToIndex_8c36e_16 : decode cJ3_checkFromToIndex_8c36e 16 = .ok (.iload_n 1, 1) := by decide +kernel
theorem dJ3_checkFromToIndex_8c36e_17 : decode cJ3_checkFromToIndex_8c36e 17 = .ok (.iload_n 2, 1) := by decide +kernel
theorem dJ3_checkFromToIndex_8c36e_18 : decode cJ3_checkFromToIndex_8c36e 18 = .ok (.invokestatic 99, 3) := by decide +kernel
theorem dJ3_checkFromToIndex_8c36e_21 : decode cJ3_checkFromToIndex_8c36e 21 = .ok (.athrow, 1) := by decide +kernel
theorem dJ3_checkFromToIndex_8c36e_22 : decode cJ3_checkFromToIndex_8c36e 22 = .ok (.iload_n 0, 1) := by decide +kernel
theorem dJ3_checkFromToIndex_8c36e_23 : decode cJ3_checkFromToIndex_8c36e 23 = .ok (.ireturn, 1) := by decide +kernel
theorem dX0_init_0 : decode cX0_init 0 = .ok (.aload_n 0, 1) := by decide +kernel
theorem dX0_init_1 : decode cX0_init 1 = .ok (.invokespecial 3, 3) := by decide +kernel
theorem dX0_init_4 : decode cX0_init 4 = .ok (.aload_n 0, 1) := by decide +kernel
theorem dX0_init_5 : decode cX0_init 5 = .ok (.new 9, 3) := by decide +kernel
theorem dX0_init_8 : decode cX0_init 8 = .ok (.dup, 1) := by decide +kernel
theorem dX0_init_9 : decode cX0_init 9 = .ok (.bipush 60, 2) := by decide +kernel
theorem dX0_init_11 : decode cX0_init 11 = .ok (.invokespecial 11, 3) := by decide +kernel
theorem dX0_init_14 : decode cX0_init 14 = .ok (.putfield 14, 3) := by decide +kernel
theorem dX0_init_17 : decode cX0_init 17 = .ok (.aload_n 0, 1) := by decide +kernel
theorem dX0_init_18 : decode cX0_init 18 = .ok (.bipush 60, 2) := by decide +kernel
theorem dX0_init_20 : decode cX0_init 20 = .ok (.newarray .int, 2) := by decide +kernel
theorem dX0_init_22 : decode cX0_init 22 = .ok (.putfield 20, 3) := by decide +kernel
theorem dX0_init_25 : decode cX0_init 25 = .ok (.aload_n 0, 1) := by decide +kernel
theorem dX0_init_26 : decode cX0_init 26 = .ok (.iload_n 1, 1) := by decide +kernel
theorem dX0_init_27 : decode cX0_init 27 = .ok (.putfield 24, 3) := by decide +kernel
theorem dX0_init_30 : decode cX0_init 30 = .ok (.return_, 1) := by decide +kernel
theorem dX0_takeSteps_0 : decode cX0_takeSteps 0 = .ok (.aload_n 0, 1) := by decide +kernel
theorem dX0_takeSteps_1 : decode cX0_takeSteps 1 = .ok (.getfield 14, 3) := by decide +kernel
theorem dX0_takeSteps_4 : decode cX0_takeSteps 4 = .ok (.aload_n 1, 1) := by decide +kernel
theorem dX0_takeSteps_5 : decode cX0_takeSteps 5 = .ok (.invokevirtual 28, 3) := by decide +kernel
theorem dX0_takeSteps_8 : decode cX0_takeSteps 8 = .ok (.return_, 1) := by decide +kernel
theorem dX0_gives_0 : decode cX0_gives 0 = .ok (.aload_n 0, 1) := by decide +kernel
theorem dX0_gives_1 : decode cX0_gives 1 = .ok (.getfield 20, 3) := by decide +kernel
theorem dX0_gives_4 : decode cX0_gives 4 = .ok (.iconst 0, 1) := by decide +kernel
theorem dX0_gives_5 : decode cX0_gives 5 = .ok (.iload_n 1, 1) := by decide +kernel
theorem dX0_gives_6 : decode cX0_gives 6 = .ok (.iastore, 1) := by decide +kernel
theorem dX0_gives_7 : decode cX0_gives 7 = .ok (.iconst 0, 1) := by decide +kernel
theorem dX0_gives_8 : decode cX0_gives 8 = .ok (.istore 4, 2) := by decide +kernel
theorem dX0_gives_10 : decode cX0_gives 10 = .ok (.iconst 0, 1) := by decide +kernel
theorem dX0_gives_11 : decode cX0_gives 11 = .ok (.istore 5, 2) := by decide +kernel
theorem dX0_gives_13 : decode cX0_gives 13 = .ok (.iload 5, 2) := by decide +kernel
theorem dX0_gives_15 : decode cX0_gives 15 = .ok (.aload_n 0, 1) := by decide +kernel
theorem dX0_gives_16 : decode cX0_gives 16 = .ok (.getfield 14, 3) := by decide +kernel
theorem dX0_gives_19 : decode cX0_gives 19 = .ok (.getfield 32, 3) := by decide +kernel
theorem dX0_gives_22 : decode cX0_gives 22 = .ok (.if_icmp .ge 139, 3) := by decide +kernel
theorem dX0_gives_25 : decode cX0_gives 25 = .ok (.aload_n 0, 1) := by decide +kernel
theorem dX0_gives_26 : decode cX0_gives 26 = .ok (.getfield 14, 3) := by decide +kernel
theorem dX0_gives_29 : decode cX0_gives 29 = .ok (.getfield 35, 3) := by decide +kernel
theorem dX0_gives_32 : decode cX0_gives 32 = .ok (.iload 5, 2) := by decide +kernel
theorem dX0_gives_34 : decode cX0_gives 34 = .ok (.iaload, 1) := by decide +kernel
theorem dX0_gives_35 : decode cX0_gives 35 = .ok (.istore 6, 2) := by decide +kernel
theorem dX0_gives_37 : decode cX0_gives 37 = .ok (.iload 6, 2) := by decide +kernel
theorem dX0_gives_39 : decode cX0_gives 39 = .ok (.ifCond .lt 34, 3) := by decide +kernel
theorem dX0_gives_42 : decode cX0_gives 42 = .ok (.iload 4, 2) := by decide +kernel
theorem dX0_gives_44 : decode cX0_gives 44 = .ok (.aload_n 0, 1) := by decide +kernel
theorem dX0_gives_45 : decode cX0_gives 45 = .ok (.getfield 20, 3) := by decide +kernel
theorem dX0_gives_48 : decode cX0_gives 48 = .ok (.arraylength, 1) := by decide +kernel
theorem dX0_gives_49 : decode cX0_gives 49 = .ok (.if_icmp .ge 24, 3) := by decide +kernel
theorem dX0_gives_52 : decode cX0_gives 52 = .ok (.aload_n 0, 1) := by decide +kernel
theorem dX0_gives_53 : decode cX0_gives 53 = .ok (.getfield 20, 3) := by decide +kernel
theorem dX0_gives_56 : decode cX0_gives 56 = .ok (.iload 4, 2) := by decide +kernel
theorem dX0_gives_58 : decode cX0_gives 58 = .ok (.iload 6, 2) := by decide +kernel
theorem dX0_gives_60 : decode cX0_gives 60 = .ok (.iload_n 1, 1) := by decide +kernel
theorem dX0_gives_61 : decode cX0_gives 61 = .ok (.iload_n 2, 1) := by decide +kernel
theorem dX0_gives_62 : decode cX0_gives 62 = .ok (.iload_n 3, 1) := by decide +kernel
theorem dX0_gives_63 : decode cX0_gives 63 = .ok (.invokestatic 38, 3) := by decide +kernel
theorem dX0_gives_66 : decode cX0_gives 66 = .ok (.iastore, 1) := by decide +kernel
theorem dX0_gives_67 : decode cX0_gives 67 = .ok (.iinc 4 1, 3) := by decide +kernel
theorem dX0_gives_70 : decode cX0_gives 70 = .ok (.goto 85, 3) := by decide +kernel
theorem dX0_gives_73 : decode cX0_gives 73 = .ok (.iload 6, 2) := by decide +kernel
theorem dX0_gives_75 : decode cX0_gives 75 = .ok (.bipush (-33), 2) := by decide +kernel
theorem dX0_gives_77 : decode cX0_gives 77 = .ok (.if_icmp .ne 38, 3) := by decide +kernel
theorem dX0_gives_80 : decode cX0_gives 80 = .ok (.iload 4, 2) := by decide +kernel
theorem dX0_gives_82 : decode cX0_gives 82 = .ok (.iconst 1, 1) := by decide +kernel
theorem dX0_gives_83 : decode cX0_gives 83 = .ok (.if_icmp .lt 32, 3) := by decide +kernel
theorem dX0_gives_86 : decode cX0_gives 86 = .ok (.aload_n 0, 1) := by decide +kernel
theorem dX0_gives_87 : decode cX0_gives 87 = .ok (.getfield 20, 3) := by decide +kernel
theorem dX0_gives_90 : decode cX0_gives 90 = .ok (.iload 4, 2) := by decide +kernel
theorem dX0_gives_92 : decode cX0_gives 92 = .ok (.iconst 1, 1) := by decide +kernel
theorem dX0_gives_93 : decode cX0_gives 93 = .ok (.isub, 1) := by decide +kernel
theorem dX0_gives_94 : decode cX0_gives 94 = .ok (.aload_n 0, 1) := by decide +kernel
theorem dX0_gives_95 : decode cX0_gives 95 = .ok (.getfield 20, 3) := by decide +kernel
theorem dX0_gives_98 : decode cX0_gives 98 = .ok (.iload 4, 2) := by decide +kernel
theorem dX0_gives_100 : decode cX0_gives 100 = .ok (.iconst 1, 1) := by decide +kernel
theorem dX0_gives_101 : decode cX0_gives 101 = .ok (.isub, 1) := by decide +kernel
theorem dX0_gives_102 : decode cX0_gives 102 = .ok (.iaload, 1) := by decide +kernel
theorem dX0_gives_103 : decode cX0_gives 103 = .ok (.ifCond .ne 7, 3) := by decide +kernel
theorem dX0_gives_106 : decode cX0_gives 106 = .ok (.iconst 1, 1) := by decide +kernel
theorem dX0_gives_107 : decode cX0_gives 107 = .ok (.goto 4, 3) := by decide +kernel
theorem dX0_gives_110 : decode cX0_gives 110 = .ok (.iconst 0, 1) := by decide +kernel
theorem dX0_gives_111 : decode cX0_gives 111 = .ok (.iastore, 1) := by decide +kernel
theorem dX0_gives_112 : decode cX0_gives 112 = .ok (.goto 43, 3) := by decide +kernel
theorem dX0_gives_115 : decode cX0_gives 115 = .ok (.iload 4, 2) := by decide +kernel
theorem dX0_gives_117 : decode cX0_gives 117 = .ok (.iconst 2, 1) := by decide +kernel
theorem dX0_gives_118 : decode cX0_gives 118 = .ok (.if_icmp .lt 37, 3) := by decide +kernel
theorem dX0_gives_121 : decode cX0_gives 121 = .ok (.iinc 4 (-1), 3) := by decide +kernel
theorem dX0_gives_124 : decode cX0_gives 124 = .ok (.aload_n 0, 1) := by decide +kernel
theorem dX0_gives_125 : decode cX0_gives 125 = .ok (.getfield 20, 3) := by decide +kernel
theorem dX0_gives_128 : decode cX0_gives 128 = .ok (.iload 4, 2) := by decide +kernel
theorem dX0_gives_130 : decode cX0_gives 130 = .ok (.iconst 1, 1) := by decide +kernel
theorem dX0_gives_131 : decode cX0_gives 131 = .ok (.isub, 1) := by decide +kernel
theorem dX0_gives_132 : decode cX0_gives 132 = .ok (.iload 6, 2) := by decide +kernel
theorem dX0_gives_134 : decode cX0_gives 134 = .ok (.ineg, 1) := by decide +kernel
theorem dX0_gives_135 : decode cX0_gives 135 = .ok (.aload_n 0, 1) := by decide +kernel
theorem dX0_gives_136 : decode cX0_gives 136 = .ok (.getfield 20, 3) := by decide +kernel
theorem dX0_gives_139 : decode cX0_gives 139 = .ok (.iload 4, 2) := by decide +kernel
theorem dX0_gives_141 : decode cX0_gives 141 = .ok (.iconst 1, 1) := by decide +kernel
theorem dX0_gives_142 : decode cX0_gives 142 = .ok (.isub, 1) := by decide +kernel
theorem dX0_gives_143 : decode cX0_gives 143 = .ok (.iaload, 1) := by decide +kernel
theorem dX0_gives_144 : decode cX0_gives 144 = .ok (.aload_n 0, 1) := by decide +kernel
theorem dX0_gives_145 : decode cX0_gives 145 = .ok (.getfield 20, 3) := by decide +kernel
theorem dX0_gives_148 : decode cX0_gives 148 = .ok (.iload 4, 2) := by decide +kernel
theorem dX0_gives_150 : decode cX0_gives 150 = .ok (.iaload, 1) := by decide +kernel
theorem dX0_gives_151 : decode cX0_gives 151 = .ok (.invokestatic 42, 3) := by decide +kernel
theorem dX0_gives_154 : decode cX0_gives 154 = .ok (.iastore, 1) := by decide +kernel
theorem dX0_gives_155 : decode cX0_gives 155 = .ok (.iinc 5 1, 3) := by decide +kernel
theorem dX0_gives_158 : decode cX0_gives 158 = .ok (.goto (-145), 3) := by decide +kernel
theorem dX0_gives_161 : decode cX0_gives 161 = .ok (.aload_n 0, 1) := by decide +kernel
theorem dX0_gives_162 : decode cX0_gives 162 = .ok (.getfield 24, 3) := by decide +kernel
theorem dX0_gives_165 : decode cX0_gives 165 = .ok (.ifCond .ne 21, 3) := by decide +kernel
theorem dX0_gives_168 : decode cX0_gives 168 = .ok (.iconst 0, 1) := by decide +kernel
theorem dX0_gives_169 : decode cX0_gives 169 = .ok (.bipush 99, 2) := by decide +kernel
theorem dX0_gives_171 : decode cX0_gives 171 = .ok (.aload_n 0, 1) := by decide +kernel
theorem dX0_gives_172 : decode cX0_gives 172 = .ok (.getfield 20, 3) := by decide +kernel
theorem dX0_gives_175 : decode cX0_gives 175 = .ok (.iconst 0, 1) := by decide +kernel
theorem dX0_gives_176 : decode cX0_gives 176 = .ok (.iaload, 1) := by decide +kernel
theorem dX0_gives_177 : decode cX0_gives 177 = .ok (.invokestatic 46, 3) := by decide +kernel
theorem dX0_gives_180 : decode cX0_gives 180 = .ok (.invokestatic 52, 3) := by decide +kernel
theorem dX0_gives_183 : decode cX0_gives 183 = .ok (.goto 14, 3) := by decide +kernel
theorem dX0_gives_186 : decode cX0_gives 186 = .ok (.aload_n 0, 1) := by decide +kernel
theorem dX0_gives_187 : decode cX0_gives 187 = .ok (.getfield 20, 3) := by decide +kernel
theorem dX0_gives_190 : decode cX0_gives 190 = .ok (.iconst 0, 1) := by decide +kernel
theorem dX0_gives_191 : decode cX0_gives 191 = .ok (.iaload, 1) := by decide +kernel
theorem dX0_gives_192 : decode cX0_gives 192 = .ok (.bipush 100, 2) := by decide +kernel
theorem dX0_gives_194 : decode cX0_gives 194 = .ok (.invokestatic 55, 3) := by decide +kernel
theorem dX0_gives_197 : decode cX0_gives 197 = .ok (.ireturn, 1) := by decide +kernel
theorem dX0_worth_0 : decode cX0_worth 0 = .ok (.iload_n 0, 1) := by decide +kernel
theorem dX0_worth_1 : decode cX0_worth 1 = .ok (.tableswitch 33 10000 10002 #[27, 29, 31], 27) := by decide +kernel
theorem dX0_worth_28 : decode cX0_worth 28 = .ok (.iload_n 1, 1) := by decide +kernel
theorem dX0_worth_29 : decode cX0_worth 29 = .ok (.ireturn, 1) := by decide +kernel
theorem dX0_worth_30 : decode cX0_worth 30 = .ok (.iload_n 2, 1) := by decide +kernel
theorem dX0_worth_31 : decode cX0_worth 31 = .ok (.ireturn, 1) := by decide +kernel
theorem dX0_worth_32 : decode cX0_worth 32 = .ok (.iload_n 3, 1) := by decide +kernel
theorem dX0_worth_33 : decode cX0_worth 33 = .ok (.ireturn, 1) := by decide +kernel
theorem dX0_worth_34 : decode cX0_worth 34 = .ok (.iload_n 0, 1) := by decide +kernel
theorem dX0_worth_35 : decode cX0_worth 35 = .ok (.ireturn, 1) := by decide +kernel
theorem dX0_combine_0 : decode cX0_combine 0 = .ok (.iload_n 0, 1) := by decide +kernel
theorem dX0_combine_1 : decode cX0_combine 1 = .ok (.lookupswitch 188 #[(37, 176), (38, 105), (42, 160), (43, 152), (45, 156), (47, 164), (60, 119), (61, 130), (62, 141), (124, 91)], 91) := by decide +kernel
theorem dX0_combine_92 : decode cX0_combine 92 = .ok (.iload_n 1, 1) := by decide +kernel
theorem dX0_combine_93 : decode cX0_combine 93 = .ok (.ifCond .ne 7, 3) := by decide +kernel
theorem dX0_combine_96 : decode cX0_combine 96 = .ok (.iload_n 2, 1) := by decide +kernel
theorem dX0_combine_97 : decode cX0_combine 97 = .ok (.ifCond .eq 7, 3) := by decide +kernel
theorem dX0_combine_100 : decode cX0_combine 100 = .ok (.iconst 1, 1) := by decide +kernel
theorem dX0_combine_101 : decode cX0_combine 101 = .ok (.goto 4, 3) := by decide +kernel
theorem dX0_combine_104 : decode cX0_combine 104 = .ok (.iconst 0, 1) := by decide +kernel
theorem dX0_combine_105 : decode cX0_combine 105 = .ok (.ireturn, 1) := by decide +kernel
theorem dX0_combine_106 : decode cX0_combine 106 = .ok (.iload_n 1, 1) := by decide +kernel
theorem dX0_combine_107 : decode cX0_combine 107 = .ok (.ifCond .eq 11, 3) := by decide +kernel
theorem dX0_combine_110 : decode cX0_combine 110 = .ok (.iload_n 2, 1) := by decide +kernel
theorem dX0_combine_111 : decode cX0_combine 111 = .ok (.ifCond .eq 7, 3) := by decide +kernel
theorem dX0_combine_114 : decode cX0_combine 114 = .ok (.iconst 1, 1) := by decide +kernel
theorem dX0_combine_115 : decode cX0_combine 115 = .ok (.goto 4, 3) := by decide +kernel
theorem dX0_combine_118 : decode cX0_combine 118 = .ok (.iconst 0, 1) := by decide +kernel
theorem dX0_combine_119 : decode cX0_combine 119 = .ok (.ireturn, 1) := by decide +kernel
theorem dX0_combine_120 : decode cX0_combine 120 = .ok (.iload_n 1, 1) := by decide +kernel
theorem dX0_combine_121 : decode cX0_combine 121 = .ok (.iload_n 2, 1) := by decide +kernel
theorem dX0_combine_122 : decode cX0_combine 122 = .ok (.if_icmp .ge 7, 3) := by decide +kernel
theorem dX0_combine_125 : decode cX0_combine 125 = .ok (.iconst 1, 1) := by decide +kernel
theorem dX0_combine_126 : decode cX0_combine 126 = .ok (.goto 4, 3) := by decide +kernel
theorem dX0_combine_129 : decode cX0_combine 129 = .ok (.iconst 0, 1) := by decide +kernel
theorem dX0_combine_130 : decode cX0_combine 130 = .ok (.ireturn, 1) := by decide +kernel
theorem dX0_combine_131 : decode cX0_combine 131 = .ok (.iload_n 1, 1) := by decide +kernel
theorem dX0_combine_132 : decode cX0_combine 132 = .ok (.iload_n 2, 1) := by decide +kernel
theorem dX0_combine_133 : decode cX0_combine 133 = .ok (.if_icmp .ne 7, 3) := by decide +kernel
theorem dX0_combine_136 : decode cX0_combine 136 = .ok (.iconst 1, 1) := by decide +kernel
theorem dX0_combine_137 : decode cX0_combine 137 = .ok (.goto 4, 3) := by decide +kernel
theorem dX0_combine_140 : decode cX0_combine 140 = .ok (.iconst 0, 1) := by decide +kernel
theorem dX0_combine_141 : decode cX0_combine 141 = .ok (.ireturn, 1) := by decide +kernel
theorem dX0_combine_142 : decode cX0_combine 142 = .ok (.iload_n 1, 1) := by decide +kernel
theorem dX0_combine_143 : decode cX0_combine 143 = .ok (.iload_n 2, 1) := by decide +kernel
theorem dX0_combine_144 : decode cX0_combine 144 = .ok (.if_icmp .le 7, 3) := by decide +kernel
theorem dX0_combine_147 : decode cX0_combine 147 = .ok (.iconst 1, 1) := by decide +kernel
theorem dX0_combine_148 : decode cX0_combine 148 = .ok (.goto 4, 3) := by decide +kernel
theorem dX0_combine_151 : decode cX0_combine 151 = .ok (.iconst 0, 1) := by decide +kernel
theorem dX0_combine_152 : decode cX0_combine 152 = .ok (.ireturn, 1) := by decide +kernel
theorem dX0_combine_153 : decode cX0_combine 153 = .ok (.iload_n 1, 1) := by decide +kernel
theorem dX0_combine_154 : decode cX0_combine 154 = .ok (.iload_n 2, 1) := by decide +kernel
theorem dX0_combine_155 : decode cX0_combine 155 = .ok (.iadd, 1) := by decide +kernel
theorem dX0_combine_156 : decode cX0_combine 156 = .ok (.ireturn, 1) := by decide +kernel
theorem dX0_combine_157 : decode cX0_combine 157 = .ok (.iload_n 1, 1) := by decide +kernel
theorem dX0_combine_158 : decode cX0_combine 158 = .ok (.iload_n 2, 1) := by decide +kernel
theorem dX0_combine_159 : decode cX0_combine 159 = .ok (.isub, 1) := by decide +kernel
theorem dX0_combine_160 : decode cX0_combine 160 = .ok (.ireturn, 1) := by decide +kernel
theorem dX0_combine_161 : decode cX0_combine 161 = .ok (.iload_n 1, 1) := by decide +kernel
theorem dX0_combine_162 : decode cX0_combine 162 = .ok (.iload_n 2, 1) := by decide +kernel
theorem dX0_combine_163 : decode cX0_combine 163 = .ok (.imul, 1) := by decide +kernel
theorem dX0_combine_164 : decode cX0_combine 164 = .ok (.ireturn, 1) := by decide +kernel
theorem dX0_combine_165 : decode cX0_combine 165 = .ok (.iload_n 2, 1) := by decide +kernel
theorem dX0_combine_166 : decode cX0_combine 166 = .ok (.ifCond .ne 7, 3) := by decide +kernel
theorem dX0_combine_169 : decode cX0_combine 169 = .ok (.iconst 0, 1) := by decide +kernel
theorem dX0_combine_170 : decode cX0_combine 170 = .ok (.goto 6, 3) := by decide +kernel
theorem dX0_combine_173 : decode cX0_combine 173 = .ok (.iload_n 1, 1) := by decide +kernel
theorem dX0_combine_174 : decode cX0_combine 174 = .ok (.iload_n 2, 1) := by decide +kernel
theorem dX0_combine_175 : decode cX0_combine 175 = .ok (.idiv, 1) := by decide +kernel
theorem dX0_combine_176 : decode cX0_combine 176 = .ok (.ireturn, 1) := by decide +kernel
theorem dX0_combine_177 : decode cX0_combine 177 = .ok (.iload_n 2, 1) := by decide +kernel
theorem dX0_combine_178 : decode cX0_combine 178 = .ok (.ifCond .ne 7, 3) := by decide +kernel
theorem dX0_combine_181 : decode cX0_combine 181 = .ok (.iconst 0, 1) := by decide +kernel
theorem dX0_combine_182 : decode cX0_combine 182 = .ok (.goto 6, 3) := by decide +kernel
theorem dX0_combine_185 : decode cX0_combine 185 = .ok (.iload_n 1, 1) := by decide +kernel
theorem dX0_combine_186 : decode cX0_combine 186 = .ok (.iload_n 2, 1) := by decide +kernel
theorem dX0_combine_187 : decode cX0_combine 187 = .ok (.irem, 1) := by decide +kernel
theorem dX0_combine_188 : decode cX0_combine 188 = .ok (.ireturn, 1) := by decide +kernel
theorem dX0_combine_189 : decode cX0_combine 189 = .ok (.iconst 0, 1) := by decide +kernel
theorem dX0_combine_190 : decode cX0_combine 190 = .ok (.ireturn, 1) := by decide +kernel
theorem dX1_init_0 : decode cX1_init 0 = .ok (.aload_n 0, 1) := by decide +kernel
theorem dX1_init_1 : decode cX1_init 1 = .ok (.invokespecial 3, 3) := by decide +kernel
theorem dX1_init_4 : decode cX1_init 4 = .ok (.aload_n 0, 1) := by decide +kernel
theorem dX1_init_5 : decode cX1_init 5 = .ok (.new 9, 3) := by decide +kernel
theorem dX1_init_8 : decode cX1_init 8 = .ok (.dup, 1) := by decide +kernel
theorem dX1_init_9 : decode cX1_init 9 = .ok (.bipush 60, 2) := by decide +kernel
theorem dX1_init_11 : decode cX1_init 11 = .ok (.invokespecial 11, 3) := by decide +kernel
theorem dX1_init_14 : decode cX1_init 14 = .ok (.putfield 14, 3) := by decide +kernel
theorem dX1_init_17 : decode cX1_init 17 = .ok (.aload_n 0, 1) := by decide +kernel
theorem dX1_init_18 : decode cX1_init 18 = .ok (.aload_n 0, 1) := by decide +kernel
theorem dX1_init_19 : decode cX1_init 19 = .ok (.getfield 14, 3) := by decide +kernel
theorem dX1_init_22 : decode cX1_init 22 = .ok (.putfield 20, 3) := by decide +kernel
theorem dX1_init_25 : decode cX1_init 25 = .ok (.aload_n 0, 1) := by decide +kernel
theorem dX1_init_26 : decode cX1_init 26 = .ok (.ldc 23, 2) := by decide +kernel
theorem dX1_init_28 : decode cX1_init 28 = .ok (.putfield 25, 3) := by decide +kernel
theorem dX1_init_31 : decode cX1_init 31 = .ok (.aload_n 0, 1) := by decide +kernel
theorem dX1_init_32 : decode cX1_init 32 = .ok (.iconst 0, 1) := by decide +kernel
theorem dX1_init_33 : decode cX1_init 33 = .ok (.putfield 29, 3) := by decide +kernel
theorem dX1_init_36 : decode cX1_init 36 = .ok (.aload_n 0, 1) := by decide +kernel
theorem dX1_init_37 : decode cX1_init 37 = .ok (.iconst (-1), 1) := by decide +kernel
theorem dX1_init_38 : decode cX1_init 38 = .ok (.putfield 33, 3) := by decide +kernel
theorem dX1_init_41 : decode cX1_init 41 = .ok (.return_, 1) := by decide +kernel
theorem dX1_read_0 : decode cX1_read 0 = .ok (.aload_n 0, 1) := by decide +kernel
theorem dX1_read_1 : decode cX1_read 1 = .ok (.aload_n 1, 1) := by decide +kernel
theorem dX1_read_2 : decode cX1_read 2 = .ok (.putfield 20, 3) := by decide +kernel
theorem dX1_read_5 : decode cX1_read 5 = .ok (.aload_n 0, 1) := by decide +kernel
theorem dX1_read_6 : decode cX1_read 6 = .ok (.iload_n 2, 1) := by decide +kernel
theorem dX1_read_7 : decode cX1_read 7 = .ok (.ifCond .ne 8, 3) := by decide +kernel
theorem dX1_read_10 : decode cX1_read 10 = .ok (.ldc 36, 2) := by decide +kernel
theorem dX1_read_12 : decode cX1_read 12 = .ok (.goto 5, 3) := by decide +kernel
theorem dX1_read_15 : decode cX1_read 15 = .ok (.ldc 38, 2) := by decide +kernel
theorem dX1_read_17 : decode cX1_read 17 = .ok (.putfield 25, 3) := by decide +kernel
theorem dX1_read_20 : decode cX1_read 20 = .ok (.aload_n 0, 1) := by decide +kernel
theorem dX1_read_21 : decode cX1_read 21 = .ok (.iconst 0, 1) := by decide +kernel
theorem dX1_read_22 : decode cX1_read 22 = .ok (.putfield 29, 3) := by decide +kernel
theorem dX1_read_25 : decode cX1_read 25 = .ok (.aload_n 0, 1) := by decide +kernel
theorem dX1_read_26 : decode cX1_read 26 = .ok (.iconst (-1), 1) := by decide +kernel
theorem dX1_read_27 : decode cX1_read 27 = .ok (.putfield 33, 3) := by decide +kernel
theorem dX1_read_30 : decode cX1_read 30 = .ok (.aload_n 0, 1) := by decide +kernel
theorem dX1_read_31 : decode cX1_read 31 = .ok (.getfield 14, 3) := by decide +kernel
theorem dX1_read_34 : decode cX1_read 34 = .ok (.invokevirtual 40, 3) := by decide +kernel
theorem dX1_read_37 : decode cX1_read 37 = .ok (.aload_n 0, 1) := by decide +kernel
theorem dX1_read_38 : decode cX1_read 38 = .ok (.iconst 0, 1) := by decide +kernel
theorem dX1_read_39 : decode cX1_read 39 = .ok (.invokevirtual 43, 3) := by decide +kernel
theorem dX1_read_42 : decode cX1_read 42 = .ok (.aload_n 0, 1) := by decide +kernel
theorem dX1_read_43 : decode cX1_read 43 = .ok (.invokevirtual 46, 3) := by decide +kernel
theorem dX1_read_46 : decode cX1_read 46 = .ok (.iconst (-1), 1) := by decide +kernel
theorem dX1_read_47 : decode cX1_read 47 = .ok (.if_icmp .eq 7, 3) := by decide +kernel
theorem dX1_read_50 : decode cX1_read 50 = .ok (.aload_n 0, 1) := by decide +kernel
theorem dX1_read_51 : decode cX1_read 51 = .ok (.invokevirtual 50, 3) := by decide +kernel
theorem dX1_read_54 : decode cX1_read 54 = .ok (.aload_n 0, 1) := by decide +kernel
theorem dX1_read_55 : decode cX1_read 55 = .ok (.getfield 33, 3) := by decide +kernel
theorem dX1_read_58 : decode cX1_read 58 = .ok (.ireturn, 1) := by decide +kernel
theorem dX1_next_0 : decode cX1_next 0 = .ok (.aload_n 0, 1) := by decide +kernel
theorem dX1_next_1 : decode cX1_next 1 = .ok (.getfield 33, 3) := by decide +kernel
theorem dX1_next_4 : decode cX1_next 4 = .ok (.ifCond .ge 32, 3) := by decide +kernel
theorem dX1_next_7 : decode cX1_next 7 = .ok (.aload_n 0, 1) := by decide +kernel
theorem dX1_next_8 : decode cX1_next 8 = .ok (.getfield 20, 3) := by decide +kernel
theorem dX1_next_11 : decode cX1_next 11 = .ok (.aload_n 0, 1) := by decide +kernel
theorem dX1_next_12 : decode cX1_next 12 = .ok (.getfield 29, 3) := by decide +kernel
theorem dX1_next_15 : decode cX1_next 15 = .ok (.invokevirtual 53, 3) := by decide +kernel
theorem dX1_next_18 : decode cX1_next 18 = .ok (.ifCond .eq 18, 3) := by decide +kernel
theorem dX1_next_21 : decode cX1_next 21 = .ok (.aload_n 0, 1) := by decide +kernel
theorem dX1_next_22 : decode cX1_next 22 = .ok (.getfield 20, 3) := by decide +kernel
theorem dX1_next_25 : decode cX1_next 25 = .ok (.getfield 57, 3) := by decide +kernel
theorem dX1_next_28 : decode cX1_next 28 = .ok (.aload_n 0, 1) := by decide +kernel
theorem dX1_next_29 : decode cX1_next 29 = .ok (.getfield 29, 3) := by decide +kernel
theorem dX1_next_32 : decode cX1_next 32 = .ok (.iaload, 1) := by decide +kernel
theorem dX1_next_33 : decode cX1_next 33 = .ok (.goto 4, 3) := by decide +kernel
theorem dX1_next_36 : decode cX1_next 36 = .ok (.iconst (-1), 1) := by decide +kernel
theorem dX1_next_37 : decode cX1_next 37 = .ok (.ireturn, 1) := by decide +kernel
theorem dX1_fail_0 : decode cX1_fail 0 = .ok (.aload_n 0, 1) := by decide +kernel
theorem dX1_fail_1 : decode cX1_fail 1 = .ok (.getfield 33, 3) := by decide +kernel
theorem dX1_fail_4 : decode cX1_fail 4 = .ok (.ifCond .ge 11, 3) := by decide +kernel
theorem dX1_fail_7 : decode cX1_fail 7 = .ok (.aload_n 0, 1) := by decide +kernel
theorem dX1_fail_8 : decode cX1_fail 8 = .ok (.aload_n 0, 1) := by decide +kernel
theorem dX1_fail_9 : decode cX1_fail 9 = .ok (.getfield 29, 3) := by decide +kernel
theorem dX1_fail_12 : decode cX1_fail 12 = .ok (.putfield 33, 3) := by decide +kernel
theorem dX1_fail_15 : decode cX1_fail 15 = .ok (.return_, 1) := by decide +kernel
theorem dX1_isNext_0 : decode cX1_isNext 0 = .ok (.aload_n 0, 1) := by decide +kernel
theorem dX1_isNext_1 : decode cX1_isNext 1 = .ok (.invokevirtual 46, 3) := by decide +kernel
theorem dX1_isNext_4 : decode cX1_isNext 4 = .ok (.iload_n 1, 1) := by decide +kernel
theorem dX1_isNext_5 : decode cX1_isNext 5 = .ok (.if_icmp .ne 7, 3) := by decide +kernel
theorem dX1_isNext_8 : decode cX1_isNext 8 = .ok (.iconst 1, 1) := by decide +kernel
theorem dX1_isNext_9 : decode cX1_isNext 9 = .ok (.goto 4, 3) := by decide +kernel
theorem dX1_isNext_12 : decode cX1_isNext 12 = .ok (.iconst 0, 1) := by decide +kernel
theorem dX1_isNext_13 : decode cX1_isNext 13 = .ok (.ireturn, 1) := by decide +kernel
theorem dX1_readT_0 : decode cX1_readT 0 = .ok (.aload_n 0, 1) := by decide +kernel
theorem dX1_readT_1 : decode cX1_readT 1 = .ok (.iload_n 1, 1) := by decide +kernel
theorem dX1_readT_2 : decode cX1_readT 2 = .ok (.invokevirtual 61, 3) := by decide +kernel
theorem dX1_readT_5 : decode cX1_readT 5 = .ok (.iconst 0, 1) := by decide +kernel
theorem dX1_readT_6 : decode cX1_readT 6 = .ok (.istore_n 2, 1) := by decide +kernel
theorem dX1_readT_7 : decode cX1_readT 7 = .ok (.iload_n 2, 1) := by decide +kernel
theorem dX1_readT_8 : decode cX1_readT 8 = .ok (.bipush 60, 2) := by decide +kernel
theorem dX1_readT_10 : decode cX1_readT 10 = .ok (.if_icmp .ge 42, 3) := by decide +kernel
theorem dX1_readT_13 : decode cX1_readT 13 = .ok (.aload_n 0, 1) := by decide +kernel
theorem dX1_readT_14 : decode cX1_readT 14 = .ok (.bipush 124, 2) := by decide +kernel
theorem dX1_readT_16 : decode cX1_readT 16 = .ok (.invokevirtual 64, 3) := by decide +kernel
theorem dX1_readT_19 : decode cX1_readT 19 = .ok (.ifCond .eq 33, 3) := by decide +kernel
theorem dX1_readT_22 : decode cX1_readT 22 = .ok (.aload_n 0, 1) := by decide +kernel
theorem dX1_readT_23 : decode cX1_readT 23 = .ok (.dup, 1) := by decide +kernel
theorem dX1_readT_24 : decode cX1_readT 24 = .ok (.getfield 29, 3) := by decide +kernel
theorem dX1_readT_27 : decode cX1_readT 27 = .ok (.iconst 1, 1) := by decide +kernel
theorem dX1_readT_28 : decode cX1_readT 28 = .ok (.iadd, 1) := by decide +kernel
theorem dX1_readT_29 : decode cX1_readT 29 = .ok (.putfield 29, 3) := by decide +kernel
theorem dX1_readT_32 : decode cX1_readT 32 = .ok (.aload_n 0, 1) := by decide +kernel
theorem dX1_readT_33 : decode cX1_readT 33 = .ok (.iload_n 1, 1) := by decide +kernel
theorem dX1_readT_34 : decode cX1_readT 34 = .ok (.invokevirtual 61, 3) := by decide +kernel
theorem dX1_readT_37 : decode cX1_readT 37 = .ok (.aload_n 0, 1) := by decide +kernel
theorem dX1_readT_38 : decode cX1_readT 38 = .ok (.getfield 14, 3) := by decide +kernel
theorem dX1_readT_41 : decode cX1_readT 41 = .ok (.bipush (-124), 2) := by decide +kernel
theorem dX1_readT_43 : decode cX1_readT 43 = .ok (.invokevirtual 68, 3) := by decide +kernel
theorem dX1_readT_46 : decode cX1_readT 46 = .ok (.iinc 2 1, 3) := by decide +kernel
theorem dX1_readT_49 : decode cX1_readT 49 = .ok (.goto (-42), 3) := by decide +kernel
theorem dX1_readT_52 : decode cX1_readT 52 = .ok (.return_, 1) := by decide +kernel
theorem dX1_readA_0 : decode cX1_readA 0 = .ok (.aload_n 0, 1) := by decide +kernel
theorem dX1_readA_1 : decode cX1_readA 1 = .ok (.iload_n 1, 1) := by decide +kernel
theorem dX1_readA_2 : decode cX1_readA 2 = .ok (.invokevirtual 71, 3) := by decide +kernel
theorem dX1_readA_5 : decode cX1_readA 5 = .ok (.iconst 0, 1) := by decide +kernel
theorem dX1_readA_6 : decode cX1_readA 6 = .ok (.istore_n 2, 1) := by decide +kernel
theorem dX1_readA_7 : decode cX1_readA 7 = .ok (.iload_n 2, 1) := by decide +kernel
theorem dX1_readA_8 : decode cX1_readA 8 = .ok (.bipush 60, 2) := by decide +kernel
theorem dX1_readA_10 : decode cX1_readA 10 = .ok (.if_icmp .ge 42, 3) := by decide +kernel
theorem dX1_readA_13 : decode cX1_readA 13 = .ok (.aload_n 0, 1) := by decide +kernel
theorem dX1_readA_14 : decode cX1_readA 14 = .ok (.bipush 38, 2) := by decide +kernel
theorem dX1_readA_16 : decode cX1_readA 16 = .ok (.invokevirtual 64, 3) := by decide +kernel
theorem dX1_readA_19 : decode cX1_readA 19 = .ok (.ifCond .eq 33, 3) := by decide +kernel
theorem dX1_readA_22 : decode cX1_readA 22 = .ok (.aload_n 0, 1) := by decide +kernel
theorem dX1_readA_23 : decode cX1_readA 23 = .ok (.dup, 1) := by decide +kernel
theorem dX1_readA_24 : decode cX1_readA 24 = .ok (.getfield 29, 3) := by decide +kernel
theorem dX1_readA_27 : decode cX1_readA 27 = .ok (.iconst 1, 1) := by decide +kernel
theorem dX1_readA_28 : decode cX1_readA 28 = .ok (.iadd, 1) := by decide +kernel
theorem dX1_readA_29 : decode cX1_readA 29 = .ok (.putfield 29, 3) := by decide +kernel
theorem dX1_readA_32 : decode cX1_readA 32 = .ok (.aload_n 0, 1) := by decide +kernel
theorem dX1_readA_33 : decode cX1_readA 33 = .ok (.iload_n 1, 1) := by decide +kernel
theorem dX1_readA_34 : decode cX1_readA 34 = .ok (.invokevirtual 71, 3) := by decide +kernel
theorem dX1_readA_37 : decode cX1_readA 37 = .ok (.aload_n 0, 1) := by decide +kernel
theorem dX1_readA_38 : decode cX1_readA 38 = .ok (.getfield 14, 3) := by decide +kernel
theorem dX1_readA_41 : decode cX1_readA 41 = .ok (.bipush (-38), 2) := by decide +kernel
theorem dX1_readA_43 : decode cX1_readA 43 = .ok (.invokevirtual 68, 3) := by decide +kernel
theorem dX1_readA_46 : decode cX1_readA 46 = .ok (.iinc 2 1, 3) := by decide +kernel
theorem dX1_readA_49 : decode cX1_readA 49 = .ok (.goto (-42), 3) := by decide +kernel
theorem dX1_readA_52 : decode cX1_readA 52 = .ok (.return_, 1) := by decide +kernel
theorem dX1_readB_0 : decode cX1_readB 0 = .ok (.aload_n 0, 1) := by decide +kernel
theorem dX1_readB_1 : decode cX1_readB 1 = .ok (.iload_n 1, 1) := by decide +kernel
theorem dX1_readB_2 : decode cX1_readB 2 = .ok (.invokevirtual 74, 3) := by decide +kernel
theorem dX1_readB_5 : decode cX1_readB 5 = .ok (.aload_n 0, 1) := by decide +kernel
theorem dX1_readB_6 : decode cX1_readB 6 = .ok (.bipush 60, 2) := by decide +kernel
theorem dX1_readB_8 : decode cX1_readB 8 = .ok (.invokevirtual 64, 3) := by decide +kernel
theorem dX1_readB_11 : decode cX1_readB 11 = .ok (.ifCond .ne 21, 3) := by decide +kernel
theorem dX1_readB_14 : decode cX1_readB 14 = .ok (.aload_n 0, 1) := by decide +kernel
theorem dX1_readB_15 : decode cX1_readB 15 = .ok (.bipush 61, 2) := by decide +kernel
theorem dX1_readB_17 : decode cX1_readB 17 = .ok (.invokevirtual 64, 3) := by decide +kernel
theorem dX1_readB_20 : decode cX1_readB 20 = .ok (.ifCond .ne 12, 3) := by decide +kernel
theorem dX1_readB_23 : decode cX1_readB 23 = .ok (.aload_n 0, 1) := by decide +kernel
theorem dX1_readB_24 : decode cX1_readB 24 = .ok (.bipush 62, 2) := by decide +kernel
theorem dX1_readB_26 : decode cX1_readB 26 = .ok (.invokevirtual 64, 3) := by decide +kernel
theorem dX1_readB_29 : decode cX1_readB 29 = .ok (.ifCond .eq 32, 3) := by decide +kernel
theorem dX1_readB_32 : decode cX1_readB 32 = .ok (.aload_n 0, 1) := by decide +kernel
theorem dX1_readB_33 : decode cX1_readB 33 = .ok (.invokevirtual 46, 3) := by decide +kernel
theorem dX1_readB_36 : decode cX1_readB 36 = .ok (.istore_n 2, 1) := by decide +kernel
theorem dX1_readB_37 : decode cX1_readB 37 = .ok (.aload_n 0, 1) := by decide +kernel
theorem dX1_readB_38 : decode cX1_readB 38 = .ok (.dup, 1) := by decide +kernel
theorem dX1_readB_39 : decode cX1_readB 39 = .ok (.getfield 29, 3) := by decide +kernel
theorem dX1_readB_42 : decode cX1_readB 42 = .ok (.iconst 1, 1) := by decide +kernel
theorem dX1_readB_43 : decode cX1_readB 43 = .ok (.iadd, 1) := by decide +kernel
theorem dX1_readB_44 : decode cX1_readB 44 = .ok (.putfield 29, 3) := by decide +kernel
theorem dX1_readB_47 : decode cX1_readB 47 = .ok (.aload_n 0, 1) := by decide +kernel
theorem dX1_readB_48 : decode cX1_readB 48 = .ok (.iload_n 1, 1) := by decide +kernel
theorem dX1_readB_49 : decode cX1_readB 49 = .ok (.invokevirtual 74, 3) := by decide +kernel
theorem dX1_readB_52 : decode cX1_readB 52 = .ok (.aload_n 0, 1) := by decide +kernel
theorem dX1_readB_53 : decode cX1_readB 53 = .ok (.getfield 14, 3) := by decide +kernel
theorem dX1_readB_56 : decode cX1_readB 56 = .ok (.iload_n 2, 1) := by decide +kernel
theorem dX1_readB_57 : decode cX1_readB 57 = .ok (.ineg, 1) := by decide +kernel
theorem dX1_readB_58 : decode cX1_readB 58 = .ok (.invokevirtual 68, 3) := by decide +kernel
theorem dX1_readB_61 : decode cX1_readB 61 = .ok (.return_, 1) := by decide +kernel
theorem dX1_readS_0 : decode cX1_readS 0 = .ok (.aload_n 0, 1) := by decide +kernel
theorem dX1_readS_1 : decode cX1_readS 1 = .ok (.iload_n 1, 1) := by decide +kernel
theorem dX1_readS_2 : decode cX1_readS 2 = .ok (.invokevirtual 77, 3) := by decide +kernel
theorem dX1_readS_5 : decode cX1_readS 5 = .ok (.iconst 0, 1) := by decide +kernel
theorem dX1_readS_6 : decode cX1_readS 6 = .ok (.istore_n 2, 1) := by decide +kernel
theorem dX1_readS_7 : decode cX1_readS 7 = .ok (.iload_n 2, 1) := by decide +kernel
theorem dX1_readS_8 : decode cX1_readS 8 = .ok (.bipush 60, 2) := by decide +kernel
theorem dX1_readS_10 : decode cX1_readS 10 = .ok (.if_icmp .ge 56, 3) := by decide +kernel
theorem dX1_readS_13 : decode cX1_readS 13 = .ok (.aload_n 0, 1) := by decide +kernel
theorem dX1_readS_14 : decode cX1_readS 14 = .ok (.bipush 43, 2) := by decide +kernel
theorem dX1_readS_16 : decode cX1_readS 16 = .ok (.invokevirtual 64, 3) := by decide +kernel
theorem dX1_readS_19 : decode cX1_readS 19 = .ok (.ifCond .ne 12, 3) := by decide +kernel
theorem dX1_readS_22 : decode cX1_readS 22 = .ok (.aload_n 0, 1) := by decide +kernel
theorem dX1_readS_23 : decode cX1_readS 23 = .ok (.bipush 45, 2) := by decide +kernel
theorem dX1_readS_25 : decode cX1_readS 25 = .ok (.invokevirtual 64, 3) := by decide +kernel
theorem dX1_readS_28 : decode cX1_readS 28 = .ok (.ifCond .eq 38, 3) := by decide +kernel
theorem dX1_readS_31 : decode cX1_readS 31 = .ok (.aload_n 0, 1) := by decide +kernel
theorem dX1_readS_32 : decode cX1_readS 32 = .ok (.invokevirtual 46, 3) := by decide +kernel
theorem dX1_readS_35 : decode cX1_readS 35 = .ok (.istore_n 3, 1) := by decide +kernel
theorem dX1_readS_36 : decode cX1_readS 36 = .ok (.aload_n 0, 1) := by decide +kernel
theorem dX1_readS_37 : decode cX1_readS 37 = .ok (.dup, 1) := by decide +kernel
theorem dX1_readS_38 : decode cX1_readS 38 = .ok (.getfield 29, 3) := by decide +kernel
theorem dX1_readS_41 : decode cX1_readS 41 = .ok (.iconst 1, 1) := by decide +kernel
theorem dX1_readS_42 : decode cX1_readS 42 = .ok (.iadd, 1) := by decide +kernel
theorem dX1_readS_43 : decode cX1_readS 43 = .ok (.putfield 29, 3) := by decide +kernel
theorem dX1_readS_46 : decode cX1_readS 46 = .ok (.aload_n 0, 1) := by decide +kernel
theorem dX1_readS_47 : decode cX1_readS 47 = .ok (.iload_n 1, 1) := by decide +kernel
theorem dX1_readS_48 : decode cX1_readS 48 = .ok (.invokevirtual 77, 3) := by decide +kernel
theorem dX1_readS_51 : decode cX1_readS 51 = .ok (.aload_n 0, 1) := by decide +kernel
theorem dX1_readS_52 : decode cX1_readS 52 = .ok (.getfield 14, 3) := by decide +kernel
theorem dX1_readS_55 : decode cX1_readS 55 = .ok (.iload_n 3, 1) := by decide +kernel
theorem dX1_readS_56 : decode cX1_readS 56 = .ok (.ineg, 1) := by decide +kernel
theorem dX1_readS_57 : decode cX1_readS 57 = .ok (.invokevirtual 68, 3) := by decide +kernel
theorem dX1_readS_60 : decode cX1_readS 60 = .ok (.iinc 2 1, 3) := by decide +kernel
theorem dX1_readS_63 : decode cX1_readS 63 = .ok (.goto (-56), 3) := by decide +kernel
theorem dX1_readS_66 : decode cX1_readS 66 = .ok (.return_, 1) := by decide +kernel
theorem dX1_readP_0 : decode cX1_readP 0 = .ok (.aload_n 0, 1) := by decide +kernel
theorem dX1_readP_1 : decode cX1_readP 1 = .ok (.iload_n 1, 1) := by decide +kernel
theorem dX1_readP_2 : decode cX1_readP 2 = .ok (.invokevirtual 80, 3) := by decide +kernel
theorem dX1_readP_5 : decode cX1_readP 5 = .ok (.iconst 0, 1) := by decide +kernel
theorem dX1_readP_6 : decode cX1_readP 6 = .ok (.istore_n 2, 1) := by decide +kernel
theorem dX1_readP_7 : decode cX1_readP 7 = .ok (.iload_n 2, 1) := by decide +kernel
theorem dX1_readP_8 : decode cX1_readP 8 = .ok (.bipush 60, 2) := by decide +kernel
theorem dX1_readP_10 : decode cX1_readP 10 = .ok (.if_icmp .ge 65, 3) := by decide +kernel
theorem dX1_readP_13 : decode cX1_readP 13 = .ok (.aload_n 0, 1) := by decide +kernel
theorem dX1_readP_14 : decode cX1_readP 14 = .ok (.bipush 42, 2) := by decide +kernel
theorem dX1_readP_16 : decode cX1_readP 16 = .ok (.invokevirtual 64, 3) := by decide +kernel
theorem dX1_readP_19 : decode cX1_readP 19 = .ok (.ifCond .ne 21, 3) := by decide +kernel
theorem dX1_readP_22 : decode cX1_readP 22 = .ok (.aload_n 0, 1) := by decide +kernel
theorem dX1_readP_23 : decode cX1_readP 23 = .ok (.bipush 47, 2) := by decide +kernel
theorem dX1_readP_25 : decode cX1_readP 25 = .ok (.invokevirtual 64, 3) := by decide +kernel
theorem dX1_readP_28 : decode cX1_readP 28 = .ok (.ifCond .ne 12, 3) := by decide +kernel
theorem dX1_readP_31 : decode cX1_readP 31 = .ok (.aload_n 0, 1) := by decide +kernel
theorem dX1_readP_32 : decode cX1_readP 32 = .ok (.bipush 37, 2) := by decide +kernel
theorem dX1_readP_34 : decode cX1_readP 34 = .ok (.invokevirtual 64, 3) := by decide +kernel
theorem dX1_readP_37 : decode cX1_readP 37 = .ok (.ifCond .eq 38, 3) := by decide +kernel
theorem dX1_readP_40 : decode cX1_readP 40 = .ok (.aload_n 0, 1) := by decide +kernel
theorem dX1_readP_41 : decode cX1_readP 41 = .ok (.invokevirtual 46, 3) := by decide +kernel
theorem dX1_readP_44 : decode cX1_readP 44 = .ok (.istore_n 3, 1) := by decide +kernel
theorem dX1_readP_45 : decode cX1_readP 45 = .ok (.aload_n 0, 1) := by decide +kernel
theorem dX1_readP_46 : decode cX1_readP 46 = .ok (.dup, 1) := by decide +kernel
theorem dX1_readP_47 : decode cX1_readP 47 = .ok (.getfield 29, 3) := by decide +kernel
theorem dX1_readP_50 : decode cX1_readP 50 = .ok (.iconst 1, 1) := by decide +kernel
theorem dX1_readP_51 : decode cX1_readP 51 = .ok (.iadd, 1) := by decide +kernel
theorem dX1_readP_52 : decode cX1_readP 52 = .ok (.putfield 29, 3) := by decide +kernel
theorem dX1_readP_55 : decode cX1_readP 55 = .ok (.aload_n 0, 1) := by decide +kernel
theorem dX1_readP_56 : decode cX1_readP 56 = .ok (.iload_n 1, 1) := by decide +kernel
theorem dX1_readP_57 : decode cX1_readP 57 = .ok (.invokevirtual 80, 3) := by decide +kernel
theorem dX1_readP_60 : decode cX1_readP 60 = .ok (.aload_n 0, 1) := by decide +kernel
theorem dX1_readP_61 : decode cX1_readP 61 = .ok (.getfield 14, 3) := by decide +kernel
theorem dX1_readP_64 : decode cX1_readP 64 = .ok (.iload_n 3, 1) := by decide +kernel
theorem dX1_readP_65 : decode cX1_readP 65 = .ok (.ineg, 1) := by decide +kernel
theorem dX1_readP_66 : decode cX1_readP 66 = .ok (.invokevirtual 68, 3) := by decide +kernel
theorem dX1_readP_69 : decode cX1_readP 69 = .ok (.iinc 2 1, 3) := by decide +kernel
theorem dX1_readP_72 : decode cX1_readP 72 = .ok (.goto (-65), 3) := by decide +kernel
theorem dX1_readP_75 : decode cX1_readP 75 = .ok (.return_, 1) := by decide +kernel
theorem dX1_readQ_0 : decode cX1_readQ 0 = .ok (.aload_n 0, 1) := by decide +kernel
theorem dX1_readQ_1 : decode cX1_readQ 1 = .ok (.invokevirtual 83, 3) := by decide +kernel
theorem dX1_readQ_4 : decode cX1_readQ 4 = .ok (.ifCond .eq 10, 3) := by decide +kernel
theorem dX1_readQ_7 : decode cX1_readQ 7 = .ok (.aload_n 0, 1) := by decide +kernel
theorem dX1_readQ_8 : decode cX1_readQ 8 = .ok (.invokevirtual 87, 3) := by decide +kernel
theorem dX1_readQ_11 : decode cX1_readQ 11 = .ok (.goto 123, 3) := by decide +kernel
theorem dX1_readQ_14 : decode cX1_readQ 14 = .ok (.aload_n 0, 1) := by decide +kernel
theorem dX1_readQ_15 : decode cX1_readQ 15 = .ok (.invokevirtual 90, 3) := by decide +kernel
theorem dX1_readQ_18 : decode cX1_readQ 18 = .ok (.ifCond .lt 31, 3) := by decide +kernel
theorem dX1_readQ_21 : decode cX1_readQ 21 = .ok (.aload_n 0, 1) := by decide +kernel
theorem dX1_readQ_22 : decode cX1_readQ 22 = .ok (.getfield 14, 3) := by decide +kernel
theorem dX1_readQ_25 : decode cX1_readQ 25 = .ok (.sipush 10000, 3) := by decide +kernel
theorem dX1_readQ_28 : decode cX1_readQ 28 = .ok (.aload_n 0, 1) := by decide +kernel
theorem dX1_readQ_29 : decode cX1_readQ 29 = .ok (.invokevirtual 90, 3) := by decide +kernel
theorem dX1_readQ_32 : decode cX1_readQ 32 = .ok (.iadd, 1) := by decide +kernel
theorem dX1_readQ_33 : decode cX1_readQ 33 = .ok (.invokevirtual 68, 3) := by decide +kernel
theorem dX1_readQ_36 : decode cX1_readQ 36 = .ok (.aload_n 0, 1) := by decide +kernel
theorem dX1_readQ_37 : decode cX1_readQ 37 = .ok (.dup, 1) := by decide +kernel
theorem dX1_readQ_38 : decode cX1_readQ 38 = .ok (.getfield 29, 3) := by decide +kernel
theorem dX1_readQ_41 : decode cX1_readQ 41 = .ok (.iconst 1, 1) := by decide +kernel
theorem dX1_readQ_42 : decode cX1_readQ 42 = .ok (.iadd, 1) := by decide +kernel
theorem dX1_readQ_43 : decode cX1_readQ 43 = .ok (.putfield 29, 3) := by decide +kernel
theorem dX1_readQ_46 : decode cX1_readQ 46 = .ok (.goto 88, 3) := by decide +kernel
theorem dX1_readQ_49 : decode cX1_readQ 49 = .ok (.aload_n 0, 1) := by decide +kernel
theorem dX1_readQ_50 : decode cX1_readQ 50 = .ok (.bipush 33, 2) := by decide +kernel
theorem dX1_readQ_52 : decode cX1_readQ 52 = .ok (.invokevirtual 64, 3) := by decide +kernel
theorem dX1_readQ_55 : decode cX1_readQ 55 = .ok (.ifCond .eq 37, 3) := by decide +kernel
theorem dX1_readQ_58 : decode cX1_readQ 58 = .ok (.iload_n 1, 1) := by decide +kernel
theorem dX1_readQ_59 : decode cX1_readQ 59 = .ok (.iconst 5, 1) := by decide +kernel
theorem dX1_readQ_60 : decode cX1_readQ 60 = .ok (.if_icmp .ge 32, 3) := by decide +kernel
theorem dX1_readQ_63 : decode cX1_readQ 63 = .ok (.aload_n 0, 1) := by decide +kernel
theorem dX1_readQ_64 : decode cX1_readQ 64 = .ok (.dup, 1) := by decide +kernel
theorem dX1_readQ_65 : decode cX1_readQ 65 = .ok (.getfield 29, 3) := by decide +kernel
theorem dX1_readQ_68 : decode cX1_readQ 68 = .ok (.iconst 1, 1) := by decide +kernel
theorem dX1_readQ_69 : decode cX1_readQ 69 = .ok (.iadd, 1) := by decide +kernel
theorem dX1_readQ_70 : decode cX1_readQ 70 = .ok (.putfield 29, 3) := by decide +kernel
theorem dX1_readQ_73 : decode cX1_readQ 73 = .ok (.aload_n 0, 1) := by decide +kernel
theorem dX1_readQ_74 : decode cX1_readQ 74 = .ok (.iload_n 1, 1) := by decide +kernel
theorem dX1_readQ_75 : decode cX1_readQ 75 = .ok (.iconst 1, 1) := by decide +kernel
theorem dX1_readQ_76 : decode cX1_readQ 76 = .ok (.iadd, 1) := by decide +kernel
theorem dX1_readQ_77 : decode cX1_readQ 77 = .ok (.invokevirtual 80, 3) := by decide +kernel
theorem dX1_readQ_80 : decode cX1_readQ 80 = .ok (.aload_n 0, 1) := by decide +kernel
theorem dX1_readQ_81 : decode cX1_readQ 81 = .ok (.getfield 14, 3) := by decide +kernel
theorem dX1_readQ_84 : decode cX1_readQ 84 = .ok (.bipush (-33), 2) := by decide +kernel
theorem dX1_readQ_86 : decode cX1_readQ 86 = .ok (.invokevirtual 68, 3) := by decide +kernel
theorem dX1_readQ_89 : decode cX1_readQ 89 = .ok (.goto 45, 3) := by decide +kernel
theorem dX1_readQ_92 : decode cX1_readQ 92 = .ok (.aload_n 0, 1) := by decide +kernel
theorem dX1_readQ_93 : decode cX1_readQ 93 = .ok (.bipush 40, 2) := by decide +kernel
theorem dX1_readQ_95 : decode cX1_readQ 95 = .ok (.invokevirtual 64, 3) := by decide +kernel
theorem dX1_readQ_98 : decode cX1_readQ 98 = .ok (.ifCond .eq 32, 3) := by decide +kernel
theorem dX1_readQ_101 : decode cX1_readQ 101 = .ok (.iload_n 1, 1) := by decide +kernel
theorem dX1_readQ_102 : decode cX1_readQ 102 = .ok (.iconst 5, 1) := by decide +kernel
theorem dX1_readQ_103 : decode cX1_readQ 103 = .ok (.if_icmp .ge 27, 3) := by decide +kernel
theorem dX1_readQ_106 : decode cX1_readQ 106 = .ok (.aload_n 0, 1) := by decide +kernel
theorem dX1_readQ_107 : decode cX1_readQ 107 = .ok (.dup, 1) := by decide +kernel
theorem dX1_readQ_108 : decode cX1_readQ 108 = .ok (.getfield 29, 3) := by decide +kernel
theorem dX1_readQ_111 : decode cX1_readQ 111 = .ok (.iconst 1, 1) := by decide +kernel
theorem dX1_readQ_112 : decode cX1_readQ 112 = .ok (.iadd, 1) := by decide +kernel
theorem dX1_readQ_113 : decode cX1_readQ 113 = .ok (.putfield 29, 3) := by decide +kernel
theorem dX1_readQ_116 : decode cX1_readQ 116 = .ok (.aload_n 0, 1) := by decide +kernel
theorem dX1_readQ_117 : decode cX1_readQ 117 = .ok (.iload_n 1, 1) := by decide +kernel
theorem dX1_readQ_118 : decode cX1_readQ 118 = .ok (.iconst 1, 1) := by decide +kernel
theorem dX1_readQ_119 : decode cX1_readQ 119 = .ok (.iadd, 1) := by decide +kernel
theorem dX1_readQ_120 : decode cX1_readQ 120 = .ok (.invokevirtual 43, 3) := by decide +kernel
theorem dX1_readQ_123 : decode cX1_readQ 123 = .ok (.aload_n 0, 1) := by decide +kernel
theorem dX1_readQ_124 : decode cX1_readQ 124 = .ok (.invokevirtual 95, 3) := by decide +kernel
theorem dX1_readQ_127 : decode cX1_readQ 127 = .ok (.goto 7, 3) := by decide +kernel
theorem dX1_readQ_130 : decode cX1_readQ 130 = .ok (.aload_n 0, 1) := by decide +kernel
theorem dX1_readQ_131 : decode cX1_readQ 131 = .ok (.invokevirtual 50, 3) := by decide +kernel
theorem dX1_readQ_134 : decode cX1_readQ 134 = .ok (.return_, 1) := by decide +kernel
theorem dX1_readClosing_0 : decode cX1_readClosing 0 = .ok (.aload_n 0, 1) := by decide +kernel
theorem dX1_readClosing_1 : decode cX1_readClosing 1 = .ok (.bipush 41, 2) := by decide +kernel
theorem dX1_readClosing_3 : decode cX1_readClosing 3 = .ok (.invokevirtual 64, 3) := by decide +kernel
theorem dX1_readClosing_6 : decode cX1_readClosing 6 = .ok (.ifCond .eq 16, 3) := by decide +kernel
theorem dX1_readClosing_9 : decode cX1_readClosing 9 = .ok (.aload_n 0, 1) := by decide +kernel
theorem dX1_readClosing_10 : decode cX1_readClosing 10 = .ok (.dup, 1) := by decide +kernel
theorem dX1_readClosing_11 : decode cX1_readClosing 11 = .ok (.getfield 29, 3) := by decide +kernel
theorem dX1_readClosing_14 : decode cX1_readClosing 14 = .ok (.iconst 1, 1) := by decide +kernel
theorem dX1_readClosing_15 : decode cX1_readClosing 15 = .ok (.iadd, 1) := by decide +kernel
theorem dX1_readClosing_16 : decode cX1_readClosing 16 = .ok (.putfield 29, 3) := by decide +kernel
theorem dX1_readClosing_19 : decode cX1_readClosing 19 = .ok (.goto 7, 3) := by decide +kernel
theorem dX1_readClosing_22 : decode cX1_readClosing 22 = .ok (.aload_n 0, 1) := by decide +kernel
theorem dX1_readClosing_23 : decode cX1_readClosing 23 = .ok (.invokevirtual 50, 3) := by decide +kernel
theorem dX1_readClosing_26 : decode cX1_readClosing 26 = .ok (.return_, 1) := by decide +kernel
theorem dX1_readNumber_0 : decode cX1_readNumber 0 = .ok (.iconst 0, 1) := by decide +kernel
theorem dX1_readNumber_1 : decode cX1_readNumber 1 = .ok (.istore_n 1, 1) := by decide +kernel
theorem dX1_readNumber_2 : decode cX1_readNumber 2 = .ok (.iconst 0, 1) := by decide +kernel
theorem dX1_readNumber_3 : decode cX1_readNumber 3 = .ok (.istore_n 2, 1) := by decide +kernel
theorem dX1_readNumber_4 : decode cX1_readNumber 4 = .ok (.iload_n 2, 1) := by decide +kernel
theorem dX1_readNumber_5 : decode cX1_readNumber 5 = .ok (.iconst 4, 1) := by decide +kernel
theorem dX1_readNumber_6 : decode cX1_readNumber 6 = .ok (.if_icmp .ge 39, 3) := by decide +kernel
theorem dX1_readNumber_9 : decode cX1_readNumber 9 = .ok (.aload_n 0, 1) := by decide +kernel
theorem dX1_readNumber_10 : decode cX1_readNumber 10 = .ok (.invokevirtual 83, 3) := by decide +kernel
theorem dX1_readNumber_13 : decode cX1_readNumber 13 = .ok (.ifCond .eq 32, 3) := by decide +kernel
theorem dX1_readNumber_16 : decode cX1_readNumber 16 = .ok (.iload_n 1, 1) := by decide +kernel
theorem dX1_readNumber_17 : decode cX1_readNumber 17 = .ok (.bipush 10, 2) := by decide +kernel
theorem dX1_readNumber_19 : decode cX1_readNumber 19 = .ok (.imul, 1) := by decide +kernel
theorem dX1_readNumber_20 : decode cX1_readNumber 20 = .ok (.aload_n 0, 1) := by decide +kernel
theorem dX1_readNumber_21 : decode cX1_readNumber 21 = .ok (.invokevirtual 46, 3) := by decide +kernel
theorem dX1_readNumber_24 : decode cX1_readNumber 24 = .ok (.iadd, 1) := by decide +kernel
theorem dX1_readNumber_25 : decode cX1_readNumber 25 = .ok (.bipush 48, 2) := by decide +kernel
theorem dX1_readNumber_27 : decode cX1_readNumber 27 = .ok (.isub, 1) := by decide +kernel
theorem dX1_readNumber_28 : decode cX1_readNumber 28 = .ok (.istore_n 1, 1) := by decide +kernel
theorem dX1_readNumber_29 : decode cX1_readNumber 29 = .ok (.aload_n 0, 1) := by decide +kernel
theorem dX1_readNumber_30 : decode cX1_readNumber 30 = .ok (.dup, 1) := by decide +kernel
theorem dX1_readNumber_31 : decode cX1_readNumber 31 = .ok (.getfield 29, 3) := by decide +kernel
theorem dX1_readNumber_34 : decode cX1_readNumber 34 = .ok (.iconst 1, 1) := by decide +kernel
theorem dX1_readNumber_35 : decode cX1_readNumber 35 = .ok (.iadd, 1) := by decide +kernel
theorem dX1_readNumber_36 : decode cX1_readNumber 36 = .ok (.putfield 29, 3) := by decide +kernel
theorem dX1_readNumber_39 : decode cX1_readNumber 39 = .ok (.iinc 2 1, 3) := by decide +kernel
theorem dX1_readNumber_42 : decode cX1_readNumber 42 = .ok (.goto (-38), 3) := by decide +kernel
theorem dX1_readNumber_45 : decode cX1_readNumber 45 = .ok (.aload_n 0, 1) := by decide +kernel
theorem dX1_readNumber_46 : decode cX1_readNumber 46 = .ok (.getfield 14, 3) := by decide +kernel
theorem dX1_readNumber_49 : decode cX1_readNumber 49 = .ok (.iload_n 1, 1) := by decide +kernel
theorem dX1_readNumber_50 : decode cX1_readNumber 50 = .ok (.invokevirtual 68, 3) := by decide +kernel
theorem dX1_readNumber_53 : decode cX1_readNumber 53 = .ok (.return_, 1) := by decide +kernel
theorem dX1_isDigit_0 : decode cX1_isDigit 0 = .ok (.aload_n 0, 1) := by decide +kernel
theorem dX1_isDigit_1 : decode cX1_isDigit 1 = .ok (.invokevirtual 46, 3) := by decide +kernel
theorem dX1_isDigit_4 : decode cX1_isDigit 4 = .ok (.bipush 48, 2) := by decide +kernel
theorem dX1_isDigit_6 : decode cX1_isDigit 6 = .ok (.if_icmp .lt 16, 3) := by decide +kernel
theorem dX1_isDigit_9 : decode cX1_isDigit 9 = .ok (.aload_n 0, 1) := by decide +kernel
theorem dX1_isDigit_10 : decode cX1_isDigit 10 = .ok (.invokevirtual 46, 3) := by decide +kernel
theorem dX1_isDigit_13 : decode cX1_isDigit 13 = .ok (.bipush 57, 2) := by decide +kernel
theorem dX1_isDigit_15 : decode cX1_isDigit 15 = .ok (.if_icmp .gt 7, 3) := by decide +kernel
theorem dX1_isDigit_18 : decode cX1_isDigit 18 = .ok (.iconst 1, 1) := by decide +kernel
theorem dX1_isDigit_19 : decode cX1_isDigit 19 = .ok (.goto 4, 3) := by decide +kernel
theorem dX1_isDigit_22 : decode cX1_isDigit 22 = .ok (.iconst 0, 1) := by decide +kernel
theorem dX1_isDigit_23 : decode cX1_isDigit 23 = .ok (.ireturn, 1) := by decide +kernel
theorem dX1_nameNext_0 : decode cX1_nameNext 0 = .ok (.aload_n 0, 1) := by decide +kernel
theorem dX1_nameNext_1 : decode cX1_nameNext 1 = .ok (.invokevirtual 46, 3) := by decide +kernel
theorem dX1_nameNext_4 : decode cX1_nameNext 4 = .ok (.iconst (-1), 1) := by decide +kernel
theorem dX1_nameNext_5 : decode cX1_nameNext 5 = .ok (.if_icmp .ne 7, 3) := by decide +kernel
theorem dX1_nameNext_8 : decode cX1_nameNext 8 = .ok (.iconst (-1), 1) := by decide +kernel
theorem dX1_nameNext_9 : decode cX1_nameNext 9 = .ok (.goto 15, 3) := by decide +kernel
theorem dX1_nameNext_12 : decode cX1_nameNext 12 = .ok (.aload_n 0, 1) := by decide +kernel
theorem dX1_nameNext_13 : decode cX1_nameNext 13 = .ok (.getfield 25, 3) := by decide +kernel
theorem dX1_nameNext_16 : decode cX1_nameNext 16 = .ok (.aload_n 0, 1) := by decide +kernel
theorem dX1_nameNext_17 : decode cX1_nameNext 17 = .ok (.invokevirtual 46, 3) := by decide +kernel
theorem dX1_nameNext_20 : decode cX1_nameNext 20 = .ok (.i2c, 1) := by decide +kernel
theorem dX1_nameNext_21 : decode cX1_nameNext 21 = .ok (.invokevirtual 98, 3) := by decide +kernel
theorem dX1_nameNext_24 : decode cX1_nameNext 24 = .ok (.ireturn, 1) := by decide +kernel
theorem dX3_init_0 : decode cX3_init 0 = .ok (.aload_n 0, 1) := by decide +kernel
theorem dX3_init_1 : decode cX3_init 1 = .ok (.invokespecial 1, 3) := by decide +kernel
theorem dX3_init_4 : decode cX3_init 4 = .ok (.aload_n 0, 1) := by decide +kernel
theorem dX3_init_5 : decode cX3_init 5 = .ok (.iconst 0, 1) := by decide +kernel
theorem dX3_init_6 : decode cX3_init 6 = .ok (.putfield 7, 3) := by decide +kernel
theorem dX3_init_9 : decode cX3_init 9 = .ok (.aload_n 0, 1) := by decide +kernel
theorem dX3_init_10 : decode cX3_init 10 = .ok (.iconst 0, 1) := by decide +kernel
theorem dX3_init_11 : decode cX3_init 11 = .ok (.iload_n 1, 1) := by decide +kernel
theorem dX3_init_12 : decode cX3_init 12 = .ok (.invokestatic 13, 3) := by decide +kernel
theorem dX3_init_15 : decode cX3_init 15 = .ok (.newarray .int, 2) := by decide +kernel
theorem dX3_init_17 : decode cX3_init 17 = .ok (.putfield 19, 3) := by decide +kernel
theorem dX3_init_20 : decode cX3_init 20 = .ok (.return_, 1) := by decide +kernel
theorem dX3_has_0 : decode cX3_has 0 = .ok (.iload_n 1, 1) := by decide +kernel
theorem dX3_has_1 : decode cX3_has 1 = .ok (.ifCond .lt 15, 3) := by decide +kernel
theorem dX3_has_4 : decode cX3_has 4 = .ok (.iload_n 1, 1) := by decide +kernel
theorem dX3_has_5 : decode cX3_has 5 = .ok (.aload_n 0, 1) := by decide +kernel
theorem dX3_has_6 : decode cX3_has 6 = .ok (.getfield 7, 3) := by decide +kernel
theorem dX3_has_9 : decode cX3_has 9 = .ok (.if_icmp .ge 7, 3) := by decide +kernel
theorem dX3_has_12 : decode cX3_has 12 = .ok (.iconst 1, 1) := by decide +kernel
theorem dX3_has_13 : decode cX3_has 13 = .ok (.goto 4, 3) := by decide +kernel
theorem dX3_has_16 : decode cX3_has 16 = .ok (.iconst 0, 1) := by decide +kernel
theorem dX3_has_17 : decode cX3_has 17 = .ok (.ireturn, 1) := by decide +kernel
theorem dX3_hasRun_0 : decode cX3_hasRun 0 = .ok (.iload_n 2, 1) := by decide +kernel
theorem dX3_hasRun_1 : decode cX3_hasRun 1 = .ok (.ifCond .lt 29, 3) := by decide +kernel
theorem dX3_hasRun_4 : decode cX3_hasRun 4 = .ok (.iload_n 2, 1) := by decide +kernel
theorem dX3_hasRun_5 : decode cX3_hasRun 5 = .ok (.aload_n 0, 1) := by decide +kernel
theorem dX3_hasRun_6 : decode cX3_hasRun 6 = .ok (.getfield 7, 3) := by decide +kernel
theorem dX3_hasRun_9 : decode cX3_hasRun 9 = .ok (.if_icmp .gt 21, 3) := by decide +kernel
theorem dX3_hasRun_12 : decode cX3_hasRun 12 = .ok (.iload_n 1, 1) := by decide +kernel
theorem dX3_hasRun_13 : decode cX3_hasRun 13 = .ok (.ifCond .lt 17, 3) := by decide +kernel
theorem dX3_hasRun_16 : decode cX3_hasRun 16 = .ok (.iload_n 1, 1) := by decide +kernel
theorem dX3_hasRun_17 : decode cX3_hasRun 17 = .ok (.aload_n 0, 1) := by decide +kernel
theorem dX3_hasRun_18 : decode cX3_hasRun 18 = .ok (.getfield 7, 3) := by decide +kernel
theorem dX3_hasRun_21 : decode cX3_hasRun 21 = .ok (.iload_n 2, 1) := by decide +kernel
theorem dX3_hasRun_22 : decode cX3_hasRun 22 = .ok (.isub, 1) := by decide +kernel
theorem dX3_hasRun_23 : decode cX3_hasRun 23 = .ok (.if_icmp .gt 7, 3) := by decide +kernel
theorem dX3_hasRun_26 : decode cX3_hasRun 26 = .ok (.iconst 1, 1) := by decide +kernel
theorem dX3_hasRun_27 : decode cX3_hasRun 27 = .ok (.goto 4, 3) := by decide +kernel
theorem dX3_hasRun_30 : decode cX3_hasRun 30 = .ok (.iconst 0, 1) := by decide +kernel
theorem dX3_hasRun_31 : decode cX3_hasRun 31 = .ok (.ireturn, 1) := by decide +kernel
theorem dX3_add_0 : decode cX3_add 0 = .ok (.aload_n 0, 1) := by decide +kernel
theorem dX3_add_1 : decode cX3_add 1 = .ok (.getfield 7, 3) := by decide +kernel
theorem dX3_add_4 : decode cX3_add 4 = .ok (.aload_n 0, 1) := by decide +kernel
theorem dX3_add_5 : decode cX3_add 5 = .ok (.getfield 19, 3) := by decide +kernel
theorem dX3_add_8 : decode cX3_add 8 = .ok (.arraylength, 1) := by decide +kernel
theorem dX3_add_9 : decode cX3_add 9 = .ok (.if_icmp .ge 23, 3) := by decide +kernel
theorem dX3_add_12 : decode cX3_add 12 = .ok (.aload_n 0, 1) := by decide +kernel
theorem dX3_add_13 : decode cX3_add 13 = .ok (.getfield 19, 3) := by decide +kernel
theorem dX3_add_16 : decode cX3_add 16 = .ok (.aload_n 0, 1) := by decide +kernel
theorem dX3_add_17 : decode cX3_add 17 = .ok (.getfield 7, 3) := by decide +kernel
theorem dX3_add_20 : decode cX3_add 20 = .ok (.iload_n 1, 1) := by decide +kernel
theorem dX3_add_21 : decode cX3_add 21 = .ok (.iastore, 1) := by decide +kernel
theorem dX3_add_22 : decode cX3_add 22 = .ok (.aload_n 0, 1) := by decide +kernel
theorem dX3_add_23 : decode cX3_add 23 = .ok (.dup, 1) := by decide +kernel
theorem dX3_add_24 : decode cX3_add 24 = .ok (.getfield 7, 3) := by decide +kernel
theorem dX3_add_27 : decode cX3_add 27 = .ok (.iconst 1, 1) := by decide +kernel
theorem dX3_add_28 : decode cX3_add 28 = .ok (.iadd, 1) := by decide +kernel
theorem dX3_add_29 : decode cX3_add 29 = .ok (.putfield 7, 3) := by decide +kernel
theorem dX3_add_32 : decode cX3_add 32 = .ok (.return_, 1) := by decide +kernel
theorem dX3_empty_0 : decode cX3_empty 0 = .ok (.aload_n 0, 1) := by decide +kernel
theorem dX3_empty_1 : decode cX3_empty 1 = .ok (.iconst 0, 1) := by decide +kernel
theorem dX3_empty_2 : decode cX3_empty 2 = .ok (.putfield 7, 3) := by decide +kernel
theorem dX3_empty_5 : decode cX3_empty 5 = .ok (.return_, 1) := by decide +kernel
theorem dX3_takeOver_0 : decode cX3_takeOver 0 = .ok (.aload_n 0, 1) := by decide +kernel
theorem dX3_takeOver_1 : decode cX3_takeOver 1 = .ok (.invokevirtual 23, 3) := by decide +kernel
theorem dX3_takeOver_4 : decode cX3_takeOver 4 = .ok (.iconst 0, 1) := by decide +kernel
theorem dX3_takeOver_5 : decode cX3_takeOver 5 = .ok (.istore_n 2, 1) := by decide +kernel
theorem dX3_takeOver_6 : decode cX3_takeOver 6 = .ok (.iload_n 2, 1) := by decide +kernel
theorem dX3_takeOver_7 : decode cX3_takeOver 7 = .ok (.aload_n 1, 1) := by decide +kernel
theorem dX3_takeOver_8 : decode cX3_takeOver 8 = .ok (.getfield 7, 3) := by decide +kernel
theorem dX3_takeOver_11 : decode cX3_takeOver 11 = .ok (.if_icmp .ge 19, 3) := by decide +kernel
theorem dX3_takeOver_14 : decode cX3_takeOver 14 = .ok (.aload_n 0, 1) := by decide +kernel
theorem dX3_takeOver_15 : decode cX3_takeOver 15 = .ok (.aload_n 1, 1) := by decide +kernel
theorem dX3_takeOver_16 : decode cX3_takeOver 16 = .ok (.getfield 19, 3) := by decide +kernel
theorem dX3_takeOver_19 : decode cX3_takeOver 19 = .ok (.iload_n 2, 1) := by decide +kernel
theorem dX3_takeOver_20 : decode cX3_takeOver 20 = .ok (.iaload, 1) := by decide +kernel
theorem dX3_takeOver_21 : decode cX3_takeOver 21 = .ok (.invokevirtual 26, 3) := by decide +kernel
theorem dX3_takeOver_24 : decode cX3_takeOver 24 = .ok (.iinc 2 1, 3) := by decide +kernel
theorem dX3_takeOver_27 : decode cX3_takeOver 27 = .ok (.goto (-21), 3) := by decide +kernel
theorem dX3_takeOver_30 : decode cX3_takeOver 30 = .ok (.return_, 1) := by decide +kernel
theorem dX4_init_0 : decode cX4_init 0 = .ok (.aload_n 0, 1) := by decide +kernel
theorem dX4_init_1 : decode cX4_init 1 = .ok (.invokespecial 3, 3) := by decide +kernel
theorem dX4_init_4 : decode cX4_init 4 = .ok (.aload_n 0, 1) := by decide +kernel
theorem dX4_init_5 : decode cX4_init 5 = .ok (.new 9, 3) := by decide +kernel
theorem dX4_init_8 : decode cX4_init 8 = .ok (.dup, 1) := by decide +kernel
theorem dX4_init_9 : decode cX4_init 9 = .ok (.bipush 24, 2) := by decide +kernel
theorem dX4_init_11 : decode cX4_init 11 = .ok (.invokespecial 11, 3) := by decide +kernel
theorem dX4_init_14 : decode cX4_init 14 = .ok (.putfield 14, 3) := by decide +kernel
theorem dX4_init_17 : decode cX4_init 17 = .ok (.aload_n 0, 1) := by decide +kernel
theorem dX4_init_18 : decode cX4_init 18 = .ok (.iconst 0, 1) := by decide +kernel
theorem dX4_init_19 : decode cX4_init 19 = .ok (.putfield 20, 3) := by decide +kernel
theorem dX4_init_22 : decode cX4_init 22 = .ok (.return_, 1) := by decide +kernel
theorem dX4_isWidth_0 : decode cX4_isWidth 0 = .ok (.iload_n 0, 1) := by decide +kernel
theorem dX4_isWidth_1 : decode cX4_isWidth 1 = .ok (.ifCond .eq 21, 3) := by decide +kernel
theorem dX4_isWidth_4 : decode cX4_isWidth 4 = .ok (.iload_n 0, 1) := by decide +kernel
theorem dX4_isWidth_5 : decode cX4_isWidth 5 = .ok (.bipush 8, 2) := by decide +kernel
theorem dX4_isWidth_7 : decode cX4_isWidth 7 = .ok (.if_icmp .eq 15, 3) := by decide +kernel
theorem dX4_isWidth_10 : decode cX4_isWidth 10 = .ok (.iload_n 0, 1) := by decide +kernel
theorem dX4_isWidth_11 : decode cX4_isWidth 11 = .ok (.bipush 16, 2) := by decide +kernel
theorem dX4_isWidth_13 : decode cX4_isWidth 13 = .ok (.if_icmp .eq 9, 3) := by decide +kernel
theorem dX4_isWidth_16 : decode cX4_isWidth 16 = .ok (.iload_n 0, 1) := by decide +kernel
theorem dX4_isWidth_17 : decode cX4_isWidth 17 = .ok (.bipush 32, 2) := by decide +kernel
theorem dX4_isWidth_19 : decode cX4_isWidth 19 = .ok (.if_icmp .ne 7, 3) := by decide +kernel
theorem dX4_isWidth_22 : decode cX4_isWidth 22 = .ok (.iconst 1, 1) := by decide +kernel
theorem dX4_isWidth_23 : decode cX4_isWidth 23 = .ok (.goto 4, 3) := by decide +kernel
theorem dX4_isWidth_26 : decode cX4_isWidth 26 = .ok (.iconst 0, 1) := by decide +kernel
theorem dX4_isWidth_27 : decode cX4_isWidth 27 = .ok (.ireturn, 1) := by decide +kernel
theorem dX4_isMissing_0 : decode cX4_isMissing 0 = .ok (.aload_n 0, 1) := by decide +kernel
theorem dX4_isMissing_1 : decode cX4_isMissing 1 = .ok (.getfield 20, 3) := by decide +kernel
theorem dX4_isMissing_4 : decode cX4_isMissing 4 = .ok (.ifCond .ne 7, 3) := by decide +kernel
theorem dX4_isMissing_7 : decode cX4_isMissing 7 = .ok (.iconst 1, 1) := by decide +kernel
theorem dX4_isMissing_8 : decode cX4_isMissing 8 = .ok (.goto 4, 3) := by decide +kernel
theorem dX4_isMissing_11 : decode cX4_isMissing 11 = .ok (.iconst 0, 1) := by decide +kernel
theorem dX4_isMissing_12 : decode cX4_isMissing 12 = .ok (.ireturn, 1) := by decide +kernel
theorem dX4_layOut_0 : decode cX4_layOut 0 = .ok (.aload_n 0, 1) := by decide +kernel
theorem dX4_layOut_1 : decode cX4_layOut 1 = .ok (.iload_n 1, 1) := by decide +kernel
theorem dX4_layOut_2 : decode cX4_layOut 2 = .ok (.putfield 20, 3) := by decide +kernel
theorem dX4_layOut_5 : decode cX4_layOut 5 = .ok (.aload_n 0, 1) := by decide +kernel
theorem dX4_layOut_6 : decode cX4_layOut 6 = .ok (.getfield 14, 3) := by decide +kernel
theorem dX4_layOut_9 : decode cX4_layOut 9 = .ok (.invokevirtual 24, 3) := by decide +kernel
theorem dX4_layOut_12 : decode cX4_layOut 12 = .ok (.iconst 0, 1) := by decide +kernel
theorem dX4_layOut_13 : decode cX4_layOut 13 = .ok (.istore_n 3, 1) := by decide +kernel
theorem dX4_layOut_14 : decode cX4_layOut 14 = .ok (.iload_n 3, 1) := by decide +kernel
theorem dX4_layOut_15 : decode cX4_layOut 15 = .ok (.iload_n 2, 1) := by decide +kernel
theorem dX4_layOut_16 : decode cX4_layOut 16 = .ok (.if_icmp .ge 23, 3) := by decide +kernel
theorem dX4_layOut_19 : decode cX4_layOut 19 = .ok (.iload_n 3, 1) := by decide +kernel
theorem dX4_layOut_20 : decode cX4_layOut 20 = .ok (.bipush 24, 2) := by decide +kernel
theorem dX4_layOut_22 : decode cX4_layOut 22 = .ok (.if_icmp .ge 17, 3) := by decide +kernel
theorem dX4_layOut_25 : decode cX4_layOut 25 = .ok (.aload_n 0, 1) := by decide +kernel
theorem dX4_layOut_26 : decode cX4_layOut 26 = .ok (.getfield 14, 3) := by decide +kernel
theorem dX4_layOut_29 : decode cX4_layOut 29 = .ok (.iconst 0, 1) := by decide +kernel
theorem dX4_layOut_30 : decode cX4_layOut 30 = .ok (.invokevirtual 27, 3) := by decide +kernel
theorem dX4_layOut_33 : decode cX4_layOut 33 = .ok (.iinc 3 1, 3) := by decide +kernel
theorem dX4_layOut_36 : decode cX4_layOut 36 = .ok (.goto (-22), 3) := by decide +kernel
theorem dX4_layOut_39 : decode cX4_layOut 39 = .ok (.return_, 1) := by decide +kernel
theorem dX4_lowestBits_0 : decode cX4_lowestBits 0 = .ok (.aload_n 0, 1) := by decide +kernel
theorem dX4_lowestBits_1 : decode cX4_lowestBits 1 = .ok (.getfield 20, 3) := by decide +kernel
theorem dX4_lowestBits_4 : decode cX4_lowestBits 4 = .ok (.lookupswitch 34 #[(8, 28), (16, 31)], 28) := by decide +kernel
theorem dX4_lowestBits_32 : decode cX4_lowestBits 32 = .ok (.iload_n 1, 1) := by decide +kernel
theorem dX4_lowestBits_33 : decode cX4_lowestBits 33 = .ok (.i2b, 1) := by decide +kernel
theorem dX4_lowestBits_34 : decode cX4_lowestBits 34 = .ok (.ireturn, 1) := by decide +kernel
theorem dX4_lowestBits_35 : decode cX4_lowestBits 35 = .ok (.iload_n 1, 1) := by decide +kernel
theorem dX4_lowestBits_36 : decode cX4_lowestBits 36 = .ok (.i2s, 1) := by decide +kernel
theorem dX4_lowestBits_37 : decode cX4_lowestBits 37 = .ok (.ireturn, 1) := by decide +kernel
theorem dX4_lowestBits_38 : decode cX4_lowestBits 38 = .ok (.iload_n 1, 1) := by decide +kernel
theorem dX4_lowestBits_39 : decode cX4_lowestBits 39 = .ok (.ireturn, 1) := by decide +kernel
theorem dX5_init_0 : decode cX5_init 0 = .ok (.aload_n 0, 1) := by decide +kernel
theorem dX5_init_1 : decode cX5_init 1 = .ok (.invokespecial 3, 3) := by decide +kernel
theorem dX5_init_4 : decode cX5_init 4 = .ok (.aload_n 0, 1) := by decide +kernel
theorem dX5_init_5 : decode cX5_init 5 = .ok (.new 9, 3) := by decide +kernel
theorem dX5_init_8 : decode cX5_init 8 = .ok (.dup, 1) := by decide +kernel
theorem dX5_init_9 : decode cX5_init 9 = .ok (.iconst 0, 1) := by decide +kernel
theorem dX5_init_10 : decode cX5_init 10 = .ok (.invokespecial 11, 3) := by decide +kernel
theorem dX5_init_13 : decode cX5_init 13 = .ok (.putfield 14, 3) := by decide +kernel
theorem dX5_init_16 : decode cX5_init 16 = .ok (.aload_n 0, 1) := by decide +kernel
theorem dX5_init_17 : decode cX5_init 17 = .ok (.new 9, 3) := by decide +kernel
theorem dX5_init_20 : decode cX5_init 20 = .ok (.dup, 1) := by decide +kernel
theorem dX5_init_21 : decode cX5_init 21 = .ok (.iconst 1, 1) := by decide +kernel
theorem dX5_init_22 : decode cX5_init 22 = .ok (.invokespecial 11, 3) := by decide +kernel
theorem dX5_init_25 : decode cX5_init 25 = .ok (.putfield 20, 3) := by decide +kernel
theorem dX5_init_28 : decode cX5_init 28 = .ok (.aload_n 0, 1) := by decide +kernel
theorem dX5_init_29 : decode cX5_init 29 = .ok (.new 23, 3) := by decide +kernel
theorem dX5_init_32 : decode cX5_init 32 = .ok (.dup, 1) := by decide +kernel
theorem dX5_init_33 : decode cX5_init 33 = .ok (.aload_n 0, 1) := by decide +kernel
theorem dX5_init_34 : decode cX5_init 34 = .ok (.getfield 14, 3) := by decide +kernel
theorem dX5_init_37 : decode cX5_init 37 = .ok (.aload_n 0, 1) := by decide +kernel
theorem dX5_init_38 : decode cX5_init 38 = .ok (.getfield 20, 3) := by decide +kernel
theorem dX5_init_41 : decode cX5_init 41 = .ok (.invokespecial 25, 3) := by decide +kernel
theorem dX5_init_44 : decode cX5_init 44 = .ok (.putfield 28, 3) := by decide +kernel
theorem dX5_init_47 : decode cX5_init 47 = .ok (.aload_n 0, 1) := by decide +kernel
theorem dX5_init_48 : decode cX5_init 48 = .ok (.new 32, 3) := by decide +kernel
theorem dX5_init_51 : decode cX5_init 51 = .ok (.dup, 1) := by decide +kernel
theorem dX5_init_52 : decode cX5_init 52 = .ok (.bipush 60, 2) := by decide +kernel
theorem dX5_init_54 : decode cX5_init 54 = .ok (.invokespecial 34, 3) := by decide +kernel
theorem dX5_init_57 : decode cX5_init 57 = .ok (.putfield 35, 3) := by decide +kernel
theorem dX5_init_60 : decode cX5_init 60 = .ok (.aload_n 0, 1) := by decide +kernel
theorem dX5_init_61 : decode cX5_init 61 = .ok (.new 32, 3) := by decide +kernel
theorem dX5_init_64 : decode cX5_init 64 = .ok (.dup, 1) := by decide +kernel
theorem dX5_init_65 : decode cX5_init 65 = .ok (.bipush 24, 2) := by decide +kernel
theorem dX5_init_67 : decode cX5_init 67 = .ok (.invokespecial 34, 3) := by decide +kernel
theorem dX5_init_70 : decode cX5_init 70 = .ok (.putfield 39, 3) := by decide +kernel
theorem dX5_init_73 : decode cX5_init 73 = .ok (.return_, 1) := by decide +kernel
theorem dX5_lawOf_0 : decode cX5_lawOf 0 = .ok (.iload_n 1, 1) := by decide +kernel
theorem dX5_lawOf_1 : decode cX5_lawOf 1 = .ok (.ifCond .ne 10, 3) := by decide +kernel
theorem dX5_lawOf_4 : decode cX5_lawOf 4 = .ok (.aload_n 0, 1) := by decide +kernel
theorem dX5_lawOf_5 : decode cX5_lawOf 5 = .ok (.getfield 14, 3) := by decide +kernel
theorem dX5_lawOf_8 : decode cX5_lawOf 8 = .ok (.goto 7, 3) := by decide +kernel
theorem dX5_lawOf_11 : decode cX5_lawOf 11 = .ok (.aload_n 0, 1) := by decide +kernel
theorem dX5_lawOf_12 : decode cX5_lawOf 12 = .ok (.getfield 20, 3) := by decide +kernel
theorem dX5_lawOf_15 : decode cX5_lawOf 15 = .ok (.areturn, 1) := by decide +kernel
theorem dX5_takeOver_0 : decode cX5_takeOver 0 = .ok (.aload_n 0, 1) := by decide +kernel
theorem dX5_takeOver_1 : decode cX5_takeOver 1 = .ok (.getfield 14, 3) := by decide +kernel
theorem dX5_takeOver_4 : decode cX5_takeOver 4 = .ok (.aload_n 1, 1) := by decide +kernel
theorem dX5_takeOver_5 : decode cX5_takeOver 5 = .ok (.getfield 14, 3) := by decide +kernel
theorem dX5_takeOver_8 : decode cX5_takeOver 8 = .ok (.getfield 42, 3) := by decide +kernel
theorem dX5_takeOver_11 : decode cX5_takeOver 11 = .ok (.invokevirtual 45, 3) := by decide +kernel
theorem dX5_takeOver_14 : decode cX5_takeOver 14 = .ok (.aload_n 0, 1) := by decide +kernel
theorem dX5_takeOver_15 : decode cX5_takeOver 15 = .ok (.getfield 20, 3) := by decide +kernel
theorem dX5_takeOver_18 : decode cX5_takeOver 18 = .ok (.aload_n 1, 1) := by decide +kernel
theorem dX5_takeOver_19 : decode cX5_takeOver 19 = .ok (.getfield 20, 3) := by decide +kernel
theorem dX5_takeOver_22 : decode cX5_takeOver 22 = .ok (.getfield 42, 3) := by decide +kernel
theorem dX5_takeOver_25 : decode cX5_takeOver 25 = .ok (.invokevirtual 45, 3) := by decide +kernel
theorem dX5_takeOver_28 : decode cX5_takeOver 28 = .ok (.aload_n 0, 1) := by decide +kernel
theorem dX5_takeOver_29 : decode cX5_takeOver 29 = .ok (.getfield 28, 3) := by decide +kernel
theorem dX5_takeOver_32 : decode cX5_takeOver 32 = .ok (.aload_n 1, 1) := by decide +kernel
theorem dX5_takeOver_33 : decode cX5_takeOver 33 = .ok (.getfield 28, 3) := by decide +kernel
theorem dX5_takeOver_36 : decode cX5_takeOver 36 = .ok (.invokevirtual 49, 3) := by decide +kernel
theorem dX5_takeOver_39 : decode cX5_takeOver 39 = .ok (.aload_n 0, 1) := by decide +kernel
theorem dX5_takeOver_40 : decode cX5_takeOver 40 = .ok (.getfield 35, 3) := by decide +kernel
theorem dX5_takeOver_43 : decode cX5_takeOver 43 = .ok (.aload_n 1, 1) := by decide +kernel
theorem dX5_takeOver_44 : decode cX5_takeOver 44 = .ok (.getfield 35, 3) := by decide +kernel
theorem dX5_takeOver_47 : decode cX5_takeOver 47 = .ok (.invokevirtual 53, 3) := by decide +kernel
theorem dX5_takeOver_50 : decode cX5_takeOver 50 = .ok (.aload_n 0, 1) := by decide +kernel
theorem dX5_takeOver_51 : decode cX5_takeOver 51 = .ok (.getfield 39, 3) := by decide +kernel
theorem dX5_takeOver_54 : decode cX5_takeOver 54 = .ok (.aload_n 1, 1) := by decide +kernel
theorem dX5_takeOver_55 : decode cX5_takeOver 55 = .ok (.getfield 39, 3) := by decide +kernel
theorem dX5_takeOver_58 : decode cX5_takeOver 58 = .ok (.invokevirtual 53, 3) := by decide +kernel
theorem dX5_takeOver_61 : decode cX5_takeOver 61 = .ok (.return_, 1) := by decide +kernel
end
section
theorem dX2_init_0 : decode cX2_init 0 = .ok (.aload_n 0, 1) := by decide +kernel
theorem dX2_init_1 : decode cX2_init 1 = .ok (.invokespecial 3, 3) := by decide +kernel
theorem dX2_init_4 : decode cX2_init 4 = .ok (.aload_n 0, 1) := by decide +kernel
theorem dX2_init_5 : decode cX2_init 5 = .ok (.bipush 8, 2) := by decide +kernel
theorem dX2_init_7 : decode cX2_init 7 = .ok (.newarray .int, 2) := by decide +kernel
theorem dX2_init_9 : decode cX2_init 9 = .ok (.putfield 9, 3) := by decide +kernel
theorem dX2_init_12 : decode cX2_init 12 = .ok (.aload_n 0, 1) := by decide +kernel
theorem dX2_init_13 : decode cX2_init 13 = .ok (.bipush 8, 2) := by decide +kernel
theorem dX2_init_15 : decode cX2_init 15 = .ok (.newarray .int, 2) := by decide +kernel
theorem dX2_init_17 : decode cX2_init 17 = .ok (.putfield 15, 3) := by decide +kernel
theorem dX2_init_20 : decode cX2_init 20 = .ok (.aload_n 0, 1) := by decide +kernel
theorem dX2_init_21 : decode cX2_init 21 = .ok (.bipush 8, 2) := by decide +kernel
theorem dX2_init_23 : decode cX2_init 23 = .ok (.newarray .int, 2) := by decide +kernel
theorem dX2_init_25 : decode cX2_init 25 = .ok (.putfield 18, 3) := by decide +kernel
theorem dX2_init_28 : decode cX2_init 28 = .ok (.aload_n 0, 1) := by decide +kernel
theorem dX2_init_29 : decode cX2_init 29 = .ok (.bipush 8, 2) := by decide +kernel
theorem dX2_init_31 : decode cX2_init 31 = .ok (.newarray .int, 2) := by decide +kernel
theorem dX2_init_33 : decode cX2_init 33 = .ok (.putfield 21, 3) := by decide +kernel
theorem dX2_init_36 : decode cX2_init 36 = .ok (.aload_n 0, 1) := by decide +kernel
theorem dX2_init_37 : decode cX2_init 37 = .ok (.iconst 0, 1) := by decide +kernel
theorem dX2_init_38 : decode cX2_init 38 = .ok (.putfield 24, 3) := by decide +kernel
theorem dX2_init_41 : decode cX2_init 41 = .ok (.aload_n 0, 1) := by decide +kernel
theorem dX2_init_42 : decode cX2_init 42 = .ok (.iconst 0, 1) := by decide +kernel
theorem dX2_init_43 : decode cX2_init 43 = .ok (.putfield 28, 3) := by decide +kernel
theorem dX2_init_46 : decode cX2_init 46 = .ok (.aload_n 0, 1) := by decide +kernel
theorem dX2_init_47 : decode cX2_init 47 = .ok (.iconst 0, 1) := by decide +kernel
theorem dX2_init_48 : decode cX2_init 48 = .ok (.putfield 31, 3) := by decide +kernel
theorem dX2_init_51 : decode cX2_init 51 = .ok (.aload_n 0, 1) := by decide +kernel
theorem dX2_init_52 : decode cX2_init 52 = .ok (.iconst 0, 1) := by decide +kernel
theorem dX2_init_53 : decode cX2_init 53 = .ok (.putfield 34, 3) := by decide +kernel
theorem dX2_init_56 : decode cX2_init 56 = .ok (.aload_n 0, 1) := by decide +kernel
theorem dX2_init_57 : decode cX2_init 57 = .ok (.bipush 99, 2) := by decide +kernel
theorem dX2_init_59 : decode cX2_init 59 = .ok (.putfield 37, 3) := by decide +kernel
theorem dX2_init_62 : decode cX2_init 62 = .ok (.aload_n 0, 1) := by decide +kernel
theorem dX2_init_63 : decode cX2_init 63 = .ok (.bipush 7, 2) := by decide +kernel
theorem dX2_init_65 : decode cX2_init 65 = .ok (.putfield 40, 3) := by decide +kernel
theorem dX2_init_68 : decode cX2_init 68 = .ok (.aload_n 0, 1) := by decide +kernel
theorem dX2_init_69 : decode cX2_init 69 = .ok (.iconst 0, 1) := by decide +kernel
theorem dX2_init_70 : decode cX2_init 70 = .ok (.putfield 43, 3) := by decide +kernel
theorem dX2_init_73 : decode cX2_init 73 = .ok (.aload_n 0, 1) := by decide +kernel
theorem dX2_init_74 : decode cX2_init 74 = .ok (.iconst 1, 1) := by decide +kernel
theorem dX2_init_75 : decode cX2_init 75 = .ok (.putfield 46, 3) := by decide +kernel
theorem dX2_init_78 : decode cX2_init 78 = .ok (.aload_n 0, 1) := by decide +kernel
theorem dX2_init_79 : decode cX2_init 79 = .ok (.aload_n 1, 1) := by decide +kernel
theorem dX2_init_80 : decode cX2_init 80 = .ok (.putfield 49, 3) := by decide +kernel
theorem dX2_init_83 : decode cX2_init 83 = .ok (.aload_n 0, 1) := by decide +kernel
theorem dX2_init_84 : decode cX2_init 84 = .ok (.aload_n 2, 1) := by decide +kernel
theorem dX2_init_85 : decode cX2_init 85 = .ok (.putfield 53, 3) := by decide +kernel
theorem dX2_init_88 : decode cX2_init 88 = .ok (.return_, 1) := by decide +kernel
theorem dX2_takeOver_0 : decode cX2_takeOver 0 = .ok (.aload_n 1, 1) := by decide +kernel
theorem dX2_takeOver_1 : decode cX2_takeOver 1 = .ok (.getfield 9, 3) := by decide +kernel
theorem dX2_takeOver_4 : decode cX2_takeOver 4 = .ok (.iconst 0, 1) := by decide +kernel
theorem dX2_takeOver_5 : decode cX2_takeOver 5 = .ok (.aload_n 0, 1) := by decide +kernel
theorem dX2_takeOver_6 : decode cX2_takeOver 6 = .ok (.getfield 9, 3) := by decide +kernel
theorem dX2_takeOver_9 : decode cX2_takeOver 9 = .ok (.iconst 0, 1) := by decide +kernel
theorem dX2_takeOver_10 : decode cX2_takeOver 10 = .ok (.bipush 8, 2) := by decide +kernel
theorem dX2_takeOver_12 : decode cX2_takeOver 12 = .ok (.invokestatic 56, 3) := by decide +kernel
theorem dX2_takeOver_15 : decode cX2_takeOver 15 = .ok (.aload_n 1, 1) := by decide +kernel
theorem dX2_takeOver_16 : decode cX2_takeOver 16 = .ok (.getfield 15, 3) := by decide +kernel
theorem dX2_takeOver_19 : decode cX2_takeOver 19 = .ok (.iconst 0, 1) := by decide +kernel
theorem dX2_takeOver_20 : decode cX2_takeOver 20 = .ok (.aload_n 0, 1) := by decide +kernel
theorem dX2_takeOver_21 : decode cX2_takeOver 21 = .ok (.getfield 15, 3) := by decide +kernel
theorem dX2_takeOver_24 : decode cX2_takeOver 24 = .ok (.iconst 0, 1) := by decide +kernel
theorem dX2_takeOver_25 : decode cX2_takeOver 25 = .ok (.bipush 8, 2) := by decide +kernel
theorem dX2_takeOver_27 : decode cX2_takeOver 27 = .ok (.invokestatic 56, 3) := by decide +kernel
theorem dX2_takeOver_30 : decode cX2_takeOver 30 = .ok (.aload_n 1, 1) := by decide +kernel
theorem dX2_takeOver_31 : decode cX2_takeOver 31 = .ok (.getfield 18, 3) := by decide +kernel
theorem dX2_takeOver_34 : decode cX2_takeOver 34 = .ok (.iconst 0, 1) := by decide +kernel
theorem dX2_takeOver_35 : decode cX2_takeOver 35 = .ok (.aload_n 0, 1) := by decide +kernel
theorem dX2_takeOver_36 : decode cX2_takeOver 36 = .ok (.getfield 18, 3) := by decide +kernel
theorem dX2_takeOver_39 : decode cX2_takeOver 39 = .ok (.iconst 0, 1) := by decide +kernel
theorem dX2_takeOver_40 : decode cX2_takeOver 40 = .ok (.bipush 8, 2) := by decide +kernel
theorem dX2_takeOver_42 : decode cX2_takeOver 42 = .ok (.invokestatic 56, 3) := by decide +kernel
theorem dX2_takeOver_45 : decode cX2_takeOver 45 = .ok (.aload_n 1, 1) := by decide +kernel
theorem dX2_takeOver_46 : decode cX2_takeOver 46 = .ok (.getfield 21, 3) := by decide +kernel
theorem dX2_takeOver_49 : decode cX2_takeOver 49 = .ok (.iconst 0, 1) := by decide +kernel
theorem dX2_takeOver_50 : decode cX2_takeOver 50 = .ok (.aload_n 0, 1) := by decide +kernel
theorem dX2_takeOver_51 : decode cX2_takeOver 51 = .ok (.getfield 21, 3) := by decide +kernel
theorem dX2_takeOver_54 : decode cX2_takeOver 54 = .ok (.iconst 0, 1) := by decide +kernel
theorem dX2_takeOver_55 : decode cX2_takeOver 55 = .ok (.bipush 8, 2) := by decide +kernel
theorem dX2_takeOver_57 : decode cX2_takeOver 57 = .ok (.invokestatic 56, 3) := by decide +kernel
theorem dX2_takeOver_60 : decode cX2_takeOver 60 = .ok (.aload_n 0, 1) := by decide +kernel
theorem dX2_takeOver_61 : decode cX2_takeOver 61 = .ok (.aload_n 1, 1) := by decide +kernel
theorem dX2_takeOver_62 : decode cX2_takeOver 62 = .ok (.getfield 24, 3) := by decide +kernel
theorem dX2_takeOver_65 : decode cX2_takeOver 65 = .ok (.putfield 24, 3) := by decide +kernel
theorem dX2_takeOver_68 : decode cX2_takeOver 68 = .ok (.aload_n 0, 1) := by decide +kernel
theorem dX2_takeOver_69 : decode cX2_takeOver 69 = .ok (.aload_n 1, 1) := by decide +kernel
theorem dX2_takeOver_70 : decode cX2_takeOver 70 = .ok (.getfield 28, 3) := by decide +kernel
theorem dX2_takeOver_73 : decode cX2_takeOver 73 = .ok (.putfield 28, 3) := by decide +kernel
theorem dX2_takeOver_76 : decode cX2_takeOver 76 = .ok (.aload_n 0, 1) := by decide +kernel
theorem dX2_takeOver_77 : decode cX2_takeOver 77 = .ok (.aload_n 1, 1) := by decide +kernel
theorem dX2_takeOver_78 : decode cX2_takeOver 78 = .ok (.getfield 31, 3) := by decide +kernel
theorem dX2_takeOver_81 : decode cX2_takeOver 81 = .ok (.putfield 31, 3) := by decide +kernel
theorem dX2_takeOver_84 : decode cX2_takeOver 84 = .ok (.aload_n 0, 1) := by decide +kernel
theorem dX2_takeOver_85 : decode cX2_takeOver 85 = .ok (.aload_n 1, 1) := by decide +kernel
theorem dX2_takeOver_86 : decode cX2_takeOver 86 = .ok (.getfield 34, 3) := by decide +kernel
theorem dX2_takeOver_89 : decode cX2_takeOver 89 = .ok (.putfield 34, 3) := by decide +kernel
theorem dX2_takeOver_92 : decode cX2_takeOver 92 = .ok (.aload_n 0, 1) := by decide +kernel
theorem dX2_takeOver_93 : decode cX2_takeOver 93 = .ok (.aload_n 1, 1) := by decide +kernel
theorem dX2_takeOver_94 : decode cX2_takeOver 94 = .ok (.getfield 37, 3) := by decide +kernel
theorem dX2_takeOver_97 : decode cX2_takeOver 97 = .ok (.putfield 37, 3) := by decide +kernel
theorem dX2_takeOver_100 : decode cX2_takeOver 100 = .ok (.aload_n 0, 1) := by decide +kernel
theorem dX2_takeOver_101 : decode cX2_takeOver 101 = .ok (.aload_n 1, 1) := by decide +kernel
theorem dX2_takeOver_102 : decode cX2_takeOver 102 = .ok (.getfield 40, 3) := by decide +kernel
theorem dX2_takeOver_105 : decode cX2_takeOver 105 = .ok (.putfield 40, 3) := by decide +kernel
theorem dX2_takeOver_108 : decode cX2_takeOver 108 = .ok (.aload_n 0, 1) := by decide +kernel
theorem dX2_takeOver_109 : decode cX2_takeOver 109 = .ok (.aload_n 1, 1) := by decide +kernel
theorem dX2_takeOver_110 : decode cX2_takeOver 110 = .ok (.getfield 43, 3) := by decide +kernel
theorem dX2_takeOver_113 : decode cX2_takeOver 113 = .ok (.putfield 43, 3) := by decide +kernel
theorem dX2_takeOver_116 : decode cX2_takeOver 116 = .ok (.aload_n 0, 1) := by decide +kernel
theorem dX2_takeOver_117 : decode cX2_takeOver 117 = .ok (.aload_n 1, 1) := by decide +kernel
theorem dX2_takeOver_118 : decode cX2_takeOver 118 = .ok (.getfield 46, 3) := by decide +kernel
theorem dX2_takeOver_121 : decode cX2_takeOver 121 = .ok (.putfield 46, 3) := by decide +kernel
theorem dX2_takeOver_124 : decode cX2_takeOver 124 = .ok (.return_, 1) := by decide +kernel
theorem dX2_has_0 : decode cX2_has 0 = .ok (.iload_n 1, 1) := by decide +kernel
theorem dX2_has_1 : decode cX2_has 1 = .ok (.ifCond .lt 15, 3) := by decide +kernel
theorem dX2_has_4 : decode cX2_has 4 = .ok (.iload_n 1, 1) := by decide +kernel
theorem dX2_has_5 : decode cX2_has 5 = .ok (.aload_n 0, 1) := by decide +kernel
theorem dX2_has_6 : decode cX2_has 6 = .ok (.getfield 28, 3) := by decide +kernel
theorem dX2_has_9 : decode cX2_has 9 = .ok (.if_icmp .ge 7, 3) := by decide +kernel
theorem dX2_has_12 : decode cX2_has 12 = .ok (.iconst 1, 1) := by decide +kernel
theorem dX2_has_13 : decode cX2_has 13 = .ok (.goto 4, 3) := by decide +kernel
theorem dX2_has_16 : decode cX2_has 16 = .ok (.iconst 0, 1) := by decide +kernel
theorem dX2_has_17 : decode cX2_has 17 = .ok (.ireturn, 1) := by decide +kernel
theorem dX2_takeIn_0 : decode cX2_takeIn 0 = .ok (.aload_n 0, 1) := by decide +kernel
theorem dX2_takeIn_1 : decode cX2_takeIn 1 = .ok (.getfield 28, 3) := by decide +kernel
theorem dX2_takeIn_4 : decode cX2_takeIn 4 = .ok (.bipush 8, 2) := by decide +kernel
theorem dX2_takeIn_6 : decode cX2_takeIn 6 = .ok (.if_icmp .lt 5, 3) := by decide +kernel
theorem dX2_takeIn_9 : decode cX2_takeIn 9 = .ok (.iconst (-1), 1) := by decide +kernel
theorem dX2_takeIn_10 : decode cX2_takeIn 10 = .ok (.ireturn, 1) := by decide +kernel
theorem dX2_takeIn_11 : decode cX2_takeIn 11 = .ok (.aload_n 0, 1) := by decide +kernel
theorem dX2_takeIn_12 : decode cX2_takeIn 12 = .ok (.getfield 9, 3) := by decide +kernel
theorem dX2_takeIn_15 : decode cX2_takeIn 15 = .ok (.aload_n 0, 1) := by decide +kernel
theorem dX2_takeIn_16 : decode cX2_takeIn 16 = .ok (.getfield 28, 3) := by decide +kernel
theorem dX2_takeIn_19 : decode cX2_takeIn 19 = .ok (.iload_n 1, 1) := by decide +kernel
theorem dX2_takeIn_20 : decode cX2_takeIn 20 = .ok (.bipush 10, 2) := by decide +kernel
theorem dX2_takeIn_22 : decode cX2_takeIn 22 = .ok (.idiv, 1) := by decide +kernel
theorem dX2_takeIn_23 : decode cX2_takeIn 23 = .ok (.iastore, 1) := by decide +kernel
theorem dX2_takeIn_24 : decode cX2_takeIn 24 = .ok (.aload_n 0, 1) := by decide +kernel
theorem dX2_takeIn_25 : decode cX2_takeIn 25 = .ok (.getfield 15, 3) := by decide +kernel
theorem dX2_takeIn_28 : decode cX2_takeIn 28 = .ok (.aload_n 0, 1) := by decide +kernel
theorem dX2_takeIn_29 : decode cX2_takeIn 29 = .ok (.getfield 28, 3) := by decide +kernel
theorem dX2_takeIn_32 : decode cX2_takeIn 32 = .ok (.iload_n 1, 1) := by decide +kernel
theorem dX2_takeIn_33 : decode cX2_takeIn 33 = .ok (.bipush 10, 2) := by decide +kernel
theorem dX2_takeIn_35 : decode cX2_takeIn 35 = .ok (.irem, 1) := by decide +kernel
theorem dX2_takeIn_36 : decode cX2_takeIn 36 = .ok (.iastore, 1) := by decide +kernel
theorem dX2_takeIn_37 : decode cX2_takeIn 37 = .ok (.aload_n 0, 1) := by decide +kernel
theorem dX2_takeIn_38 : decode cX2_takeIn 38 = .ok (.dup, 1) := by decide +kernel
theorem dX2_takeIn_39 : decode cX2_takeIn 39 = .ok (.getfield 28, 3) := by decide +kernel
theorem dX2_takeIn_42 : decode cX2_takeIn 42 = .ok (.iconst 1, 1) := by decide +kernel
theorem dX2_takeIn_43 : decode cX2_takeIn 43 = .ok (.iadd, 1) := by decide +kernel
theorem dX2_takeIn_44 : decode cX2_takeIn 44 = .ok (.putfield 28, 3) := by decide +kernel
theorem dX2_takeIn_47 : decode cX2_takeIn 47 = .ok (.aload_n 0, 1) := by decide +kernel
theorem dX2_takeIn_48 : decode cX2_takeIn 48 = .ok (.getfield 28, 3) := by decide +kernel
theorem dX2_takeIn_51 : decode cX2_takeIn 51 = .ok (.iconst 1, 1) := by decide +kernel
theorem dX2_takeIn_52 : decode cX2_takeIn 52 = .ok (.isub, 1) := by decide +kernel
theorem dX2_takeIn_53 : decode cX2_takeIn 53 = .ok (.ireturn, 1) := by decide +kernel
theorem dX2_pastAt_0 : decode cX2_pastAt 0 = .ok (.aload_n 0, 1) := by decide +kernel
theorem dX2_pastAt_1 : decode cX2_pastAt 1 = .ok (.getfield 24, 3) := by decide +kernel
theorem dX2_pastAt_4 : decode cX2_pastAt 4 = .ok (.iload_n 1, 1) := by decide +kernel
theorem dX2_pastAt_5 : decode cX2_pastAt 5 = .ok (.ishr, 1) := by decide +kernel
theorem dX2_pastAt_6 : decode cX2_pastAt 6 = .ok (.iconst 1, 1) := by decide +kernel
theorem dX2_pastAt_7 : decode cX2_pastAt 7 = .ok (.iand, 1) := by decide +kernel
theorem dX2_pastAt_8 : decode cX2_pastAt 8 = .ok (.ireturn, 1) := by decide +kernel
theorem dX2_putPast_0 : decode cX2_putPast 0 = .ok (.aload_n 0, 1) := by decide +kernel
theorem dX2_putPast_1 : decode cX2_putPast 1 = .ok (.aload_n 0, 1) := by decide +kernel
theorem dX2_putPast_2 : decode cX2_putPast 2 = .ok (.getfield 24, 3) := by decide +kernel
theorem dX2_putPast_5 : decode cX2_putPast 5 = .ok (.iconst 1, 1) := by decide +kernel
theorem dX2_putPast_6 : decode cX2_putPast 6 = .ok (.iload_n 1, 1) := by decide +kernel
theorem dX2_putPast_7 : decode cX2_putPast 7 = .ok (.ishl, 1) := by decide +kernel
theorem dX2_putPast_8 : decode cX2_putPast 8 = .ok (.iconst (-1), 1) := by decide +kernel
theorem dX2_putPast_9 : decode cX2_putPast 9 = .ok (.ixor, 1) := by decide +kernel
theorem dX2_putPast_10 : decode cX2_putPast 10 = .ok (.iand, 1) := by decide +kernel
theorem dX2_putPast_11 : decode cX2_putPast 11 = .ok (.iload_n 2, 1) := by decide +kernel
theorem dX2_putPast_12 : decode cX2_putPast 12 = .ok (.iload_n 1, 1) := by decide +kernel
theorem dX2_putPast_13 : decode cX2_putPast 13 = .ok (.ishl, 1) := by decide +kernel
theorem dX2_putPast_14 : decode cX2_putPast 14 = .ok (.ior, 1) := by decide +kernel
theorem dX2_putPast_15 : decode cX2_putPast 15 = .ok (.putfield 24, 3) := by decide +kernel
theorem dX2_putPast_18 : decode cX2_putPast 18 = .ok (.return_, 1) := by decide +kernel
theorem dX2_saidAt_0 : decode cX2_saidAt 0 = .ok (.aload_n 0, 1) := by decide +kernel
theorem dX2_saidAt_1 : decode cX2_saidAt 1 = .ok (.getfield 49, 3) := by decide +kernel
theorem dX2_saidAt_4 : decode cX2_saidAt 4 = .ok (.aload_n 0, 1) := by decide +kernel
theorem dX2_saidAt_5 : decode cX2_saidAt 5 = .ok (.iload_n 1, 1) := by decide +kernel
theorem dX2_saidAt_6 : decode cX2_saidAt 6 = .ok (.invokevirtual 62, 3) := by decide +kernel
theorem dX2_saidAt_9 : decode cX2_saidAt 9 = .ok (.aload_n 0, 1) := by decide +kernel
theorem dX2_saidAt_10 : decode cX2_saidAt 10 = .ok (.getfield 34, 3) := by decide +kernel
theorem dX2_saidAt_13 : decode cX2_saidAt 13 = .ok (.bipush 10, 2) := by decide +kernel
theorem dX2_saidAt_15 : decode cX2_saidAt 15 = .ok (.idiv, 1) := by decide +kernel
theorem dX2_saidAt_16 : decode cX2_saidAt 16 = .ok (.aload_n 0, 1) := by decide +kernel
theorem dX2_saidAt_17 : decode cX2_saidAt 17 = .ok (.getfield 31, 3) := by decide +kernel
theorem dX2_saidAt_20 : decode cX2_saidAt 20 = .ok (.bipush 8, 2) := by decide +kernel
theorem dX2_saidAt_22 : decode cX2_saidAt 22 = .ok (.irem, 1) := by decide +kernel
theorem dX2_saidAt_23 : decode cX2_saidAt 23 = .ok (.invokevirtual 66, 3) := by decide +kernel
theorem dX2_saidAt_26 : decode cX2_saidAt 26 = .ok (.ireturn, 1) := by decide +kernel
theorem dX2_behindAt_0 : decode cX2_behindAt 0 = .ok (.aload_n 0, 1) := by decide +kernel
theorem dX2_behindAt_1 : decode cX2_behindAt 1 = .ok (.getfield 53, 3) := by decide +kernel
theorem dX2_behindAt_4 : decode cX2_behindAt 4 = .ok (.aload_n 0, 1) := by decide +kernel
theorem dX2_behindAt_5 : decode cX2_behindAt 5 = .ok (.iload_n 1, 1) := by decide +kernel
theorem dX2_behindAt_6 : decode cX2_behindAt 6 = .ok (.invokevirtual 72, 3) := by decide +kernel
theorem dX2_behindAt_9 : decode cX2_behindAt 9 = .ok (.aload_n 0, 1) := by decide +kernel
theorem dX2_behindAt_10 : decode cX2_behindAt 10 = .ok (.getfield 37, 3) := by decide +kernel
theorem dX2_behindAt_13 : decode cX2_behindAt 13 = .ok (.bipush 10, 2) := by decide +kernel
theorem dX2_behindAt_15 : decode cX2_behindAt 15 = .ok (.idiv, 1) := by decide +kernel
theorem dX2_behindAt_16 : decode cX2_behindAt 16 = .ok (.aload_n 0, 1) := by decide +kernel
theorem dX2_behindAt_17 : decode cX2_behindAt 17 = .ok (.getfield 31, 3) := by decide +kernel
theorem dX2_behindAt_20 : decode cX2_behindAt 20 = .ok (.bipush 8, 2) := by decide +kernel
theorem dX2_behindAt_22 : decode cX2_behindAt 22 = .ok (.irem, 1) := by decide +kernel
theorem dX2_behindAt_23 : decode cX2_behindAt 23 = .ok (.invokevirtual 66, 3) := by decide +kernel
theorem dX2_behindAt_26 : decode cX2_behindAt 26 = .ok (.ireturn, 1) := by decide +kernel
theorem dX2_tellsAt_0 : decode cX2_tellsAt 0 = .ok (.aload_n 0, 1) := by decide +kernel
theorem dX2_tellsAt_1 : decode cX2_tellsAt 1 = .ok (.getfield 34, 3) := by decide +kernel
theorem dX2_tellsAt_4 : decode cX2_tellsAt 4 = .ok (.iconst 1, 1) := by decide +kernel
theorem dX2_tellsAt_5 : decode cX2_tellsAt 5 = .ok (.aload_n 0, 1) := by decide +kernel
theorem dX2_tellsAt_6 : decode cX2_tellsAt 6 = .ok (.getfield 37, 3) := by decide +kernel
theorem dX2_tellsAt_9 : decode cX2_tellsAt 9 = .ok (.iadd, 1) := by decide +kernel
theorem dX2_tellsAt_10 : decode cX2_tellsAt 10 = .ok (.imul, 1) := by decide +kernel
theorem dX2_tellsAt_11 : decode cX2_tellsAt 11 = .ok (.bipush 100, 2) := by decide +kernel
theorem dX2_tellsAt_13 : decode cX2_tellsAt 13 = .ok (.idiv, 1) := by decide +kernel
theorem dX2_tellsAt_14 : decode cX2_tellsAt 14 = .ok (.istore_n 2, 1) := by decide +kernel
theorem dX2_tellsAt_15 : decode cX2_tellsAt 15 = .ok (.aload_n 0, 1) := by decide +kernel
theorem dX2_tellsAt_16 : decode cX2_tellsAt 16 = .ok (.getfield 9, 3) := by decide +kernel
theorem dX2_tellsAt_19 : decode cX2_tellsAt 19 = .ok (.iload_n 1, 1) := by decide +kernel
theorem dX2_tellsAt_20 : decode cX2_tellsAt 20 = .ok (.iaload, 1) := by decide +kernel
theorem dX2_tellsAt_21 : decode cX2_tellsAt 21 = .ok (.tableswitch 89 1 6 #[39, 47, 49, 68, 83, 87], 39) := by decide +kernel
theorem dX2_tellsAt_60 : decode cX2_tellsAt 60 = .ok (.aload_n 0, 1) := by decide +kernel
theorem dX2_tellsAt_61 : decode cX2_tellsAt 61 = .ok (.getfield 34, 3) := by decide +kernel
theorem dX2_tellsAt_64 : decode cX2_tellsAt 64 = .ok (.bipush 10, 2) := by decide +kernel
theorem dX2_tellsAt_66 : decode cX2_tellsAt 66 = .ok (.iadd, 1) := by decide +kernel
theorem dX2_tellsAt_67 : decode cX2_tellsAt 67 = .ok (.ireturn, 1) := by decide +kernel
theorem dX2_tellsAt_68 : decode cX2_tellsAt 68 = .ok (.iload_n 2, 1) := by decide +kernel
theorem dX2_tellsAt_69 : decode cX2_tellsAt 69 = .ok (.ireturn, 1) := by decide +kernel
theorem dX2_tellsAt_70 : decode cX2_tellsAt 70 = .ok (.aload_n 0, 1) := by decide +kernel
theorem dX2_tellsAt_71 : decode cX2_tellsAt 71 = .ok (.getfield 34, 3) := by decide +kernel
theorem dX2_tellsAt_74 : decode cX2_tellsAt 74 = .ok (.bipush 50, 2) := by decide +kernel
theorem dX2_tellsAt_76 : decode cX2_tellsAt 76 = .ok (.if_icmp .le 8, 3) := by decide +kernel
theorem dX2_tellsAt_79 : decode cX2_tellsAt 79 = .ok (.bipush 77, 2) := by decide +kernel
theorem dX2_tellsAt_81 : decode cX2_tellsAt 81 = .ok (.goto 7, 3) := by decide +kernel
theorem dX2_tellsAt_84 : decode cX2_tellsAt 84 = .ok (.aload_n 0, 1) := by decide +kernel
theorem dX2_tellsAt_85 : decode cX2_tellsAt 85 = .ok (.getfield 34, 3) := by decide +kernel
theorem dX2_tellsAt_88 : decode cX2_tellsAt 88 = .ok (.ireturn, 1) := by decide +kernel
theorem dX2_tellsAt_89 : decode cX2_tellsAt 89 = .ok (.aload_n 0, 1) := by decide +kernel
theorem dX2_tellsAt_90 : decode cX2_tellsAt 90 = .ok (.getfield 34, 3) := by decide +kernel
theorem dX2_tellsAt_93 : decode cX2_tellsAt 93 = .ok (.bipush 10, 2) := by decide +kernel
theorem dX2_tellsAt_95 : decode cX2_tellsAt 95 = .ok (.iadd, 1) := by decide +kernel
theorem dX2_tellsAt_96 : decode cX2_tellsAt 96 = .ok (.aload_n 0, 1) := by decide +kernel
theorem dX2_tellsAt_97 : decode cX2_tellsAt 97 = .ok (.getfield 15, 3) := by decide +kernel
theorem dX2_tellsAt_100 : decode cX2_tellsAt 100 = .ok (.iload_n 1, 1) := by decide +kernel
theorem dX2_tellsAt_101 : decode cX2_tellsAt 101 = .ok (.iaload, 1) := by decide +kernel
theorem dX2_tellsAt_102 : decode cX2_tellsAt 102 = .ok (.isub, 1) := by decide +kernel
theorem dX2_tellsAt_103 : decode cX2_tellsAt 103 = .ok (.ireturn, 1) := by decide +kernel
theorem dX2_tellsAt_104 : decode cX2_tellsAt 104 = .ok (.iconst 2, 1) := by decide +kernel
theorem dX2_tellsAt_105 : decode cX2_tellsAt 105 = .ok (.iload_n 2, 1) := by decide +kernel
theorem dX2_tellsAt_106 : decode cX2_tellsAt 106 = .ok (.imul, 1) := by decide +kernel
theorem dX2_tellsAt_107 : decode cX2_tellsAt 107 = .ok (.ireturn, 1) := by decide +kernel
theorem dX2_tellsAt_108 : decode cX2_tellsAt 108 = .ok (.iconst 0, 1) := by decide +kernel
theorem dX2_tellsAt_109 : decode cX2_tellsAt 109 = .ok (.ireturn, 1) := by decide +kernel
theorem dX2_tellsAt_110 : decode cX2_tellsAt 110 = .ok (.aload_n 0, 1) := by decide +kernel
theorem dX2_tellsAt_111 : decode cX2_tellsAt 111 = .ok (.getfield 34, 3) := by decide +kernel
theorem dX2_tellsAt_114 : decode cX2_tellsAt 114 = .ok (.ireturn, 1) := by decide +kernel
theorem dX2_leavesAt_0 : decode cX2_leavesAt 0 = .ok (.aload_n 0, 1) := by decide +kernel
theorem dX2_leavesAt_1 : decode cX2_leavesAt 1 = .ok (.getfield 15, 3) := by decide +kernel
theorem dX2_leavesAt_4 : decode cX2_leavesAt 4 = .ok (.iload_n 1, 1) := by decide +kernel
theorem dX2_leavesAt_5 : decode cX2_leavesAt 5 = .ok (.iaload, 1) := by decide +kernel
theorem dX2_leavesAt_6 : decode cX2_leavesAt 6 = .ok (.istore_n 2, 1) := by decide +kernel
theorem dX2_leavesAt_7 : decode cX2_leavesAt 7 = .ok (.aload_n 0, 1) := by decide +kernel
theorem dX2_leavesAt_8 : decode cX2_leavesAt 8 = .ok (.getfield 34, 3) := by decide +kernel
theorem dX2_leavesAt_11 : decode cX2_leavesAt 11 = .ok (.iload_n 2, 1) := by decide +kernel
theorem dX2_leavesAt_12 : decode cX2_leavesAt 12 = .ok (.iadd, 1) := by decide +kernel
theorem dX2_leavesAt_13 : decode cX2_leavesAt 13 = .ok (.istore_n 3, 1) := by decide +kernel
theorem dX2_leavesAt_14 : decode cX2_leavesAt 14 = .ok (.iload_n 3, 1) := by decide +kernel
theorem dX2_leavesAt_15 : decode cX2_leavesAt 15 = .ok (.iconst 2, 1) := by decide +kernel
theorem dX2_leavesAt_16 : decode cX2_leavesAt 16 = .ok (.idiv, 1) := by decide +kernel
theorem dX2_leavesAt_17 : decode cX2_leavesAt 17 = .ok (.iconst 5, 1) := by decide +kernel
theorem dX2_leavesAt_18 : decode cX2_leavesAt 18 = .ok (.iload_n 2, 1) := by decide +kernel
theorem dX2_leavesAt_19 : decode cX2_leavesAt 19 = .ok (.imul, 1) := by decide +kernel
theorem dX2_leavesAt_20 : decode cX2_leavesAt 20 = .ok (.iadd, 1) := by decide +kernel
theorem dX2_leavesAt_21 : decode cX2_leavesAt 21 = .ok (.istore 4, 2) := by decide +kernel
theorem dX2_leavesAt_23 : decode cX2_leavesAt 23 = .ok (.iload_n 3, 1) := by decide +kernel
theorem dX2_leavesAt_24 : decode cX2_leavesAt 24 = .ok (.aload_n 0, 1) := by decide +kernel
theorem dX2_leavesAt_25 : decode cX2_leavesAt 25 = .ok (.getfield 28, 3) := by decide +kernel
theorem dX2_leavesAt_28 : decode cX2_leavesAt 28 = .ok (.iadd, 1) := by decide +kernel
theorem dX2_leavesAt_29 : decode cX2_leavesAt 29 = .ok (.istore 5, 2) := by decide +kernel
theorem dX2_leavesAt_31 : decode cX2_leavesAt 31 = .ok (.aload_n 0, 1) := by decide +kernel
theorem dX2_leavesAt_32 : decode cX2_leavesAt 32 = .ok (.getfield 9, 3) := by decide +kernel
theorem dX2_leavesAt_35 : decode cX2_leavesAt 35 = .ok (.iload_n 1, 1) := by decide +kernel
theorem dX2_leavesAt_36 : decode cX2_leavesAt 36 = .ok (.iaload, 1) := by decide +kernel
theorem dX2_leavesAt_37 : decode cX2_leavesAt 37 = .ok (.tableswitch 80 1 6 #[39, 42, 45, 61, 67, 78], 39) := by decide +kernel
theorem dX2_leavesAt_76 : decode cX2_leavesAt 76 = .ok (.iload 4, 2) := by decide +kernel
theorem dX2_leavesAt_78 : decode cX2_leavesAt 78 = .ok (.ireturn, 1) := by decide +kernel
theorem dX2_leavesAt_79 : decode cX2_leavesAt 79 = .ok (.iload 5, 2) := by decide +kernel
theorem dX2_leavesAt_81 : decode cX2_leavesAt 81 = .ok (.ireturn, 1) := by decide +kernel
theorem dX2_leavesAt_82 : decode cX2_leavesAt 82 = .ok (.aload_n 0, 1) := by decide +kernel
theorem dX2_leavesAt_83 : decode cX2_leavesAt 83 = .ok (.getfield 31, 3) := by decide +kernel
theorem dX2_leavesAt_86 : decode cX2_leavesAt 86 = .ok (.iconst 2, 1) := by decide +kernel
theorem dX2_leavesAt_87 : decode cX2_leavesAt 87 = .ok (.irem, 1) := by decide +kernel
theorem dX2_leavesAt_88 : decode cX2_leavesAt 88 = .ok (.ifCond .ne 8, 3) := by decide +kernel
theorem dX2_leavesAt_91 : decode cX2_leavesAt 91 = .ok (.bipush 77, 2) := by decide +kernel
theorem dX2_leavesAt_93 : decode cX2_leavesAt 93 = .ok (.goto 4, 3) := by decide +kernel
theorem dX2_leavesAt_96 : decode cX2_leavesAt 96 = .ok (.iload_n 3, 1) := by decide +kernel
theorem dX2_leavesAt_97 : decode cX2_leavesAt 97 = .ok (.ireturn, 1) := by decide +kernel
theorem dX2_leavesAt_98 : decode cX2_leavesAt 98 = .ok (.bipush 99, 2) := by decide +kernel
theorem dX2_leavesAt_100 : decode cX2_leavesAt 100 = .ok (.iload 4, 2) := by decide +kernel
theorem dX2_leavesAt_102 : decode cX2_leavesAt 102 = .ok (.isub, 1) := by decide +kernel
theorem dX2_leavesAt_103 : decode cX2_leavesAt 103 = .ok (.ireturn, 1) := by decide +kernel
theorem dX2_leavesAt_104 : decode cX2_leavesAt 104 = .ok (.iload 5, 2) := by decide +kernel
theorem dX2_leavesAt_106 : decode cX2_leavesAt 106 = .ok (.aload_n 0, 1) := by decide +kernel
theorem dX2_leavesAt_107 : decode cX2_leavesAt 107 = .ok (.getfield 37, 3) := by decide +kernel
theorem dX2_leavesAt_110 : decode cX2_leavesAt 110 = .ok (.bipush 10, 2) := by decide +kernel
theorem dX2_leavesAt_112 : decode cX2_leavesAt 112 = .ok (.idiv, 1) := by decide +kernel
theorem dX2_leavesAt_113 : decode cX2_leavesAt 113 = .ok (.iadd, 1) := by decide +kernel
theorem dX2_leavesAt_114 : decode cX2_leavesAt 114 = .ok (.ireturn, 1) := by decide +kernel
theorem dX2_leavesAt_115 : decode cX2_leavesAt 115 = .ok (.iconst 0, 1) := by decide +kernel
theorem dX2_leavesAt_116 : decode cX2_leavesAt 116 = .ok (.ireturn, 1) := by decide +kernel
theorem dX2_leavesAt_117 : decode cX2_leavesAt 117 = .ok (.iload_n 3, 1) := by decide +kernel
theorem dX2_leavesAt_118 : decode cX2_leavesAt 118 = .ok (.ireturn, 1) := by decide +kernel
theorem dX2_bluntsAt_0 : decode cX2_bluntsAt 0 = .ok (.aload_n 0, 1) := by decide +kernel
theorem dX2_bluntsAt_1 : decode cX2_bluntsAt 1 = .ok (.getfield 15, 3) := by decide +kernel
theorem dX2_bluntsAt_4 : decode cX2_bluntsAt 4 = .ok (.iload_n 1, 1) := by decide +kernel
theorem dX2_bluntsAt_5 : decode cX2_bluntsAt 5 = .ok (.iaload, 1) := by decide +kernel
theorem dX2_bluntsAt_6 : decode cX2_bluntsAt 6 = .ok (.istore_n 2, 1) := by decide +kernel
theorem dX2_bluntsAt_7 : decode cX2_bluntsAt 7 = .ok (.iconst 3, 1) := by decide +kernel
theorem dX2_bluntsAt_8 : decode cX2_bluntsAt 8 = .ok (.istore_n 3, 1) := by decide +kernel
theorem dX2_bluntsAt_9 : decode cX2_bluntsAt 9 = .ok (.iload_n 3, 1) := by decide +kernel
theorem dX2_bluntsAt_10 : decode cX2_bluntsAt 10 = .ok (.iload_n 2, 1) := by decide +kernel
theorem dX2_bluntsAt_11 : decode cX2_bluntsAt 11 = .ok (.iconst 2, 1) := by decide +kernel
theorem dX2_bluntsAt_12 : decode cX2_bluntsAt 12 = .ok (.idiv, 1) := by decide +kernel
theorem dX2_bluntsAt_13 : decode cX2_bluntsAt 13 = .ok (.iadd, 1) := by decide +kernel
theorem dX2_bluntsAt_14 : decode cX2_bluntsAt 14 = .ok (.istore 4, 2) := by decide +kernel
theorem dX2_bluntsAt_16 : decode cX2_bluntsAt 16 = .ok (.aload_n 0, 1) := by decide +kernel
theorem dX2_bluntsAt_17 : decode cX2_bluntsAt 17 = .ok (.getfield 9, 3) := by decide +kernel
theorem dX2_bluntsAt_20 : decode cX2_bluntsAt 20 = .ok (.iload_n 1, 1) := by decide +kernel
theorem dX2_bluntsAt_21 : decode cX2_bluntsAt 21 = .ok (.iaload, 1) := by decide +kernel
theorem dX2_bluntsAt_22 : decode cX2_bluntsAt 22 = .ok (.tableswitch 63 1 6 #[38, 63, 41, 43, 48, 52], 38) := by decide +kernel
theorem dX2_bluntsAt_60 : decode cX2_bluntsAt 60 = .ok (.iload 4, 2) := by decide +kernel
theorem dX2_bluntsAt_62 : decode cX2_bluntsAt 62 = .ok (.ireturn, 1) := by decide +kernel
theorem dX2_bluntsAt_63 : decode cX2_bluntsAt 63 = .ok (.iconst 5, 1) := by decide +kernel
theorem dX2_bluntsAt_64 : decode cX2_bluntsAt 64 = .ok (.ireturn, 1) := by decide +kernel
theorem dX2_bluntsAt_65 : decode cX2_bluntsAt 65 = .ok (.iload 4, 2) := by decide +kernel
theorem dX2_bluntsAt_67 : decode cX2_bluntsAt 67 = .ok (.iconst 2, 1) := by decide +kernel
theorem dX2_bluntsAt_68 : decode cX2_bluntsAt 68 = .ok (.isub, 1) := by decide +kernel
theorem dX2_bluntsAt_69 : decode cX2_bluntsAt 69 = .ok (.ireturn, 1) := by decide +kernel
theorem dX2_bluntsAt_70 : decode cX2_bluntsAt 70 = .ok (.iconst 2, 1) := by decide +kernel
theorem dX2_bluntsAt_71 : decode cX2_bluntsAt 71 = .ok (.iload_n 3, 1) := by decide +kernel
theorem dX2_bluntsAt_72 : decode cX2_bluntsAt 72 = .ok (.imul, 1) := by decide +kernel
theorem dX2_bluntsAt_73 : decode cX2_bluntsAt 73 = .ok (.ireturn, 1) := by decide +kernel
theorem dX2_bluntsAt_74 : decode cX2_bluntsAt 74 = .ok (.iload_n 2, 1) := by decide +kernel
theorem dX2_bluntsAt_75 : decode cX2_bluntsAt 75 = .ok (.iconst 4, 1) := by decide +kernel
theorem dX2_bluntsAt_76 : decode cX2_bluntsAt 76 = .ok (.if_icmp .le 7, 3) := by decide +kernel
theorem dX2_bluntsAt_79 : decode cX2_bluntsAt 79 = .ok (.iload_n 3, 1) := by decide +kernel
theorem dX2_bluntsAt_80 : decode cX2_bluntsAt 80 = .ok (.goto 4, 3) := by decide +kernel
theorem dX2_bluntsAt_83 : decode cX2_bluntsAt 83 = .ok (.iconst 0, 1) := by decide +kernel
theorem dX2_bluntsAt_84 : decode cX2_bluntsAt 84 = .ok (.ireturn, 1) := by decide +kernel
theorem dX2_bluntsAt_85 : decode cX2_bluntsAt 85 = .ok (.iload_n 3, 1) := by decide +kernel
theorem dX2_bluntsAt_86 : decode cX2_bluntsAt 86 = .ok (.ireturn, 1) := by decide +kernel
theorem dX2_passDays_0 : decode cX2_passDays 0 = .ok (.iconst 0, 1) := by decide +kernel
theorem dX2_passDays_1 : decode cX2_passDays 1 = .ok (.istore_n 2, 1) := by decide +kernel
theorem dX2_passDays_2 : decode cX2_passDays 2 = .ok (.iload_n 2, 1) := by decide +kernel
theorem dX2_passDays_3 : decode cX2_passDays 3 = .ok (.iload_n 1, 1) := by decide +kernel
theorem dX2_passDays_4 : decode cX2_passDays 4 = .ok (.if_icmp .ge 17, 3) := by decide +kernel
theorem dX2_passDays_7 : decode cX2_passDays 7 = .ok (.aload_n 0, 1) := by decide +kernel
theorem dX2_passDays_8 : decode cX2_passDays 8 = .ok (.invokevirtual 75, 3) := by decide +kernel
theorem dX2_passDays_11 : decode cX2_passDays 11 = .ok (.aload_n 0, 1) := by decide +kernel
theorem dX2_passDays_12 : decode cX2_passDays 12 = .ok (.invokevirtual 78, 3) := by decide +kernel
theorem dX2_passDays_15 : decode cX2_passDays 15 = .ok (.iinc 2 1, 3) := by decide +kernel
theorem dX2_passDays_18 : decode cX2_passDays 18 = .ok (.goto (-16), 3) := by decide +kernel
theorem dX2_passDays_21 : decode cX2_passDays 21 = .ok (.return_, 1) := by decide +kernel
theorem dX2_passDaysFor_0 : decode cX2_passDaysFor 0 = .ok (.iconst 0, 1) := by decide +kernel
theorem dX2_passDaysFor_1 : decode cX2_passDaysFor 1 = .ok (.istore_n 3, 1) := by decide +kernel
theorem dX2_passDaysFor_2 : decode cX2_passDaysFor 2 = .ok (.iload_n 3, 1) := by decide +kernel
theorem dX2_passDaysFor_3 : decode cX2_passDaysFor 3 = .ok (.iload_n 2, 1) := by decide +kernel
theorem dX2_passDaysFor_4 : decode cX2_passDaysFor 4 = .ok (.if_icmp .ge 25, 3) := by decide +kernel
theorem dX2_passDaysFor_7 : decode cX2_passDaysFor 7 = .ok (.aload_n 0, 1) := by decide +kernel
theorem dX2_passDaysFor_8 : decode cX2_passDaysFor 8 = .ok (.getfield 43, 3) := by decide +kernel
theorem dX2_passDaysFor_11 : decode cX2_passDaysFor 11 = .ok (.iload_n 1, 1) := by decide +kernel
theorem dX2_passDaysFor_12 : decode cX2_passDaysFor 12 = .ok (.if_icmp .ne 7, 3) := by decide +kernel
theorem dX2_passDaysFor_15 : decode cX2_passDaysFor 15 = .ok (.aload_n 0, 1) := by decide +kernel
theorem dX2_passDaysFor_16 : decode cX2_passDaysFor 16 = .ok (.invokevirtual 75, 3) := by decide +kernel
theorem dX2_passDaysFor_19 : decode cX2_passDaysFor 19 = .ok (.aload_n 0, 1) := by decide +kernel
theorem dX2_passDaysFor_20 : decode cX2_passDaysFor 20 = .ok (.invokevirtual 78, 3) := by decide +kernel
theorem dX2_passDaysFor_23 : decode cX2_passDaysFor 23 = .ok (.iinc 3 1, 3) := by decide +kernel
theorem dX2_passDaysFor_26 : decode cX2_passDaysFor 26 = .ok (.goto (-24), 3) := by decide +kernel
theorem dX2_passDaysFor_29 : decode cX2_passDaysFor 29 = .ok (.return_, 1) := by decide +kernel
theorem dX2_hear_0 : decode cX2_hear 0 = .ok (.aload_n 0, 1) := by decide +kernel
theorem dX2_hear_1 : decode cX2_hear 1 = .ok (.aload_n 0, 1) := by decide +kernel
theorem dX2_hear_2 : decode cX2_hear 2 = .ok (.getfield 43, 3) := by decide +kernel
theorem dX2_hear_5 : decode cX2_hear 5 = .ok (.invokevirtual 81, 3) := by decide +kernel
theorem dX2_hear_8 : decode cX2_hear 8 = .ok (.ifCond .eq 62, 3) := by decide +kernel
theorem dX2_hear_11 : decode cX2_hear 11 = .ok (.aload_n 0, 1) := by decide +kernel
theorem dX2_hear_12 : decode cX2_hear 12 = .ok (.getfield 18, 3) := by decide +kernel
theorem dX2_hear_15 : decode cX2_hear 15 = .ok (.aload_n 0, 1) := by decide +kernel
theorem dX2_hear_16 : decode cX2_hear 16 = .ok (.getfield 43, 3) := by decide +kernel
theorem dX2_hear_19 : decode cX2_hear 19 = .ok (.sipush 9999, 3) := by decide +kernel
theorem dX2_hear_22 : decode cX2_hear 22 = .ok (.aload_n 0, 1) := by decide +kernel
theorem dX2_hear_23 : decode cX2_hear 23 = .ok (.getfield 18, 3) := by decide +kernel
theorem dX2_hear_26 : decode cX2_hear 26 = .ok (.aload_n 0, 1) := by decide +kernel
theorem dX2_hear_27 : decode cX2_hear 27 = .ok (.getfield 43, 3) := by decide +kernel
theorem dX2_hear_30 : decode cX2_hear 30 = .ok (.iaload, 1) := by decide +kernel
theorem dX2_hear_31 : decode cX2_hear 31 = .ok (.aload_n 0, 1) := by decide +kernel
theorem dX2_hear_32 : decode cX2_hear 32 = .ok (.aload_n 0, 1) := by decide +kernel
theorem dX2_hear_33 : decode cX2_hear 33 = .ok (.getfield 43, 3) := by decide +kernel
theorem dX2_hear_36 : decode cX2_hear 36 = .ok (.invokevirtual 85, 3) := by decide +kernel
theorem dX2_hear_39 : decode cX2_hear 39 = .ok (.iadd, 1) := by decide +kernel
theorem dX2_hear_40 : decode cX2_hear 40 = .ok (.invokestatic 88, 3) := by decide +kernel
theorem dX2_hear_43 : decode cX2_hear 43 = .ok (.iastore, 1) := by decide +kernel
theorem dX2_hear_44 : decode cX2_hear 44 = .ok (.aload_n 0, 1) := by decide +kernel
theorem dX2_hear_45 : decode cX2_hear 45 = .ok (.getfield 21, 3) := by decide +kernel
theorem dX2_hear_48 : decode cX2_hear 48 = .ok (.aload_n 0, 1) := by decide +kernel
theorem dX2_hear_49 : decode cX2_hear 49 = .ok (.getfield 43, 3) := by decide +kernel
theorem dX2_hear_52 : decode cX2_hear 52 = .ok (.sipush 9999, 3) := by decide +kernel
theorem dX2_hear_55 : decode cX2_hear 55 = .ok (.aload_n 0, 1) := by decide +kernel
theorem dX2_hear_56 : decode cX2_hear 56 = .ok (.getfield 21, 3) := by decide +kernel
theorem dX2_hear_59 : decode cX2_hear 59 = .ok (.aload_n 0, 1) := by decide +kernel
theorem dX2_hear_60 : decode cX2_hear 60 = .ok (.getfield 43, 3) := by decide +kernel
theorem dX2_hear_63 : decode cX2_hear 63 = .ok (.iaload, 1) := by decide +kernel
theorem dX2_hear_64 : decode cX2_hear 64 = .ok (.iconst 1, 1) := by decide +kernel
theorem dX2_hear_65 : decode cX2_hear 65 = .ok (.iadd, 1) := by decide +kernel
theorem dX2_hear_66 : decode cX2_hear 66 = .ok (.invokestatic 88, 3) := by decide +kernel
theorem dX2_hear_69 : decode cX2_hear 69 = .ok (.iastore, 1) := by decide +kernel
theorem dX2_hear_70 : decode cX2_hear 70 = .ok (.return_, 1) := by decide +kernel
theorem dX2_carryOn_0 : decode cX2_carryOn 0 = .ok (.aload_n 0, 1) := by decide +kernel
theorem dX2_carryOn_1 : decode cX2_carryOn 1 = .ok (.aload_n 0, 1) := by decide +kernel
theorem dX2_carryOn_2 : decode cX2_carryOn 2 = .ok (.getfield 43, 3) := by decide +kernel
theorem dX2_carryOn_5 : decode cX2_carryOn 5 = .ok (.invokevirtual 81, 3) := by decide +kernel
theorem dX2_carryOn_8 : decode cX2_carryOn 8 = .ok (.ifCond .eq 46, 3) := by decide +kernel
theorem dX2_carryOn_11 : decode cX2_carryOn 11 = .ok (.aload_n 0, 1) := by decide +kernel
theorem dX2_carryOn_12 : decode cX2_carryOn 12 = .ok (.aload_n 0, 1) := by decide +kernel
theorem dX2_carryOn_13 : decode cX2_carryOn 13 = .ok (.getfield 43, 3) := by decide +kernel
theorem dX2_carryOn_16 : decode cX2_carryOn 16 = .ok (.invokevirtual 94, 3) := by decide +kernel
theorem dX2_carryOn_19 : decode cX2_carryOn 19 = .ok (.istore_n 1, 1) := by decide +kernel
theorem dX2_carryOn_20 : decode cX2_carryOn 20 = .ok (.aload_n 0, 1) := by decide +kernel
theorem dX2_carryOn_21 : decode cX2_carryOn 21 = .ok (.iconst 0, 1) := by decide +kernel
theorem dX2_carryOn_22 : decode cX2_carryOn 22 = .ok (.aload_n 0, 1) := by decide +kernel
theorem dX2_carryOn_23 : decode cX2_carryOn 23 = .ok (.getfield 37, 3) := by decide +kernel
theorem dX2_carryOn_26 : decode cX2_carryOn 26 = .ok (.aload_n 0, 1) := by decide +kernel
theorem dX2_carryOn_27 : decode cX2_carryOn 27 = .ok (.aload_n 0, 1) := by decide +kernel
theorem dX2_carryOn_28 : decode cX2_carryOn 28 = .ok (.getfield 43, 3) := by decide +kernel
theorem dX2_carryOn_31 : decode cX2_carryOn 31 = .ok (.invokevirtual 97, 3) := by decide +kernel
theorem dX2_carryOn_34 : decode cX2_carryOn 34 = .ok (.isub, 1) := by decide +kernel
theorem dX2_carryOn_35 : decode cX2_carryOn 35 = .ok (.invokestatic 100, 3) := by decide +kernel
theorem dX2_carryOn_38 : decode cX2_carryOn 38 = .ok (.putfield 37, 3) := by decide +kernel
theorem dX2_carryOn_41 : decode cX2_carryOn 41 = .ok (.aload_n 0, 1) := by decide +kernel
theorem dX2_carryOn_42 : decode cX2_carryOn 42 = .ok (.iload_n 1, 1) := by decide +kernel
theorem dX2_carryOn_43 : decode cX2_carryOn 43 = .ok (.putfield 34, 3) := by decide +kernel
theorem dX2_carryOn_46 : decode cX2_carryOn 46 = .ok (.aload_n 0, 1) := by decide +kernel
theorem dX2_carryOn_47 : decode cX2_carryOn 47 = .ok (.aload_n 0, 1) := by decide +kernel
theorem dX2_carryOn_48 : decode cX2_carryOn 48 = .ok (.invokevirtual 103, 3) := by decide +kernel
theorem dX2_carryOn_51 : decode cX2_carryOn 51 = .ok (.putfield 43, 3) := by decide +kernel
theorem dX2_carryOn_54 : decode cX2_carryOn 54 = .ok (.aload_n 0, 1) := by decide +kernel
theorem dX2_carryOn_55 : decode cX2_carryOn 55 = .ok (.dup, 1) := by decide +kernel
theorem dX2_carryOn_56 : decode cX2_carryOn 56 = .ok (.getfield 31, 3) := by decide +kernel
theorem dX2_carryOn_59 : decode cX2_carryOn 59 = .ok (.iconst 1, 1) := by decide +kernel
theorem dX2_carryOn_60 : decode cX2_carryOn 60 = .ok (.iadd, 1) := by decide +kernel
theorem dX2_carryOn_61 : decode cX2_carryOn 61 = .ok (.putfield 31, 3) := by decide +kernel
theorem dX2_carryOn_64 : decode cX2_carryOn 64 = .ok (.aload_n 0, 1) := by decide +kernel
theorem dX2_carryOn_65 : decode cX2_carryOn 65 = .ok (.getfield 40, 3) := by decide +kernel
theorem dX2_carryOn_68 : decode cX2_carryOn 68 = .ok (.ifCond .le 21, 3) := by decide +kernel
theorem dX2_carryOn_71 : decode cX2_carryOn 71 = .ok (.aload_n 0, 1) := by decide +kernel
theorem dX2_carryOn_72 : decode cX2_carryOn 72 = .ok (.getfield 31, 3) := by decide +kernel
theorem dX2_carryOn_75 : decode cX2_carryOn 75 = .ok (.aload_n 0, 1) := by decide +kernel
theorem dX2_carryOn_76 : decode cX2_carryOn 76 = .ok (.getfield 40, 3) := by decide +kernel
theorem dX2_carryOn_79 : decode cX2_carryOn 79 = .ok (.irem, 1) := by decide +kernel
theorem dX2_carryOn_80 : decode cX2_carryOn 80 = .ok (.ifCond .ne 9, 3) := by decide +kernel
theorem dX2_carryOn_83 : decode cX2_carryOn 83 = .ok (.aload_n 0, 1) := by decide +kernel
theorem dX2_carryOn_84 : decode cX2_carryOn 84 = .ok (.bipush 99, 2) := by decide +kernel
theorem dX2_carryOn_86 : decode cX2_carryOn 86 = .ok (.putfield 37, 3) := by decide +kernel
theorem dX2_carryOn_89 : decode cX2_carryOn 89 = .ok (.return_, 1) := by decide +kernel
theorem dX2_nextPlace_0 : decode cX2_nextPlace 0 = .ok (.aload_n 0, 1) := by decide +kernel
theorem dX2_nextPlace_1 : decode cX2_nextPlace 1 = .ok (.getfield 43, 3) := by decide +kernel
theorem dX2_nextPlace_4 : decode cX2_nextPlace 4 = .ok (.istore_n 1, 1) := by decide +kernel
theorem dX2_nextPlace_5 : decode cX2_nextPlace 5 = .ok (.iconst 1, 1) := by decide +kernel
theorem dX2_nextPlace_6 : decode cX2_nextPlace 6 = .ok (.istore_n 2, 1) := by decide +kernel
theorem dX2_nextPlace_7 : decode cX2_nextPlace 7 = .ok (.iload_n 2, 1) := by decide +kernel
theorem dX2_nextPlace_8 : decode cX2_nextPlace 8 = .ok (.aload_n 0, 1) := by decide +kernel
theorem dX2_nextPlace_9 : decode cX2_nextPlace 9 = .ok (.getfield 28, 3) := by decide +kernel
theorem dX2_nextPlace_12 : decode cX2_nextPlace 12 = .ok (.if_icmp .ge 37, 3) := by decide +kernel
theorem dX2_nextPlace_15 : decode cX2_nextPlace 15 = .ok (.iload_n 1, 1) := by decide +kernel
theorem dX2_nextPlace_16 : decode cX2_nextPlace 16 = .ok (.iconst 1, 1) := by decide +kernel
theorem dX2_nextPlace_17 : decode cX2_nextPlace 17 = .ok (.iadd, 1) := by decide +kernel
theorem dX2_nextPlace_18 : decode cX2_nextPlace 18 = .ok (.aload_n 0, 1) := by decide +kernel
theorem dX2_nextPlace_19 : decode cX2_nextPlace 19 = .ok (.getfield 28, 3) := by decide +kernel
theorem dX2_nextPlace_22 : decode cX2_nextPlace 22 = .ok (.if_icmp .ge 9, 3) := by decide +kernel
theorem dX2_nextPlace_25 : decode cX2_nextPlace 25 = .ok (.iload_n 1, 1) := by decide +kernel
theorem dX2_nextPlace_26 : decode cX2_nextPlace 26 = .ok (.iconst 1, 1) := by decide +kernel
theorem dX2_nextPlace_27 : decode cX2_nextPlace 27 = .ok (.iadd, 1) := by decide +kernel
theorem dX2_nextPlace_28 : decode cX2_nextPlace 28 = .ok (.goto 4, 3) := by decide +kernel
theorem dX2_nextPlace_31 : decode cX2_nextPlace 31 = .ok (.iconst 0, 1) := by decide +kernel
theorem dX2_nextPlace_32 : decode cX2_nextPlace 32 = .ok (.istore_n 1, 1) := by decide +kernel
theorem dX2_nextPlace_33 : decode cX2_nextPlace 33 = .ok (.aload_n 0, 1) := by decide +kernel
theorem dX2_nextPlace_34 : decode cX2_nextPlace 34 = .ok (.iload_n 1, 1) := by decide +kernel
theorem dX2_nextPlace_35 : decode cX2_nextPlace 35 = .ok (.invokevirtual 107, 3) := by decide +kernel
theorem dX2_nextPlace_38 : decode cX2_nextPlace 38 = .ok (.ifCond .ne 5, 3) := by decide +kernel
theorem dX2_nextPlace_41 : decode cX2_nextPlace 41 = .ok (.iload_n 1, 1) := by decide +kernel
theorem dX2_nextPlace_42 : decode cX2_nextPlace 42 = .ok (.ireturn, 1) := by decide +kernel
theorem dX2_nextPlace_43 : decode cX2_nextPlace 43 = .ok (.iinc 2 1, 3) := by decide +kernel
theorem dX2_nextPlace_46 : decode cX2_nextPlace 46 = .ok (.goto (-39), 3) := by decide +kernel
theorem dX2_nextPlace_49 : decode cX2_nextPlace 49 = .ok (.aload_n 0, 1) := by decide +kernel
theorem dX2_nextPlace_50 : decode cX2_nextPlace 50 = .ok (.getfield 43, 3) := by decide +kernel
theorem dX2_nextPlace_53 : decode cX2_nextPlace 53 = .ok (.ireturn, 1) := by decide +kernel
theorem dX2_drawPlace_0 : decode cX2_drawPlace 0 = .ok (.aload_n 0, 1) := by decide +kernel
theorem dX2_drawPlace_1 : decode cX2_drawPlace 1 = .ok (.getfield 28, 3) := by decide +kernel
theorem dX2_drawPlace_4 : decode cX2_drawPlace 4 = .ok (.ifCond .le 34, 3) := by decide +kernel
theorem dX2_drawPlace_7 : decode cX2_drawPlace 7 = .ok (.aload_n 0, 1) := by decide +kernel
theorem dX2_drawPlace_8 : decode cX2_drawPlace 8 = .ok (.aload_n 0, 1) := by decide +kernel
theorem dX2_drawPlace_9 : decode cX2_drawPlace 9 = .ok (.getfield 46, 3) := by decide +kernel
theorem dX2_drawPlace_12 : decode cX2_drawPlace 12 = .ok (.ldc 110, 2) := by decide +kernel
theorem dX2_drawPlace_14 : decode cX2_drawPlace 14 = .ok (.imul, 1) := by decide +kernel
theorem dX2_drawPlace_15 : decode cX2_drawPlace 15 = .ok (.sipush 12345, 3) := by decide +kernel
theorem dX2_drawPlace_18 : decode cX2_drawPlace 18 = .ok (.iadd, 1) := by decide +kernel
theorem dX2_drawPlace_19 : decode cX2_drawPlace 19 = .ok (.putfield 46, 3) := by decide +kernel
theorem dX2_drawPlace_22 : decode cX2_drawPlace 22 = .ok (.aload_n 0, 1) := by decide +kernel
theorem dX2_drawPlace_23 : decode cX2_drawPlace 23 = .ok (.aload_n 0, 1) := by decide +kernel
theorem dX2_drawPlace_24 : decode cX2_drawPlace 24 = .ok (.getfield 46, 3) := by decide +kernel
theorem dX2_drawPlace_27 : decode cX2_drawPlace 27 = .ok (.bipush 8, 2) := by decide +kernel
theorem dX2_drawPlace_29 : decode cX2_drawPlace 29 = .ok (.iushr, 1) := by decide +kernel
theorem dX2_drawPlace_30 : decode cX2_drawPlace 30 = .ok (.aload_n 0, 1) := by decide +kernel
theorem dX2_drawPlace_31 : decode cX2_drawPlace 31 = .ok (.getfield 28, 3) := by decide +kernel
theorem dX2_drawPlace_34 : decode cX2_drawPlace 34 = .ok (.irem, 1) := by decide +kernel
theorem dX2_drawPlace_35 : decode cX2_drawPlace 35 = .ok (.putfield 43, 3) := by decide +kernel
theorem dX2_drawPlace_38 : decode cX2_drawPlace 38 = .ok (.return_, 1) := by decide +kernel
theorem dX2_heardTogether_0 : decode cX2_heardTogether 0 = .ok (.iconst 0, 1) := by decide +kernel
theorem dX2_heardTogether_1 : decode cX2_heardTogether 1 = .ok (.istore_n 1, 1) := by decide +kernel
theorem dX2_heardTogether_2 : decode cX2_heardTogether 2 = .ok (.iconst 0, 1) := by decide +kernel
theorem dX2_heardTogether_3 : decode cX2_heardTogether 3 = .ok (.istore_n 2, 1) := by decide +kernel
theorem dX2_heardTogether_4 : decode cX2_heardTogether 4 = .ok (.iload_n 2, 1) := by decide +kernel
theorem dX2_heardTogether_5 : decode cX2_heardTogether 5 = .ok (.aload_n 0, 1) := by decide +kernel
theorem dX2_heardTogether_6 : decode cX2_heardTogether 6 = .ok (.getfield 28, 3) := by decide +kernel
theorem dX2_heardTogether_9 : decode cX2_heardTogether 9 = .ok (.if_icmp .ge 18, 3) := by decide +kernel
theorem dX2_heardTogether_12 : decode cX2_heardTogether 12 = .ok (.iload_n 1, 1) := by decide +kernel
theorem dX2_heardTogether_13 : decode cX2_heardTogether 13 = .ok (.aload_n 0, 1) := by decide +kernel
theorem dX2_heardTogether_14 : decode cX2_heardTogether 14 = .ok (.getfield 18, 3) := by decide +kernel
theorem dX2_heardTogether_17 : decode cX2_heardTogether 17 = .ok (.iload_n 2, 1) := by decide +kernel
theorem dX2_heardTogether_18 : decode cX2_heardTogether 18 = .ok (.iaload, 1) := by decide +kernel
theorem dX2_heardTogether_19 : decode cX2_heardTogether 19 = .ok (.iadd, 1) := by decide +kernel
theorem dX2_heardTogether_20 : decode cX2_heardTogether 20 = .ok (.istore_n 1, 1) := by decide +kernel
theorem dX2_heardTogether_21 : decode cX2_heardTogether 21 = .ok (.iinc 2 1, 3) := by decide +kernel
theorem dX2_heardTogether_24 : decode cX2_heardTogether 24 = .ok (.goto (-20), 3) := by decide +kernel
theorem dX2_heardTogether_27 : decode cX2_heardTogether 27 = .ok (.iload_n 1, 1) := by decide +kernel
theorem dX2_heardTogether_28 : decode cX2_heardTogether 28 = .ok (.ireturn, 1) := by decide +kernel
theorem dX2_takeHeard_0 : decode cX2_takeHeard 0 = .ok (.iconst 0, 1) := by decide +kernel
theorem dX2_takeHeard_1 : decode cX2_takeHeard 1 = .ok (.istore_n 2, 1) := by decide +kernel
theorem dX2_takeHeard_2 : decode cX2_takeHeard 2 = .ok (.iload_n 2, 1) := by decide +kernel
theorem dX2_takeHeard_3 : decode cX2_takeHeard 3 = .ok (.aload_n 1, 1) := by decide +kernel
theorem dX2_takeHeard_4 : decode cX2_takeHeard 4 = .ok (.getfield 111, 3) := by decide +kernel
theorem dX2_takeHeard_7 : decode cX2_takeHeard 7 = .ok (.if_icmp .ge 45, 3) := by decide +kernel
theorem dX2_takeHeard_10 : decode cX2_takeHeard 10 = .ok (.iload_n 2, 1) := by decide +kernel
theorem dX2_takeHeard_11 : decode cX2_takeHeard 11 = .ok (.aload_n 0, 1) := by decide +kernel
theorem dX2_takeHeard_12 : decode cX2_takeHeard 12 = .ok (.getfield 28, 3) := by decide +kernel
theorem dX2_takeHeard_15 : decode cX2_takeHeard 15 = .ok (.if_icmp .ge 37, 3) := by decide +kernel
theorem dX2_takeHeard_18 : decode cX2_takeHeard 18 = .ok (.aload_n 1, 1) := by decide +kernel
theorem dX2_takeHeard_19 : decode cX2_takeHeard 19 = .ok (.getfield 116, 3) := by decide +kernel
theorem dX2_takeHeard_22 : decode cX2_takeHeard 22 = .ok (.iload_n 2, 1) := by decide +kernel
theorem dX2_takeHeard_23 : decode cX2_takeHeard 23 = .ok (.iaload, 1) := by decide +kernel
theorem dX2_takeHeard_24 : decode cX2_takeHeard 24 = .ok (.iconst 0, 1) := by decide +kernel
theorem dX2_takeHeard_25 : decode cX2_takeHeard 25 = .ok (.sipush 9999, 3) := by decide +kernel
theorem dX2_takeHeard_28 : decode cX2_takeHeard 28 = .ok (.invokestatic 119, 3) := by decide +kernel
theorem dX2_takeHeard_31 : decode cX2_takeHeard 31 = .ok (.ifCond .eq 21, 3) := by decide +kernel
theorem dX2_takeHeard_34 : decode cX2_takeHeard 34 = .ok (.aload_n 0, 1) := by decide +kernel
theorem dX2_takeHeard_35 : decode cX2_takeHeard 35 = .ok (.getfield 18, 3) := by decide +kernel
theorem dX2_takeHeard_38 : decode cX2_takeHeard 38 = .ok (.iload_n 2, 1) := by decide +kernel
theorem dX2_takeHeard_39 : decode cX2_takeHeard 39 = .ok (.aload_n 1, 1) := by decide +kernel
theorem dX2_takeHeard_40 : decode cX2_takeHeard 40 = .ok (.getfield 116, 3) := by decide +kernel
theorem dX2_takeHeard_43 : decode cX2_takeHeard 43 = .ok (.iload_n 2, 1) := by decide +kernel
theorem dX2_takeHeard_44 : decode cX2_takeHeard 44 = .ok (.iaload, 1) := by decide +kernel
theorem dX2_takeHeard_45 : decode cX2_takeHeard 45 = .ok (.iastore, 1) := by decide +kernel
theorem dX2_takeHeard_46 : decode cX2_takeHeard 46 = .ok (.iinc 2 1, 3) := by decide +kernel
theorem dX2_takeHeard_49 : decode cX2_takeHeard 49 = .ok (.goto (-47), 3) := by decide +kernel
theorem dX2_takeHeard_52 : decode cX2_takeHeard 52 = .ok (.iload_n 2, 1) := by decide +kernel
theorem dX2_takeHeard_53 : decode cX2_takeHeard 53 = .ok (.ireturn, 1) := by decide +kernel
theorem dX2_rightTurns_0 : decode cX2_rightTurns 0 = .ok (.iconst 0, 1) := by decide +kernel
theorem dX2_rightTurns_1 : decode cX2_rightTurns 1 = .ok (.istore_n 2, 1) := by decide +kernel
theorem dX2_rightTurns_2 : decode cX2_rightTurns 2 = .ok (.iload_n 2, 1) := by decide +kernel
theorem dX2_rightTurns_3 : decode cX2_rightTurns 3 = .ok (.aload_n 1, 1) := by decide +kernel
theorem dX2_rightTurns_4 : decode cX2_rightTurns 4 = .ok (.getfield 111, 3) := by decide +kernel
theorem dX2_rightTurns_7 : decode cX2_rightTurns 7 = .ok (.if_icmp .ge 32, 3) := by decide +kernel
theorem dX2_rightTurns_10 : decode cX2_rightTurns 10 = .ok (.iload_n 2, 1) := by decide +kernel
theorem dX2_rightTurns_11 : decode cX2_rightTurns 11 = .ok (.aload_n 0, 1) := by decide +kernel
theorem dX2_rightTurns_12 : decode cX2_rightTurns 12 = .ok (.getfield 28, 3) := by decide +kernel
theorem dX2_rightTurns_15 : decode cX2_rightTurns 15 = .ok (.if_icmp .ge 24, 3) := by decide +kernel
theorem dX2_rightTurns_18 : decode cX2_rightTurns 18 = .ok (.aload_n 1, 1) := by decide +kernel
theorem dX2_rightTurns_19 : decode cX2_rightTurns 19 = .ok (.getfield 116, 3) := by decide +kernel
theorem dX2_rightTurns_22 : decode cX2_rightTurns 22 = .ok (.iload_n 2, 1) := by decide +kernel
theorem dX2_rightTurns_23 : decode cX2_rightTurns 23 = .ok (.iaload, 1) := by decide +kernel
theorem dX2_rightTurns_24 : decode cX2_rightTurns 24 = .ok (.aload_n 0, 1) := by decide +kernel
theorem dX2_rightTurns_25 : decode cX2_rightTurns 25 = .ok (.getfield 21, 3) := by decide +kernel
theorem dX2_rightTurns_28 : decode cX2_rightTurns 28 = .ok (.iload_n 2, 1) := by decide +kernel
theorem dX2_rightTurns_29 : decode cX2_rightTurns 29 = .ok (.iaload, 1) := by decide +kernel
theorem dX2_rightTurns_30 : decode cX2_rightTurns 30 = .ok (.if_icmp .ne 9, 3) := by decide +kernel
theorem dX2_rightTurns_33 : decode cX2_rightTurns 33 = .ok (.iinc 2 1, 3) := by decide +kernel
theorem dX2_rightTurns_36 : decode cX2_rightTurns 36 = .ok (.goto (-34), 3) := by decide +kernel
theorem dX2_rightTurns_39 : decode cX2_rightTurns 39 = .ok (.iload_n 2, 1) := by decide +kernel
theorem dX2_rightTurns_40 : decode cX2_rightTurns 40 = .ok (.ireturn, 1) := by decide +kernel
theorem dX2_rightSaid_0 : decode cX2_rightSaid 0 = .ok (.iconst 0, 1) := by decide +kernel
theorem dX2_rightSaid_1 : decode cX2_rightSaid 1 = .ok (.istore_n 2, 1) := by decide +kernel
theorem dX2_rightSaid_2 : decode cX2_rightSaid 2 = .ok (.iload_n 2, 1) := by decide +kernel
theorem dX2_rightSaid_3 : decode cX2_rightSaid 3 = .ok (.aload_n 1, 1) := by decide +kernel
theorem dX2_rightSaid_4 : decode cX2_rightSaid 4 = .ok (.getfield 111, 3) := by decide +kernel
theorem dX2_rightSaid_7 : decode cX2_rightSaid 7 = .ok (.if_icmp .ge 31, 3) := by decide +kernel
theorem dX2_rightSaid_10 : decode cX2_rightSaid 10 = .ok (.iload_n 2, 1) := by decide +kernel
theorem dX2_rightSaid_11 : decode cX2_rightSaid 11 = .ok (.aload_n 0, 1) := by decide +kernel
theorem dX2_rightSaid_12 : decode cX2_rightSaid 12 = .ok (.getfield 28, 3) := by decide +kernel
theorem dX2_rightSaid_15 : decode cX2_rightSaid 15 = .ok (.if_icmp .ge 23, 3) := by decide +kernel
theorem dX2_rightSaid_18 : decode cX2_rightSaid 18 = .ok (.aload_n 1, 1) := by decide +kernel
theorem dX2_rightSaid_19 : decode cX2_rightSaid 19 = .ok (.getfield 116, 3) := by decide +kernel
theorem dX2_rightSaid_22 : decode cX2_rightSaid 22 = .ok (.iload_n 2, 1) := by decide +kernel
theorem dX2_rightSaid_23 : decode cX2_rightSaid 23 = .ok (.iaload, 1) := by decide +kernel
theorem dX2_rightSaid_24 : decode cX2_rightSaid 24 = .ok (.aload_n 0, 1) := by decide +kernel
theorem dX2_rightSaid_25 : decode cX2_rightSaid 25 = .ok (.iload_n 2, 1) := by decide +kernel
theorem dX2_rightSaid_26 : decode cX2_rightSaid 26 = .ok (.invokevirtual 85, 3) := by decide +kernel
theorem dX2_rightSaid_29 : decode cX2_rightSaid 29 = .ok (.if_icmp .ne 9, 3) := by decide +kernel
theorem dX2_rightSaid_32 : decode cX2_rightSaid 32 = .ok (.iinc 2 1, 3) := by decide +kernel
theorem dX2_rightSaid_35 : decode cX2_rightSaid 35 = .ok (.goto (-33), 3) := by decide +kernel
theorem dX2_rightSaid_38 : decode cX2_rightSaid 38 = .ok (.iload_n 2, 1) := by decide +kernel
theorem dX2_rightSaid_39 : decode cX2_rightSaid 39 = .ok (.ireturn, 1) := by decide +kernel
theorem dX2_changePlaces_0 : decode cX2_changePlaces 0 = .ok (.aload_n 0, 1) := by decide +kernel
theorem dX2_changePlaces_1 : decode cX2_changePlaces 1 = .ok (.getfield 9, 3) := by decide +kernel
theorem dX2_changePlaces_4 : decode cX2_changePlaces 4 = .ok (.iload_n 1, 1) := by decide +kernel
theorem dX2_changePlaces_5 : decode cX2_changePlaces 5 = .ok (.iload_n 2, 1) := by decide +kernel
theorem dX2_changePlaces_6 : decode cX2_changePlaces 6 = .ok (.invokestatic 123, 3) := by decide +kernel
theorem dX2_changePlaces_9 : decode cX2_changePlaces 9 = .ok (.aload_n 0, 1) := by decide +kernel
theorem dX2_changePlaces_10 : decode cX2_changePlaces 10 = .ok (.getfield 15, 3) := by decide +kernel
theorem dX2_changePlaces_13 : decode cX2_changePlaces 13 = .ok (.iload_n 1, 1) := by decide +kernel
theorem dX2_changePlaces_14 : decode cX2_changePlaces 14 = .ok (.iload_n 2, 1) := by decide +kernel
theorem dX2_changePlaces_15 : decode cX2_changePlaces 15 = .ok (.invokestatic 123, 3) := by decide +kernel
theorem dX2_changePlaces_18 : decode cX2_changePlaces 18 = .ok (.aload_n 0, 1) := by decide +kernel
theorem dX2_changePlaces_19 : decode cX2_changePlaces 19 = .ok (.getfield 18, 3) := by decide +kernel
theorem dX2_changePlaces_22 : decode cX2_changePlaces 22 = .ok (.iload_n 1, 1) := by decide +kernel
theorem dX2_changePlaces_23 : decode cX2_changePlaces 23 = .ok (.iload_n 2, 1) := by decide +kernel
theorem dX2_changePlaces_24 : decode cX2_changePlaces 24 = .ok (.invokestatic 123, 3) := by decide +kernel
theorem dX2_changePlaces_27 : decode cX2_changePlaces 27 = .ok (.aload_n 0, 1) := by decide +kernel
theorem dX2_changePlaces_28 : decode cX2_changePlaces 28 = .ok (.getfield 21, 3) := by decide +kernel
theorem dX2_changePlaces_31 : decode cX2_changePlaces 31 = .ok (.iload_n 1, 1) := by decide +kernel
theorem dX2_changePlaces_32 : decode cX2_changePlaces 32 = .ok (.iload_n 2, 1) := by decide +kernel
theorem dX2_changePlaces_33 : decode cX2_changePlaces 33 = .ok (.invokestatic 123, 3) := by decide +kernel
theorem dX2_changePlaces_36 : decode cX2_changePlaces 36 = .ok (.aload_n 0, 1) := by decide +kernel
theorem dX2_changePlaces_37 : decode cX2_changePlaces 37 = .ok (.iload_n 1, 1) := by decide +kernel
theorem dX2_changePlaces_38 : decode cX2_changePlaces 38 = .ok (.invokevirtual 107, 3) := by decide +kernel
theorem dX2_changePlaces_41 : decode cX2_changePlaces 41 = .ok (.istore_n 3, 1) := by decide +kernel
theorem dX2_changePlaces_42 : decode cX2_changePlaces 42 = .ok (.aload_n 0, 1) := by decide +kernel
theorem dX2_changePlaces_43 : decode cX2_changePlaces 43 = .ok (.iload_n 1, 1) := by decide +kernel
theorem dX2_changePlaces_44 : decode cX2_changePlaces 44 = .ok (.aload_n 0, 1) := by decide +kernel
theorem dX2_changePlaces_45 : decode cX2_changePlaces 45 = .ok (.iload_n 2, 1) := by decide +kernel
theorem dX2_changePlaces_46 : decode cX2_changePlaces 46 = .ok (.invokevirtual 107, 3) := by decide +kernel
theorem dX2_changePlaces_49 : decode cX2_changePlaces 49 = .ok (.invokevirtual 127, 3) := by decide +kernel
theorem dX2_changePlaces_52 : decode cX2_changePlaces 52 = .ok (.aload_n 0, 1) := by decide +kernel
theorem dX2_changePlaces_53 : decode cX2_changePlaces 53 = .ok (.iload_n 2, 1) := by decide +kernel
theorem dX2_changePlaces_54 : decode cX2_changePlaces 54 = .ok (.iload_n 3, 1) := by decide +kernel
theorem dX2_changePlaces_55 : decode cX2_changePlaces 55 = .ok (.invokevirtual 127, 3) := by decide +kernel
theorem dX2_changePlaces_58 : decode cX2_changePlaces 58 = .ok (.return_, 1) := by decide +kernel
theorem dX2_changeNumbers_0 : decode cX2_changeNumbers 0 = .ok (.aload_n 0, 1) := by decide +kernel
theorem dX2_changeNumbers_1 : decode cX2_changeNumbers 1 = .ok (.iload_n 1, 1) := by decide +kernel
theorem dX2_changeNumbers_2 : decode cX2_changeNumbers 2 = .ok (.iaload, 1) := by decide +kernel
theorem dX2_changeNumbers_3 : decode cX2_changeNumbers 3 = .ok (.istore_n 3, 1) := by decide +kernel
theorem dX2_changeNumbers_4 : decode cX2_changeNumbers 4 = .ok (.aload_n 0, 1) := by decide +kernel
theorem dX2_changeNumbers_5 : decode cX2_changeNumbers 5 = .ok (.iload_n 1, 1) := by decide +kernel
theorem dX2_changeNumbers_6 : decode cX2_changeNumbers 6 = .ok (.aload_n 0, 1) := by decide +kernel
theorem dX2_changeNumbers_7 : decode cX2_changeNumbers 7 = .ok (.iload_n 2, 1) := by decide +kernel
theorem dX2_changeNumbers_8 : decode cX2_changeNumbers 8 = .ok (.iaload, 1) := by decide +kernel
theorem dX2_changeNumbers_9 : decode cX2_changeNumbers 9 = .ok (.iastore, 1) := by decide +kernel
theorem dX2_changeNumbers_10 : decode cX2_changeNumbers 10 = .ok (.aload_n 0, 1) := by decide +kernel
theorem dX2_changeNumbers_11 : decode cX2_changeNumbers 11 = .ok (.iload_n 2, 1) := by decide +kernel
theorem dX2_changeNumbers_12 : decode cX2_changeNumbers 12 = .ok (.iload_n 3, 1) := by decide +kernel
theorem dX2_changeNumbers_13 : decode cX2_changeNumbers 13 = .ok (.iastore, 1) := by decide +kernel
theorem dX2_changeNumbers_14 : decode cX2_changeNumbers 14 = .ok (.return_, 1) := by decide +kernel
theorem dX6_init_0 : decode cX6_init 0 = .ok (.aload_n 0, 1) := by decide +kernel
theorem dX6_init_1 : decode cX6_init 1 = .ok (.invokespecial 3, 3) := by decide +kernel
theorem dX6_init_4 : decode cX6_init 4 = .ok (.aload_n 0, 1) := by decide +kernel
theorem dX6_init_5 : decode cX6_init 5 = .ok (.iconst (-1), 1) := by decide +kernel
theorem dX6_init_6 : decode cX6_init 6 = .ok (.putfield 9, 3) := by decide +kernel
theorem dX6_init_9 : decode cX6_init 9 = .ok (.aload_n 0, 1) := by decide +kernel
theorem dX6_init_10 : decode cX6_init 10 = .ok (.iconst 0, 1) := by decide +kernel
theorem dX6_init_11 : decode cX6_init 11 = .ok (.putfield 15, 3) := by decide +kernel
theorem dX6_init_14 : decode cX6_init 14 = .ok (.aload_n 0, 1) := by decide +kernel
theorem dX6_init_15 : decode cX6_init 15 = .ok (.aload_n 1, 1) := by decide +kernel
theorem dX6_init_16 : decode cX6_init 16 = .ok (.putfield 18, 3) := by decide +kernel
theorem dX6_init_19 : decode cX6_init 19 = .ok (.aload_n 0, 1) := by decide +kernel
theorem dX6_init_20 : decode cX6_init 20 = .ok (.new 22, 3) := by decide +kernel
theorem dX6_init_23 : decode cX6_init 23 = .ok (.dup, 1) := by decide +kernel
theorem dX6_init_24 : decode cX6_init 24 = .ok (.aload_n 1, 1) := by decide +kernel
theorem dX6_init_25 : decode cX6_init 25 = .ok (.getfield 24, 3) := by decide +kernel
theorem dX6_init_28 : decode cX6_init 28 = .ok (.aload_n 1, 1) := by decide +kernel
theorem dX6_init_29 : decode cX6_init 29 = .ok (.getfield 28, 3) := by decide +kernel
theorem dX6_init_32 : decode cX6_init 32 = .ok (.invokespecial 31, 3) := by decide +kernel
theorem dX6_init_35 : decode cX6_init 35 = .ok (.putfield 34, 3) := by decide +kernel
theorem dX6_init_38 : decode cX6_init 38 = .ok (.return_, 1) := by decide +kernel
theorem dX6_daysOn_0 : decode cX6_daysOn 0 = .ok (.aload_n 0, 1) := by decide +kernel
theorem dX6_daysOn_1 : decode cX6_daysOn 1 = .ok (.getfield 34, 3) := by decide +kernel
theorem dX6_daysOn_4 : decode cX6_daysOn 4 = .ok (.aload_n 0, 1) := by decide +kernel
theorem dX6_daysOn_5 : decode cX6_daysOn 5 = .ok (.getfield 18, 3) := by decide +kernel
theorem dX6_daysOn_8 : decode cX6_daysOn 8 = .ok (.invokevirtual 37, 3) := by decide +kernel
theorem dX6_daysOn_11 : decode cX6_daysOn 11 = .ok (.aload_n 0, 1) := by decide +kernel
theorem dX6_daysOn_12 : decode cX6_daysOn 12 = .ok (.getfield 34, 3) := by decide +kernel
theorem dX6_daysOn_15 : decode cX6_daysOn 15 = .ok (.iload_n 1, 1) := by decide +kernel
theorem dX6_daysOn_16 : decode cX6_daysOn 16 = .ok (.invokevirtual 41, 3) := by decide +kernel
theorem dX6_daysOn_19 : decode cX6_daysOn 19 = .ok (.aload_n 0, 1) := by decide +kernel
theorem dX6_daysOn_20 : decode cX6_daysOn 20 = .ok (.getfield 34, 3) := by decide +kernel
theorem dX6_daysOn_23 : decode cX6_daysOn 23 = .ok (.areturn, 1) := by decide +kernel
theorem dX6_daysUntil_0 : decode cX6_daysUntil 0 = .ok (.aload_n 0, 1) := by decide +kernel
theorem dX6_daysUntil_1 : decode cX6_daysUntil 1 = .ok (.getfield 34, 3) := by decide +kernel
theorem dX6_daysUntil_4 : decode cX6_daysUntil 4 = .ok (.aload_n 0, 1) := by decide +kernel
theorem dX6_daysUntil_5 : decode cX6_daysUntil 5 = .ok (.getfield 18, 3) := by decide +kernel
theorem dX6_daysUntil_8 : decode cX6_daysUntil 8 = .ok (.invokevirtual 37, 3) := by decide +kernel
theorem dX6_daysUntil_11 : decode cX6_daysUntil 11 = .ok (.iconst 0, 1) := by decide +kernel
theorem dX6_daysUntil_12 : decode cX6_daysUntil 12 = .ok (.istore_n 3, 1) := by decide +kernel
theorem dX6_daysUntil_13 : decode cX6_daysUntil 13 = .ok (.iload_n 3, 1) := by decide +kernel
theorem dX6_daysUntil_14 : decode cX6_daysUntil 14 = .ok (.bipush 60, 2) := by decide +kernel
theorem dX6_daysUntil_16 : decode cX6_daysUntil 16 = .ok (.if_icmp .gt 33, 3) := by decide +kernel
theorem dX6_daysUntil_19 : decode cX6_daysUntil 19 = .ok (.aload_n 0, 1) := by decide +kernel
theorem dX6_daysUntil_20 : decode cX6_daysUntil 20 = .ok (.getfield 34, 3) := by decide +kernel
theorem dX6_daysUntil_23 : decode cX6_daysUntil 23 = .ok (.getfield 45, 3) := by decide +kernel
theorem dX6_daysUntil_26 : decode cX6_daysUntil 26 = .ok (.iload_n 1, 1) := by decide +kernel
theorem dX6_daysUntil_27 : decode cX6_daysUntil 27 = .ok (.iaload, 1) := by decide +kernel
theorem dX6_daysUntil_28 : decode cX6_daysUntil 28 = .ok (.iload_n 2, 1) := by decide +kernel
theorem dX6_daysUntil_29 : decode cX6_daysUntil 29 = .ok (.if_icmp .lt 5, 3) := by decide +kernel
theorem dX6_daysUntil_32 : decode cX6_daysUntil 32 = .ok (.iload_n 3, 1) := by decide +kernel
theorem dX6_daysUntil_33 : decode cX6_daysUntil 33 = .ok (.ireturn, 1) := by decide +kernel
theorem dX6_daysUntil_34 : decode cX6_daysUntil 34 = .ok (.aload_n 0, 1) := by decide +kernel
theorem dX6_daysUntil_35 : decode cX6_daysUntil 35 = .ok (.getfield 34, 3) := by decide +kernel
theorem dX6_daysUntil_38 : decode cX6_daysUntil 38 = .ok (.iload_n 1, 1) := by decide +kernel
theorem dX6_daysUntil_39 : decode cX6_daysUntil 39 = .ok (.iconst 1, 1) := by decide +kernel
theorem dX6_daysUntil_40 : decode cX6_daysUntil 40 = .ok (.invokevirtual 49, 3) := by decide +kernel
theorem dX6_daysUntil_43 : decode cX6_daysUntil 43 = .ok (.iinc 3 1, 3) := by decide +kernel
theorem dX6_daysUntil_46 : decode cX6_daysUntil 46 = .ok (.goto (-33), 3) := by decide +kernel
theorem dX6_daysUntil_49 : decode cX6_daysUntil 49 = .ok (.iconst (-1), 1) := by decide +kernel
theorem dX6_daysUntil_50 : decode cX6_daysUntil 50 = .ok (.ireturn, 1) := by decide +kernel
theorem dX6_seekStart_0 : decode cX6_seekStart 0 = .ok (.aload_n 0, 1) := by decide +kernel
theorem dX6_seekStart_1 : decode cX6_seekStart 1 = .ok (.iconst (-1), 1) := by decide +kernel
theorem dX6_seekStart_2 : decode cX6_seekStart 2 = .ok (.putfield 9, 3) := by decide +kernel
theorem dX6_seekStart_5 : decode cX6_seekStart 5 = .ok (.aload_n 0, 1) := by decide +kernel
theorem dX6_seekStart_6 : decode cX6_seekStart 6 = .ok (.iconst (-1), 1) := by decide +kernel
theorem dX6_seekStart_7 : decode cX6_seekStart 7 = .ok (.putfield 15, 3) := by decide +kernel
theorem dX6_seekStart_10 : decode cX6_seekStart 10 = .ok (.iconst 0, 1) := by decide +kernel
theorem dX6_seekStart_11 : decode cX6_seekStart 11 = .ok (.istore_n 3, 1) := by decide +kernel
theorem dX6_seekStart_12 : decode cX6_seekStart 12 = .ok (.iload_n 3, 1) := by decide +kernel
theorem dX6_seekStart_13 : decode cX6_seekStart 13 = .ok (.aload_n 0, 1) := by decide +kernel
theorem dX6_seekStart_14 : decode cX6_seekStart 14 = .ok (.getfield 18, 3) := by decide +kernel
theorem dX6_seekStart_17 : decode cX6_seekStart 17 = .ok (.getfield 53, 3) := by decide +kernel
theorem dX6_seekStart_20 : decode cX6_seekStart 20 = .ok (.if_icmp .ge 71, 3) := by decide +kernel
theorem dX6_seekStart_23 : decode cX6_seekStart 23 = .ok (.aload_n 0, 1) := by decide +kernel
theorem dX6_seekStart_24 : decode cX6_seekStart 24 = .ok (.getfield 34, 3) := by decide +kernel
theorem dX6_seekStart_27 : decode cX6_seekStart 27 = .ok (.aload_n 0, 1) := by decide +kernel
theorem dX6_seekStart_28 : decode cX6_seekStart 28 = .ok (.getfield 18, 3) := by decide +kernel
theorem dX6_seekStart_31 : decode cX6_seekStart 31 = .ok (.invokevirtual 37, 3) := by decide +kernel
theorem dX6_seekStart_34 : decode cX6_seekStart 34 = .ok (.aload_n 0, 1) := by decide +kernel
theorem dX6_seekStart_35 : decode cX6_seekStart 35 = .ok (.getfield 34, 3) := by decide +kernel
theorem dX6_seekStart_38 : decode cX6_seekStart 38 = .ok (.iload_n 3, 1) := by decide +kernel
theorem dX6_seekStart_39 : decode cX6_seekStart 39 = .ok (.putfield 56, 3) := by decide +kernel
theorem dX6_seekStart_42 : decode cX6_seekStart 42 = .ok (.aload_n 0, 1) := by decide +kernel
theorem dX6_seekStart_43 : decode cX6_seekStart 43 = .ok (.getfield 34, 3) := by decide +kernel
theorem dX6_seekStart_46 : decode cX6_seekStart 46 = .ok (.iload_n 1, 1) := by decide +kernel
theorem dX6_seekStart_47 : decode cX6_seekStart 47 = .ok (.iload_n 2, 1) := by decide +kernel
theorem dX6_seekStart_48 : decode cX6_seekStart 48 = .ok (.invokevirtual 49, 3) := by decide +kernel
theorem dX6_seekStart_51 : decode cX6_seekStart 51 = .ok (.aload_n 0, 1) := by decide +kernel
theorem dX6_seekStart_52 : decode cX6_seekStart 52 = .ok (.getfield 34, 3) := by decide +kernel
theorem dX6_seekStart_55 : decode cX6_seekStart 55 = .ok (.getfield 45, 3) := by decide +kernel
theorem dX6_seekStart_58 : decode cX6_seekStart 58 = .ok (.iload_n 1, 1) := by decide +kernel
theorem dX6_seekStart_59 : decode cX6_seekStart 59 = .ok (.iaload, 1) := by decide +kernel
theorem dX6_seekStart_60 : decode cX6_seekStart 60 = .ok (.aload_n 0, 1) := by decide +kernel
theorem dX6_seekStart_61 : decode cX6_seekStart 61 = .ok (.getfield 15, 3) := by decide +kernel
theorem dX6_seekStart_64 : decode cX6_seekStart 64 = .ok (.if_icmp .le 21, 3) := by decide +kernel
theorem dX6_seekStart_67 : decode cX6_seekStart 67 = .ok (.aload_n 0, 1) := by decide +kernel
theorem dX6_seekStart_68 : decode cX6_seekStart 68 = .ok (.iload_n 3, 1) := by decide +kernel
theorem dX6_seekStart_69 : decode cX6_seekStart 69 = .ok (.putfield 9, 3) := by decide +kernel
theorem dX6_seekStart_72 : decode cX6_seekStart 72 = .ok (.aload_n 0, 1) := by decide +kernel
theorem dX6_seekStart_73 : decode cX6_seekStart 73 = .ok (.aload_n 0, 1) := by decide +kernel
theorem dX6_seekStart_74 : decode cX6_seekStart 74 = .ok (.getfield 34, 3) := by decide +kernel
theorem dX6_seekStart_77 : decode cX6_seekStart 77 = .ok (.getfield 45, 3) := by decide +kernel
theorem dX6_seekStart_80 : decode cX6_seekStart 80 = .ok (.iload_n 1, 1) := by decide +kernel
theorem dX6_seekStart_81 : decode cX6_seekStart 81 = .ok (.iaload, 1) := by decide +kernel
theorem dX6_seekStart_82 : decode cX6_seekStart 82 = .ok (.putfield 15, 3) := by decide +kernel
theorem dX6_seekStart_85 : decode cX6_seekStart 85 = .ok (.iinc 3 1, 3) := by decide +kernel
theorem dX6_seekStart_88 : decode cX6_seekStart 88 = .ok (.goto (-76), 3) := by decide +kernel
theorem dX6_seekStart_91 : decode cX6_seekStart 91 = .ok (.return_, 1) := by decide +kernel
theorem dX6_seekSwap_0 : decode cX6_seekSwap 0 = .ok (.aload_n 0, 1) := by decide +kernel
theorem dX6_seekSwap_1 : decode cX6_seekSwap 1 = .ok (.iconst (-1), 1) := by decide +kernel
theorem dX6_seekSwap_2 : decode cX6_seekSwap 2 = .ok (.putfield 9, 3) := by decide +kernel
theorem dX6_seekSwap_5 : decode cX6_seekSwap 5 = .ok (.aload_n 0, 1) := by decide +kernel
theorem dX6_seekSwap_6 : decode cX6_seekSwap 6 = .ok (.getfield 34, 3) := by decide +kernel
theorem dX6_seekSwap_9 : decode cX6_seekSwap 9 = .ok (.aload_n 0, 1) := by decide +kernel
theorem dX6_seekSwap_10 : decode cX6_seekSwap 10 = .ok (.getfield 18, 3) := by decide +kernel
theorem dX6_seekSwap_13 : decode cX6_seekSwap 13 = .ok (.invokevirtual 37, 3) := by decide +kernel
theorem dX6_seekSwap_16 : decode cX6_seekSwap 16 = .ok (.aload_n 0, 1) := by decide +kernel
theorem dX6_seekSwap_17 : decode cX6_seekSwap 17 = .ok (.getfield 34, 3) := by decide +kernel
theorem dX6_seekSwap_20 : decode cX6_seekSwap 20 = .ok (.iload_n 1, 1) := by decide +kernel
theorem dX6_seekSwap_21 : decode cX6_seekSwap 21 = .ok (.invokevirtual 41, 3) := by decide +kernel
theorem dX6_seekSwap_24 : decode cX6_seekSwap 24 = .ok (.aload_n 0, 1) := by decide +kernel
theorem dX6_seekSwap_25 : decode cX6_seekSwap 25 = .ok (.aload_n 0, 1) := by decide +kernel
theorem dX6_seekSwap_26 : decode cX6_seekSwap 26 = .ok (.getfield 34, 3) := by decide +kernel
theorem dX6_seekSwap_29 : decode cX6_seekSwap 29 = .ok (.invokevirtual 59, 3) := by decide +kernel
theorem dX6_seekSwap_32 : decode cX6_seekSwap 32 = .ok (.putfield 15, 3) := by decide +kernel
theorem dX6_seekSwap_35 : decode cX6_seekSwap 35 = .ok (.iconst 0, 1) := by decide +kernel
theorem dX6_seekSwap_36 : decode cX6_seekSwap 36 = .ok (.istore_n 2, 1) := by decide +kernel
theorem dX6_seekSwap_37 : decode cX6_seekSwap 37 = .ok (.iload_n 2, 1) := by decide +kernel
theorem dX6_seekSwap_38 : decode cX6_seekSwap 38 = .ok (.aload_n 0, 1) := by decide +kernel
theorem dX6_seekSwap_39 : decode cX6_seekSwap 39 = .ok (.getfield 18, 3) := by decide +kernel
theorem dX6_seekSwap_42 : decode cX6_seekSwap 42 = .ok (.getfield 53, 3) := by decide +kernel
theorem dX6_seekSwap_45 : decode cX6_seekSwap 45 = .ok (.if_icmp .ge 92, 3) := by decide +kernel
theorem dX6_seekSwap_48 : decode cX6_seekSwap 48 = .ok (.iload_n 2, 1) := by decide +kernel
theorem dX6_seekSwap_49 : decode cX6_seekSwap 49 = .ok (.iconst 1, 1) := by decide +kernel
theorem dX6_seekSwap_50 : decode cX6_seekSwap 50 = .ok (.iadd, 1) := by decide +kernel
theorem dX6_seekSwap_51 : decode cX6_seekSwap 51 = .ok (.istore_n 3, 1) := by decide +kernel
theorem dX6_seekSwap_52 : decode cX6_seekSwap 52 = .ok (.iload_n 3, 1) := by decide +kernel
theorem dX6_seekSwap_53 : decode cX6_seekSwap 53 = .ok (.aload_n 0, 1) := by decide +kernel
theorem dX6_seekSwap_54 : decode cX6_seekSwap 54 = .ok (.getfield 18, 3) := by decide +kernel
theorem dX6_seekSwap_57 : decode cX6_seekSwap 57 = .ok (.getfield 53, 3) := by decide +kernel
theorem dX6_seekSwap_60 : decode cX6_seekSwap 60 = .ok (.if_icmp .ge 71, 3) := by decide +kernel
theorem dX6_seekSwap_63 : decode cX6_seekSwap 63 = .ok (.aload_n 0, 1) := by decide +kernel
theorem dX6_seekSwap_64 : decode cX6_seekSwap 64 = .ok (.getfield 34, 3) := by decide +kernel
theorem dX6_seekSwap_67 : decode cX6_seekSwap 67 = .ok (.aload_n 0, 1) := by decide +kernel
theorem dX6_seekSwap_68 : decode cX6_seekSwap 68 = .ok (.getfield 18, 3) := by decide +kernel
theorem dX6_seekSwap_71 : decode cX6_seekSwap 71 = .ok (.invokevirtual 37, 3) := by decide +kernel
theorem dX6_seekSwap_74 : decode cX6_seekSwap 74 = .ok (.aload_n 0, 1) := by decide +kernel
theorem dX6_seekSwap_75 : decode cX6_seekSwap 75 = .ok (.getfield 34, 3) := by decide +kernel
theorem dX6_seekSwap_78 : decode cX6_seekSwap 78 = .ok (.iload_n 2, 1) := by decide +kernel
theorem dX6_seekSwap_79 : decode cX6_seekSwap 79 = .ok (.iload_n 3, 1) := by decide +kernel
theorem dX6_seekSwap_80 : decode cX6_seekSwap 80 = .ok (.invokevirtual 63, 3) := by decide +kernel
theorem dX6_seekSwap_83 : decode cX6_seekSwap 83 = .ok (.aload_n 0, 1) := by decide +kernel
theorem dX6_seekSwap_84 : decode cX6_seekSwap 84 = .ok (.getfield 34, 3) := by decide +kernel
theorem dX6_seekSwap_87 : decode cX6_seekSwap 87 = .ok (.iload_n 1, 1) := by decide +kernel
theorem dX6_seekSwap_88 : decode cX6_seekSwap 88 = .ok (.invokevirtual 41, 3) := by decide +kernel
theorem dX6_seekSwap_91 : decode cX6_seekSwap 91 = .ok (.aload_n 0, 1) := by decide +kernel
theorem dX6_seekSwap_92 : decode cX6_seekSwap 92 = .ok (.getfield 34, 3) := by decide +kernel
theorem dX6_seekSwap_95 : decode cX6_seekSwap 95 = .ok (.invokevirtual 59, 3) := by decide +kernel
theorem dX6_seekSwap_98 : decode cX6_seekSwap 98 = .ok (.istore 4, 2) := by decide +kernel
theorem dX6_seekSwap_100 : decode cX6_seekSwap 100 = .ok (.iload 4, 2) := by decide +kernel
theorem dX6_seekSwap_102 : decode cX6_seekSwap 102 = .ok (.aload_n 0, 1) := by decide +kernel
theorem dX6_seekSwap_103 : decode cX6_seekSwap 103 = .ok (.getfield 15, 3) := by decide +kernel
theorem dX6_seekSwap_106 : decode cX6_seekSwap 106 = .ok (.if_icmp .ge 19, 3) := by decide +kernel
theorem dX6_seekSwap_109 : decode cX6_seekSwap 109 = .ok (.aload_n 0, 1) := by decide +kernel
theorem dX6_seekSwap_110 : decode cX6_seekSwap 110 = .ok (.bipush 10, 2) := by decide +kernel
theorem dX6_seekSwap_112 : decode cX6_seekSwap 112 = .ok (.iload_n 2, 1) := by decide +kernel
theorem dX6_seekSwap_113 : decode cX6_seekSwap 113 = .ok (.imul, 1) := by decide +kernel
theorem dX6_seekSwap_114 : decode cX6_seekSwap 114 = .ok (.iload_n 3, 1) := by decide +kernel
theorem dX6_seekSwap_115 : decode cX6_seekSwap 115 = .ok (.iadd, 1) := by decide +kernel
theorem dX6_seekSwap_116 : decode cX6_seekSwap 116 = .ok (.putfield 9, 3) := by decide +kernel
theorem dX6_seekSwap_119 : decode cX6_seekSwap 119 = .ok (.aload_n 0, 1) := by decide +kernel
theorem dX6_seekSwap_120 : decode cX6_seekSwap 120 = .ok (.iload 4, 2) := by decide +kernel
theorem dX6_seekSwap_122 : decode cX6_seekSwap 122 = .ok (.putfield 15, 3) := by decide +kernel
theorem dX6_seekSwap_125 : decode cX6_seekSwap 125 = .ok (.iinc 3 1, 3) := by decide +kernel
theorem dX6_seekSwap_128 : decode cX6_seekSwap 128 = .ok (.goto (-76), 3) := by decide +kernel
theorem dX6_seekSwap_131 : decode cX6_seekSwap 131 = .ok (.iinc 2 1, 3) := by decide +kernel
theorem dX6_seekSwap_134 : decode cX6_seekSwap 134 = .ok (.goto (-97), 3) := by decide +kernel
theorem dX6_seekSwap_137 : decode cX6_seekSwap 137 = .ok (.return_, 1) := by decide +kernel
theorem dX6_fewestPast_0 : decode cX6_fewestPast 0 = .ok (.iconst 1, 1) := by decide +kernel
theorem dX6_fewestPast_1 : decode cX6_fewestPast 1 = .ok (.aload_n 0, 1) := by decide +kernel
theorem dX6_fewestPast_2 : decode cX6_fewestPast 2 = .ok (.getfield 18, 3) := by decide +kernel
theorem dX6_fewestPast_5 : decode cX6_fewestPast 5 = .ok (.getfield 53, 3) := by decide +kernel
theorem dX6_fewestPast_8 : decode cX6_fewestPast 8 = .ok (.ishl, 1) := by decide +kernel
theorem dX6_fewestPast_9 : decode cX6_fewestPast 9 = .ok (.istore_n 3, 1) := by decide +kernel
theorem dX6_fewestPast_10 : decode cX6_fewestPast 10 = .ok (.iconst 0, 1) := by decide +kernel
theorem dX6_fewestPast_11 : decode cX6_fewestPast 11 = .ok (.istore 4, 2) := by decide +kernel
theorem dX6_fewestPast_13 : decode cX6_fewestPast 13 = .ok (.iload 4, 2) := by decide +kernel
theorem dX6_fewestPast_15 : decode cX6_fewestPast 15 = .ok (.aload_n 0, 1) := by decide +kernel
theorem dX6_fewestPast_16 : decode cX6_fewestPast 16 = .ok (.getfield 18, 3) := by decide +kernel
theorem dX6_fewestPast_19 : decode cX6_fewestPast 19 = .ok (.getfield 53, 3) := by decide +kernel
theorem dX6_fewestPast_22 : decode cX6_fewestPast 22 = .ok (.if_icmp .gt 61, 3) := by decide +kernel
theorem dX6_fewestPast_25 : decode cX6_fewestPast 25 = .ok (.iconst 0, 1) := by decide +kernel
theorem dX6_fewestPast_26 : decode cX6_fewestPast 26 = .ok (.istore 5, 2) := by decide +kernel
theorem dX6_fewestPast_28 : decode cX6_fewestPast 28 = .ok (.iload 5, 2) := by decide +kernel
theorem dX6_fewestPast_30 : decode cX6_fewestPast 30 = .ok (.iload_n 3, 1) := by decide +kernel
theorem dX6_fewestPast_31 : decode cX6_fewestPast 31 = .ok (.if_icmp .ge 46, 3) := by decide +kernel
theorem dX6_fewestPast_34 : decode cX6_fewestPast 34 = .ok (.iload 5, 2) := by decide +kernel
theorem dX6_fewestPast_36 : decode cX6_fewestPast 36 = .ok (.invokestatic 66, 3) := by decide +kernel
theorem dX6_fewestPast_39 : decode cX6_fewestPast 39 = .ok (.iload 4, 2) := by decide +kernel
theorem dX6_fewestPast_41 : decode cX6_fewestPast 41 = .ok (.if_icmp .ne 30, 3) := by decide +kernel
theorem dX6_fewestPast_44 : decode cX6_fewestPast 44 = .ok (.iload 5, 2) := by decide +kernel
theorem dX6_fewestPast_46 : decode cX6_fewestPast 46 = .ok (.aload_n 0, 1) := by decide +kernel
theorem dX6_fewestPast_47 : decode cX6_fewestPast 47 = .ok (.getfield 18, 3) := by decide +kernel
theorem dX6_fewestPast_50 : decode cX6_fewestPast 50 = .ok (.getfield 72, 3) := by decide +kernel
theorem dX6_fewestPast_53 : decode cX6_fewestPast 53 = .ok (.iand, 1) := by decide +kernel
theorem dX6_fewestPast_54 : decode cX6_fewestPast 54 = .ok (.ifCond .ne 17, 3) := by decide +kernel
theorem dX6_fewestPast_57 : decode cX6_fewestPast 57 = .ok (.aload_n 0, 1) := by decide +kernel
theorem dX6_fewestPast_58 : decode cX6_fewestPast 58 = .ok (.iload 5, 2) := by decide +kernel
theorem dX6_fewestPast_60 : decode cX6_fewestPast 60 = .ok (.iload_n 1, 1) := by decide +kernel
theorem dX6_fewestPast_61 : decode cX6_fewestPast 61 = .ok (.invokevirtual 75, 3) := by decide +kernel
theorem dX6_fewestPast_64 : decode cX6_fewestPast 64 = .ok (.iload_n 2, 1) := by decide +kernel
theorem dX6_fewestPast_65 : decode cX6_fewestPast 65 = .ok (.if_icmp .gt 6, 3) := by decide +kernel
theorem dX6_fewestPast_68 : decode cX6_fewestPast 68 = .ok (.iload 5, 2) := by decide +kernel
theorem dX6_fewestPast_70 : decode cX6_fewestPast 70 = .ok (.ireturn, 1) := by decide +kernel
theorem dX6_fewestPast_71 : decode cX6_fewestPast 71 = .ok (.iinc 5 1, 3) := by decide +kernel
theorem dX6_fewestPast_74 : decode cX6_fewestPast 74 = .ok (.goto (-46), 3) := by decide +kernel
theorem dX6_fewestPast_77 : decode cX6_fewestPast 77 = .ok (.iinc 4 1, 3) := by decide +kernel
theorem dX6_fewestPast_80 : decode cX6_fewestPast 80 = .ok (.goto (-67), 3) := by decide +kernel
theorem dX6_fewestPast_83 : decode cX6_fewestPast 83 = .ok (.iconst (-1), 1) := by decide +kernel
theorem dX6_fewestPast_84 : decode cX6_fewestPast 84 = .ok (.ireturn, 1) := by decide +kernel
theorem dX6_viewWithout_0 : decode cX6_viewWithout 0 = .ok (.aload_n 0, 1) := by decide +kernel
theorem dX6_viewWithout_1 : decode cX6_viewWithout 1 = .ok (.getfield 34, 3) := by decide +kernel
theorem dX6_viewWithout_4 : decode cX6_viewWithout 4 = .ok (.aload_n 0, 1) := by decide +kernel
theorem dX6_viewWithout_5 : decode cX6_viewWithout 5 = .ok (.getfield 18, 3) := by decide +kernel
theorem dX6_viewWithout_8 : decode cX6_viewWithout 8 = .ok (.invokevirtual 37, 3) := by decide +kernel
theorem dX6_viewWithout_11 : decode cX6_viewWithout 11 = .ok (.aload_n 0, 1) := by decide +kernel
theorem dX6_viewWithout_12 : decode cX6_viewWithout 12 = .ok (.getfield 34, 3) := by decide +kernel
theorem dX6_viewWithout_15 : decode cX6_viewWithout 15 = .ok (.aload_n 0, 1) := by decide +kernel
theorem dX6_viewWithout_16 : decode cX6_viewWithout 16 = .ok (.getfield 18, 3) := by decide +kernel
theorem dX6_viewWithout_19 : decode cX6_viewWithout 19 = .ok (.getfield 72, 3) := by decide +kernel
theorem dX6_viewWithout_22 : decode cX6_viewWithout 22 = .ok (.iload_n 1, 1) := by decide +kernel
theorem dX6_viewWithout_23 : decode cX6_viewWithout 23 = .ok (.ior, 1) := by decide +kernel
theorem dX6_viewWithout_24 : decode cX6_viewWithout 24 = .ok (.putfield 72, 3) := by decide +kernel
theorem dX6_viewWithout_27 : decode cX6_viewWithout 27 = .ok (.iconst 0, 1) := by decide +kernel
theorem dX6_viewWithout_28 : decode cX6_viewWithout 28 = .ok (.istore_n 3, 1) := by decide +kernel
theorem dX6_viewWithout_29 : decode cX6_viewWithout 29 = .ok (.iload_n 3, 1) := by decide +kernel
theorem dX6_viewWithout_30 : decode cX6_viewWithout 30 = .ok (.iload_n 2, 1) := by decide +kernel
theorem dX6_viewWithout_31 : decode cX6_viewWithout 31 = .ok (.if_icmp .ge 16, 3) := by decide +kernel
theorem dX6_viewWithout_34 : decode cX6_viewWithout 34 = .ok (.aload_n 0, 1) := by decide +kernel
theorem dX6_viewWithout_35 : decode cX6_viewWithout 35 = .ok (.getfield 34, 3) := by decide +kernel
theorem dX6_viewWithout_38 : decode cX6_viewWithout 38 = .ok (.invokevirtual 79, 3) := by decide +kernel
theorem dX6_viewWithout_41 : decode cX6_viewWithout 41 = .ok (.iinc 3 1, 3) := by decide +kernel
theorem dX6_viewWithout_44 : decode cX6_viewWithout 44 = .ok (.goto (-15), 3) := by decide +kernel
theorem dX6_viewWithout_47 : decode cX6_viewWithout 47 = .ok (.aload_n 0, 1) := by decide +kernel
theorem dX6_viewWithout_48 : decode cX6_viewWithout 48 = .ok (.getfield 34, 3) := by decide +kernel
theorem dX6_viewWithout_51 : decode cX6_viewWithout 51 = .ok (.getfield 82, 3) := by decide +kernel
theorem dX6_viewWithout_54 : decode cX6_viewWithout 54 = .ok (.ireturn, 1) := by decide +kernel
theorem dX6_likelyViews_0 : decode cX6_likelyViews 0 = .ok (.iconst 0, 1) := by decide +kernel
theorem dX6_likelyViews_1 : decode cX6_likelyViews 1 = .ok (.istore 4, 2) := by decide +kernel
theorem dX6_likelyViews_3 : decode cX6_likelyViews 3 = .ok (.iconst 0, 1) := by decide +kernel
theorem dX6_likelyViews_4 : decode cX6_likelyViews 4 = .ok (.istore 5, 2) := by decide +kernel
theorem dX6_likelyViews_6 : decode cX6_likelyViews 6 = .ok (.iload 5, 2) := by decide +kernel
theorem dX6_likelyViews_8 : decode cX6_likelyViews 8 = .ok (.bipush 99, 2) := by decide +kernel
theorem dX6_likelyViews_10 : decode cX6_likelyViews 10 = .ok (.if_icmp .gt 54, 3) := by decide +kernel
theorem dX6_likelyViews_13 : decode cX6_likelyViews 13 = .ok (.aload_n 0, 1) := by decide +kernel
theorem dX6_likelyViews_14 : decode cX6_likelyViews 14 = .ok (.getfield 34, 3) := by decide +kernel
theorem dX6_likelyViews_17 : decode cX6_likelyViews 17 = .ok (.aload_n 0, 1) := by decide +kernel
theorem dX6_likelyViews_18 : decode cX6_likelyViews 18 = .ok (.getfield 18, 3) := by decide +kernel
theorem dX6_likelyViews_21 : decode cX6_likelyViews 21 = .ok (.invokevirtual 37, 3) := by decide +kernel
theorem dX6_likelyViews_24 : decode cX6_likelyViews 24 = .ok (.aload_n 0, 1) := by decide +kernel
theorem dX6_likelyViews_25 : decode cX6_likelyViews 25 = .ok (.getfield 34, 3) := by decide +kernel
theorem dX6_likelyViews_28 : decode cX6_likelyViews 28 = .ok (.iload 5, 2) := by decide +kernel
theorem dX6_likelyViews_30 : decode cX6_likelyViews 30 = .ok (.putfield 82, 3) := by decide +kernel
theorem dX6_likelyViews_33 : decode cX6_likelyViews 33 = .ok (.aload_n 0, 1) := by decide +kernel
theorem dX6_likelyViews_34 : decode cX6_likelyViews 34 = .ok (.getfield 34, 3) := by decide +kernel
theorem dX6_likelyViews_37 : decode cX6_likelyViews 37 = .ok (.iload_n 1, 1) := by decide +kernel
theorem dX6_likelyViews_38 : decode cX6_likelyViews 38 = .ok (.iload_n 3, 1) := by decide +kernel
theorem dX6_likelyViews_39 : decode cX6_likelyViews 39 = .ok (.invokevirtual 49, 3) := by decide +kernel
theorem dX6_likelyViews_42 : decode cX6_likelyViews 42 = .ok (.aload_n 0, 1) := by decide +kernel
theorem dX6_likelyViews_43 : decode cX6_likelyViews 43 = .ok (.getfield 34, 3) := by decide +kernel
theorem dX6_likelyViews_46 : decode cX6_likelyViews 46 = .ok (.getfield 45, 3) := by decide +kernel
theorem dX6_likelyViews_49 : decode cX6_likelyViews 49 = .ok (.iload_n 1, 1) := by decide +kernel
theorem dX6_likelyViews_50 : decode cX6_likelyViews 50 = .ok (.iaload, 1) := by decide +kernel
theorem dX6_likelyViews_51 : decode cX6_likelyViews 51 = .ok (.iload_n 2, 1) := by decide +kernel
theorem dX6_likelyViews_52 : decode cX6_likelyViews 52 = .ok (.if_icmp .lt 6, 3) := by decide +kernel
theorem dX6_likelyViews_55 : decode cX6_likelyViews 55 = .ok (.iinc 4 1, 3) := by decide +kernel
theorem dX6_likelyViews_58 : decode cX6_likelyViews 58 = .ok (.iinc 5 1, 3) := by decide +kernel
theorem dX6_likelyViews_61 : decode cX6_likelyViews 61 = .ok (.goto (-55), 3) := by decide +kernel
theorem dX6_likelyViews_64 : decode cX6_likelyViews 64 = .ok (.iload 4, 2) := by decide +kernel
theorem dX6_likelyViews_66 : decode cX6_likelyViews 66 = .ok (.ireturn, 1) := by decide +kernel
theorem dX6_placesThatFit_0 : decode cX6_placesThatFit 0 = .ok (.iconst 0, 1) := by decide +kernel
theorem dX6_placesThatFit_1 : decode cX6_placesThatFit 1 = .ok (.istore_n 2, 1) := by decide +kernel
theorem dX6_placesThatFit_2 : decode cX6_placesThatFit 2 = .ok (.iconst 0, 1) := by decide +kernel
theorem dX6_placesThatFit_3 : decode cX6_placesThatFit 3 = .ok (.istore_n 3, 1) := by decide +kernel
theorem dX6_placesThatFit_4 : decode cX6_placesThatFit 4 = .ok (.iload_n 3, 1) := by decide +kernel
theorem dX6_placesThatFit_5 : decode cX6_placesThatFit 5 = .ok (.aload_n 0, 1) := by decide +kernel
theorem dX6_placesThatFit_6 : decode cX6_placesThatFit 6 = .ok (.getfield 18, 3) := by decide +kernel
theorem dX6_placesThatFit_9 : decode cX6_placesThatFit 9 = .ok (.getfield 53, 3) := by decide +kernel
theorem dX6_placesThatFit_12 : decode cX6_placesThatFit 12 = .ok (.if_icmp .ge 24, 3) := by decide +kernel
theorem dX6_placesThatFit_15 : decode cX6_placesThatFit 15 = .ok (.aload_n 0, 1) := by decide +kernel
theorem dX6_placesThatFit_16 : decode cX6_placesThatFit 16 = .ok (.iload_n 3, 1) := by decide +kernel
theorem dX6_placesThatFit_17 : decode cX6_placesThatFit 17 = .ok (.aload_n 1, 1) := by decide +kernel
theorem dX6_placesThatFit_18 : decode cX6_placesThatFit 18 = .ok (.invokevirtual 85, 3) := by decide +kernel
theorem dX6_placesThatFit_21 : decode cX6_placesThatFit 21 = .ok (.ifCond .eq 9, 3) := by decide +kernel
theorem dX6_placesThatFit_24 : decode cX6_placesThatFit 24 = .ok (.iload_n 2, 1) := by decide +kernel
theorem dX6_placesThatFit_25 : decode cX6_placesThatFit 25 = .ok (.iconst 1, 1) := by decide +kernel
theorem dX6_placesThatFit_26 : decode cX6_placesThatFit 26 = .ok (.iload_n 3, 1) := by decide +kernel
theorem dX6_placesThatFit_27 : decode cX6_placesThatFit 27 = .ok (.ishl, 1) := by decide +kernel
theorem dX6_placesThatFit_28 : decode cX6_placesThatFit 28 = .ok (.ior, 1) := by decide +kernel
theorem dX6_placesThatFit_29 : decode cX6_placesThatFit 29 = .ok (.istore_n 2, 1) := by decide +kernel
theorem dX6_placesThatFit_30 : decode cX6_placesThatFit 30 = .ok (.iinc 3 1, 3) := by decide +kernel
theorem dX6_placesThatFit_33 : decode cX6_placesThatFit 33 = .ok (.goto (-29), 3) := by decide +kernel
theorem dX6_placesThatFit_36 : decode cX6_placesThatFit 36 = .ok (.iload_n 2, 1) := by decide +kernel
theorem dX6_placesThatFit_37 : decode cX6_placesThatFit 37 = .ok (.ireturn, 1) := by decide +kernel
theorem dX6_isFitting_0 : decode cX6_isFitting 0 = .ok (.aload_n 0, 1) := by decide +kernel
theorem dX6_isFitting_1 : decode cX6_isFitting 1 = .ok (.getfield 34, 3) := by decide +kernel
theorem dX6_isFitting_4 : decode cX6_isFitting 4 = .ok (.aload_n 0, 1) := by decide +kernel
theorem dX6_isFitting_5 : decode cX6_isFitting 5 = .ok (.getfield 18, 3) := by decide +kernel
theorem dX6_isFitting_8 : decode cX6_isFitting 8 = .ok (.invokevirtual 37, 3) := by decide +kernel
theorem dX6_isFitting_11 : decode cX6_isFitting 11 = .ok (.aload_n 0, 1) := by decide +kernel
theorem dX6_isFitting_12 : decode cX6_isFitting 12 = .ok (.getfield 34, 3) := by decide +kernel
theorem dX6_isFitting_15 : decode cX6_isFitting 15 = .ok (.iload_n 1, 1) := by decide +kernel
theorem dX6_isFitting_16 : decode cX6_isFitting 16 = .ok (.putfield 56, 3) := by decide +kernel
theorem dX6_isFitting_19 : decode cX6_isFitting 19 = .ok (.iconst 0, 1) := by decide +kernel
theorem dX6_isFitting_20 : decode cX6_isFitting 20 = .ok (.istore_n 3, 1) := by decide +kernel
theorem dX6_isFitting_21 : decode cX6_isFitting 21 = .ok (.iload_n 3, 1) := by decide +kernel
theorem dX6_isFitting_22 : decode cX6_isFitting 22 = .ok (.aload_n 2, 1) := by decide +kernel
theorem dX6_isFitting_23 : decode cX6_isFitting 23 = .ok (.getfield 89, 3) := by decide +kernel
theorem dX6_isFitting_26 : decode cX6_isFitting 26 = .ok (.if_icmp .ge 34, 3) := by decide +kernel
theorem dX6_isFitting_29 : decode cX6_isFitting 29 = .ok (.aload_n 0, 1) := by decide +kernel
theorem dX6_isFitting_30 : decode cX6_isFitting 30 = .ok (.getfield 34, 3) := by decide +kernel
theorem dX6_isFitting_33 : decode cX6_isFitting 33 = .ok (.getfield 82, 3) := by decide +kernel
theorem dX6_isFitting_36 : decode cX6_isFitting 36 = .ok (.aload_n 2, 1) := by decide +kernel
theorem dX6_isFitting_37 : decode cX6_isFitting 37 = .ok (.getfield 94, 3) := by decide +kernel
theorem dX6_isFitting_40 : decode cX6_isFitting 40 = .ok (.iload_n 3, 1) := by decide +kernel
theorem dX6_isFitting_41 : decode cX6_isFitting 41 = .ok (.iaload, 1) := by decide +kernel
theorem dX6_isFitting_42 : decode cX6_isFitting 42 = .ok (.if_icmp .eq 5, 3) := by decide +kernel
theorem dX6_isFitting_45 : decode cX6_isFitting 45 = .ok (.iconst 0, 1) := by decide +kernel
theorem dX6_isFitting_46 : decode cX6_isFitting 46 = .ok (.ireturn, 1) := by decide +kernel
theorem dX6_isFitting_47 : decode cX6_isFitting 47 = .ok (.aload_n 0, 1) := by decide +kernel
theorem dX6_isFitting_48 : decode cX6_isFitting 48 = .ok (.getfield 34, 3) := by decide +kernel
theorem dX6_isFitting_51 : decode cX6_isFitting 51 = .ok (.invokevirtual 79, 3) := by decide +kernel
theorem dX6_isFitting_54 : decode cX6_isFitting 54 = .ok (.iinc 3 1, 3) := by decide +kernel
theorem dX6_isFitting_57 : decode cX6_isFitting 57 = .ok (.goto (-36), 3) := by decide +kernel
theorem dX6_isFitting_60 : decode cX6_isFitting 60 = .ok (.iconst 1, 1) := by decide +kernel
theorem dX6_isFitting_61 : decode cX6_isFitting 61 = .ok (.ireturn, 1) := by decide +kernel
theorem dX7_init_0 : decode cX7_init 0 = .ok (.aload_n 0, 1) := by decide +kernel
theorem dX7_init_1 : decode cX7_init 1 = .ok (.invokespecial 3, 3) := by decide +kernel
theorem dX7_init_4 : decode cX7_init 4 = .ok (.aload_n 0, 1) := by decide +kernel
theorem dX7_init_5 : decode cX7_init 5 = .ok (.new 9, 3) := by decide +kernel
theorem dX7_init_8 : decode cX7_init 8 = .ok (.dup, 1) := by decide +kernel
theorem dX7_init_9 : decode cX7_init 9 = .ok (.bipush 30, 2) := by decide +kernel
theorem dX7_init_11 : decode cX7_init 11 = .ok (.invokespecial 11, 3) := by decide +kernel
theorem dX7_init_14 : decode cX7_init 14 = .ok (.putfield 14, 3) := by decide +kernel
theorem dX7_init_17 : decode cX7_init 17 = .ok (.aload_n 0, 1) := by decide +kernel
theorem dX7_init_18 : decode cX7_init 18 = .ok (.iconst 0, 1) := by decide +kernel
theorem dX7_init_19 : decode cX7_init 19 = .ok (.putfield 20, 3) := by decide +kernel
theorem dX7_init_22 : decode cX7_init 22 = .ok (.aload_n 0, 1) := by decide +kernel
theorem dX7_init_23 : decode cX7_init 23 = .ok (.iconst 0, 1) := by decide +kernel
theorem dX7_init_24 : decode cX7_init 24 = .ok (.putfield 24, 3) := by decide +kernel
theorem dX7_init_27 : decode cX7_init 27 = .ok (.aload_n 0, 1) := by decide +kernel
theorem dX7_init_28 : decode cX7_init 28 = .ok (.iconst 0, 1) := by decide +kernel
theorem dX7_init_29 : decode cX7_init 29 = .ok (.putfield 28, 3) := by decide +kernel
theorem dX7_init_32 : decode cX7_init 32 = .ok (.aload_n 0, 1) := by decide +kernel
theorem dX7_init_33 : decode cX7_init 33 = .ok (.iconst 0, 1) := by decide +kernel
theorem dX7_init_34 : decode cX7_init 34 = .ok (.putfield 31, 3) := by decide +kernel
theorem dX7_init_37 : decode cX7_init 37 = .ok (.return_, 1) := by decide +kernel
theorem dX7_answer_0 : decode cX7_answer 0 = .ok (.aload_n 0, 1) := by decide +kernel
theorem dX7_answer_1 : decode cX7_answer 1 = .ok (.getfield 14, 3) := by decide +kernel
theorem dX7_answer_4 : decode cX7_answer 4 = .ok (.invokevirtual 34, 3) := by decide +kernel
theorem dX7_answer_7 : decode cX7_answer 7 = .ok (.aload_n 0, 1) := by decide +kernel
theorem dX7_answer_8 : decode cX7_answer 8 = .ok (.iconst 0, 1) := by decide +kernel
theorem dX7_answer_9 : decode cX7_answer 9 = .ok (.putfield 20, 3) := by decide +kernel
theorem dX7_answer_12 : decode cX7_answer 12 = .ok (.aload_n 0, 1) := by decide +kernel
theorem dX7_answer_13 : decode cX7_answer 13 = .ok (.aload_n 1, 1) := by decide +kernel
theorem dX7_answer_14 : decode cX7_answer 14 = .ok (.getfield 37, 3) := by decide +kernel
theorem dX7_answer_17 : decode cX7_answer 17 = .ok (.iload_n 2, 1) := by decide +kernel
theorem dX7_answer_18 : decode cX7_answer 18 = .ok (.iaload, 1) := by decide +kernel
theorem dX7_answer_19 : decode cX7_answer 19 = .ok (.putfield 24, 3) := by decide +kernel
theorem dX7_answer_22 : decode cX7_answer 22 = .ok (.aload_n 0, 1) := by decide +kernel
theorem dX7_answer_23 : decode cX7_answer 23 = .ok (.iload_n 2, 1) := by decide +kernel
theorem dX7_answer_24 : decode cX7_answer 24 = .ok (.putfield 28, 3) := by decide +kernel
theorem dX7_answer_27 : decode cX7_answer 27 = .ok (.aload_n 0, 1) := by decide +kernel
theorem dX7_answer_28 : decode cX7_answer 28 = .ok (.aload_n 1, 1) := by decide +kernel
theorem dX7_answer_29 : decode cX7_answer 29 = .ok (.getfield 43, 3) := by decide +kernel
theorem dX7_answer_32 : decode cX7_answer 32 = .ok (.iload_n 2, 1) := by decide +kernel
theorem dX7_answer_33 : decode cX7_answer 33 = .ok (.iaload, 1) := by decide +kernel
theorem dX7_answer_34 : decode cX7_answer 34 = .ok (.putfield 31, 3) := by decide +kernel
theorem dX7_answer_37 : decode cX7_answer 37 = .ok (.aload_n 0, 1) := by decide +kernel
theorem dX7_answer_38 : decode cX7_answer 38 = .ok (.iload_n 3, 1) := by decide +kernel
theorem dX7_answer_39 : decode cX7_answer 39 = .ok (.aload_n 0, 1) := by decide +kernel
theorem dX7_answer_40 : decode cX7_answer 40 = .ok (.getfield 24, 3) := by decide +kernel
theorem dX7_answer_43 : decode cX7_answer 43 = .ok (.iload 4, 2) := by decide +kernel
theorem dX7_answer_45 : decode cX7_answer 45 = .ok (.iconst 0, 1) := by decide +kernel
theorem dX7_answer_46 : decode cX7_answer 46 = .ok (.invokevirtual 46, 3) := by decide +kernel
theorem dX7_answer_49 : decode cX7_answer 49 = .ok (.ireturn, 1) := by decide +kernel
theorem dX7_speak_0 : decode cX7_speak 0 = .ok (.aload_n 0, 1) := by decide +kernel
theorem dX7_speak_1 : decode cX7_speak 1 = .ok (.getfield 20, 3) := by decide +kernel
theorem dX7_speak_4 : decode cX7_speak 4 = .ok (.ifCond .ne 10, 3) := by decide +kernel
theorem dX7_speak_7 : decode cX7_speak 7 = .ok (.iload 4, 2) := by decide +kernel
theorem dX7_speak_9 : decode cX7_speak 9 = .ok (.bipush 10, 2) := by decide +kernel
theorem dX7_speak_11 : decode cX7_speak 11 = .ok (.if_icmp .le 5, 3) := by decide +kernel
theorem dX7_speak_14 : decode cX7_speak 14 = .ok (.iconst 0, 1) := by decide +kernel
theorem dX7_speak_15 : decode cX7_speak 15 = .ok (.ireturn, 1) := by decide +kernel
theorem dX7_speak_16 : decode cX7_speak 16 = .ok (.iload_n 1, 1) := by decide +kernel
theorem dX7_speak_17 : decode cX7_speak 17 = .ok (.iload_n 2, 1) := by decide +kernel
theorem dX7_speak_18 : decode cX7_speak 18 = .ok (.invokestatic 50, 3) := by decide +kernel
theorem dX7_speak_21 : decode cX7_speak 21 = .ok (.istore 5, 2) := by decide +kernel
theorem dX7_speak_23 : decode cX7_speak 23 = .ok (.getstatic 54, 3) := by decide +kernel
theorem dX7_speak_26 : decode cX7_speak 26 = .ok (.iconst 4, 1) := by decide +kernel
theorem dX7_speak_27 : decode cX7_speak 27 = .ok (.iload 5, 2) := by decide +kernel
theorem dX7_speak_29 : decode cX7_speak 29 = .ok (.imul, 1) := by decide +kernel
theorem dX7_speak_30 : decode cX7_speak 30 = .ok (.iload_n 1, 1) := by decide +kernel
theorem dX7_speak_31 : decode cX7_speak 31 = .ok (.iadd, 1) := by decide +kernel
theorem dX7_speak_32 : decode cX7_speak 32 = .ok (.iaload, 1) := by decide +kernel
theorem dX7_speak_33 : decode cX7_speak 33 = .ok (.istore 6, 2) := by decide +kernel
theorem dX7_speak_35 : decode cX7_speak 35 = .ok (.getstatic 57, 3) := by decide +kernel
theorem dX7_speak_38 : decode cX7_speak 38 = .ok (.iload 5, 2) := by decide +kernel
theorem dX7_speak_40 : decode cX7_speak 40 = .ok (.iaload, 1) := by decide +kernel
theorem dX7_speak_41 : decode cX7_speak 41 = .ok (.istore 7, 2) := by decide +kernel
theorem dX7_speak_43 : decode cX7_speak 43 = .ok (.iload 4, 2) := by decide +kernel
theorem dX7_speak_45 : decode cX7_speak 45 = .ok (.iconst 1, 1) := by decide +kernel
theorem dX7_speak_46 : decode cX7_speak 46 = .ok (.iadd, 1) := by decide +kernel
theorem dX7_speak_47 : decode cX7_speak 47 = .ok (.istore 8, 2) := by decide +kernel
theorem dX7_speak_49 : decode cX7_speak 49 = .ok (.aload_n 0, 1) := by decide +kernel
theorem dX7_speak_50 : decode cX7_speak 50 = .ok (.getfield 14, 3) := by decide +kernel
theorem dX7_speak_53 : decode cX7_speak 53 = .ok (.iload 6, 2) := by decide +kernel
theorem dX7_speak_55 : decode cX7_speak 55 = .ok (.invokevirtual 60, 3) := by decide +kernel
theorem dX7_speak_58 : decode cX7_speak 58 = .ok (.iload 6, 2) := by decide +kernel
theorem dX7_speak_60 : decode cX7_speak 60 = .ok (.lookupswitch 286 #[(10, 116), (11, 123), (12, 138), (13, 156), (20, 162), (21, 175), (30, 199), (40, 212), (50, 225), (51, 238), (60, 254), (70, 267), (71, 270)], 116) := by decide +kernel
theorem dX7_speak_176 : decode cX7_speak 176 = .ok (.iload_n 3, 1) := by decide +kernel
theorem dX7_speak_177 : decode cX7_speak 177 = .ok (.aload_n 0, 1) := by decide +kernel
theorem dX7_speak_178 : decode cX7_speak 178 = .ok (.getfield 28, 3) := by decide +kernel
theorem dX7_speak_181 : decode cX7_speak 181 = .ok (.iadd, 1) := by decide +kernel
theorem dX7_speak_182 : decode cX7_speak 182 = .ok (.ireturn, 1) := by decide +kernel
theorem dX7_speak_183 : decode cX7_speak 183 = .ok (.aload_n 0, 1) := by decide +kernel
theorem dX7_speak_184 : decode cX7_speak 184 = .ok (.iconst 0, 1) := by decide +kernel
theorem dX7_speak_185 : decode cX7_speak 185 = .ok (.aload_n 0, 1) := by decide +kernel
theorem dX7_speak_186 : decode cX7_speak 186 = .ok (.getfield 24, 3) := by decide +kernel
theorem dX7_speak_189 : decode cX7_speak 189 = .ok (.iload_n 3, 1) := by decide +kernel
theorem dX7_speak_190 : decode cX7_speak 190 = .ok (.iload 8, 2) := by decide +kernel
theorem dX7_speak_192 : decode cX7_speak 192 = .ok (.invokevirtual 46, 3) := by decide +kernel
theorem dX7_speak_195 : decode cX7_speak 195 = .ok (.iconst 2, 1) := by decide +kernel
theorem dX7_speak_196 : decode cX7_speak 196 = .ok (.imul, 1) := by decide +kernel
theorem dX7_speak_197 : decode cX7_speak 197 = .ok (.ireturn, 1) := by decide +kernel
theorem dX7_speak_198 : decode cX7_speak 198 = .ok (.aload_n 0, 1) := by decide +kernel
theorem dX7_speak_199 : decode cX7_speak 199 = .ok (.iconst 1, 1) := by decide +kernel
theorem dX7_speak_200 : decode cX7_speak 200 = .ok (.aload_n 0, 1) := by decide +kernel
theorem dX7_speak_201 : decode cX7_speak 201 = .ok (.getfield 24, 3) := by decide +kernel
theorem dX7_speak_204 : decode cX7_speak 204 = .ok (.iload_n 3, 1) := by decide +kernel
theorem dX7_speak_205 : decode cX7_speak 205 = .ok (.iload 8, 2) := by decide +kernel
theorem dX7_speak_207 : decode cX7_speak 207 = .ok (.invokevirtual 46, 3) := by decide +kernel
theorem dX7_speak_210 : decode cX7_speak 210 = .ok (.aload_n 0, 1) := by decide +kernel
theorem dX7_speak_211 : decode cX7_speak 211 = .ok (.getfield 31, 3) := by decide +kernel
theorem dX7_speak_214 : decode cX7_speak 214 = .ok (.isub, 1) := by decide +kernel
theorem dX7_speak_215 : decode cX7_speak 215 = .ok (.ireturn, 1) := by decide +kernel
theorem dX7_speak_216 : decode cX7_speak 216 = .ok (.aload_n 0, 1) := by decide +kernel
theorem dX7_speak_217 : decode cX7_speak 217 = .ok (.iload_n 3, 1) := by decide +kernel
theorem dX7_speak_218 : decode cX7_speak 218 = .ok (.invokevirtual 63, 3) := by decide +kernel
theorem dX7_speak_221 : decode cX7_speak 221 = .ok (.ireturn, 1) := by decide +kernel
theorem dX7_speak_222 : decode cX7_speak 222 = .ok (.aload_n 0, 1) := by decide +kernel
theorem dX7_speak_223 : decode cX7_speak 223 = .ok (.iconst 0, 1) := by decide +kernel
theorem dX7_speak_224 : decode cX7_speak 224 = .ok (.iload 7, 2) := by decide +kernel
theorem dX7_speak_226 : decode cX7_speak 226 = .ok (.iload_n 3, 1) := by decide +kernel
theorem dX7_speak_227 : decode cX7_speak 227 = .ok (.iload 8, 2) := by decide +kernel
theorem dX7_speak_229 : decode cX7_speak 229 = .ok (.invokevirtual 46, 3) := by decide +kernel
theorem dX7_speak_232 : decode cX7_speak 232 = .ok (.iconst 4, 1) := by decide +kernel
theorem dX7_speak_233 : decode cX7_speak 233 = .ok (.isub, 1) := by decide +kernel
theorem dX7_speak_234 : decode cX7_speak 234 = .ok (.ireturn, 1) := by decide +kernel
theorem dX7_speak_235 : decode cX7_speak 235 = .ok (.aload_n 0, 1) := by decide +kernel
theorem dX7_speak_236 : decode cX7_speak 236 = .ok (.iconst 3, 1) := by decide +kernel
theorem dX7_speak_237 : decode cX7_speak 237 = .ok (.iload 7, 2) := by decide +kernel
theorem dX7_speak_239 : decode cX7_speak 239 = .ok (.iload_n 3, 1) := by decide +kernel
theorem dX7_speak_240 : decode cX7_speak 240 = .ok (.iload 8, 2) := by decide +kernel
theorem dX7_speak_242 : decode cX7_speak 242 = .ok (.invokevirtual 46, 3) := by decide +kernel
theorem dX7_speak_245 : decode cX7_speak 245 = .ok (.aload_n 0, 1) := by decide +kernel
theorem dX7_speak_246 : decode cX7_speak 246 = .ok (.iconst 1, 1) := by decide +kernel
theorem dX7_speak_247 : decode cX7_speak 247 = .ok (.aload_n 0, 1) := by decide +kernel
theorem dX7_speak_248 : decode cX7_speak 248 = .ok (.getfield 24, 3) := by decide +kernel
theorem dX7_speak_251 : decode cX7_speak 251 = .ok (.iconst 1, 1) := by decide +kernel
theorem dX7_speak_252 : decode cX7_speak 252 = .ok (.iload 8, 2) := by decide +kernel
theorem dX7_speak_254 : decode cX7_speak 254 = .ok (.invokevirtual 46, 3) := by decide +kernel
theorem dX7_speak_257 : decode cX7_speak 257 = .ok (.iadd, 1) := by decide +kernel
theorem dX7_speak_258 : decode cX7_speak 258 = .ok (.ireturn, 1) := by decide +kernel
theorem dX7_speak_259 : decode cX7_speak 259 = .ok (.iconst 0, 1) := by decide +kernel
theorem dX7_speak_260 : decode cX7_speak 260 = .ok (.aload_n 0, 1) := by decide +kernel
theorem dX7_speak_261 : decode cX7_speak 261 = .ok (.iconst 1, 1) := by decide +kernel
theorem dX7_speak_262 : decode cX7_speak 262 = .ok (.iload 7, 2) := by decide +kernel
theorem dX7_speak_264 : decode cX7_speak 264 = .ok (.iload_n 3, 1) := by decide +kernel
theorem dX7_speak_265 : decode cX7_speak 265 = .ok (.iload 8, 2) := by decide +kernel
theorem dX7_speak_267 : decode cX7_speak 267 = .ok (.invokevirtual 46, 3) := by decide +kernel
theorem dX7_speak_270 : decode cX7_speak 270 = .ok (.isub, 1) := by decide +kernel
theorem dX7_speak_271 : decode cX7_speak 271 = .ok (.ireturn, 1) := by decide +kernel
theorem dX7_speak_272 : decode cX7_speak 272 = .ok (.aload_n 0, 1) := by decide +kernel
theorem dX7_speak_273 : decode cX7_speak 273 = .ok (.iconst 2, 1) := by decide +kernel
theorem dX7_speak_274 : decode cX7_speak 274 = .ok (.iload 7, 2) := by decide +kernel
theorem dX7_speak_276 : decode cX7_speak 276 = .ok (.iload_n 3, 1) := by decide +kernel
theorem dX7_speak_277 : decode cX7_speak 277 = .ok (.iconst 2, 1) := by decide +kernel
theorem dX7_speak_278 : decode cX7_speak 278 = .ok (.idiv, 1) := by decide +kernel
theorem dX7_speak_279 : decode cX7_speak 279 = .ok (.iload 8, 2) := by decide +kernel
theorem dX7_speak_281 : decode cX7_speak 281 = .ok (.invokevirtual 46, 3) := by decide +kernel
theorem dX7_speak_284 : decode cX7_speak 284 = .ok (.ireturn, 1) := by decide +kernel
theorem dX7_speak_285 : decode cX7_speak 285 = .ok (.aload_n 0, 1) := by decide +kernel
theorem dX7_speak_286 : decode cX7_speak 286 = .ok (.iconst 0, 1) := by decide +kernel
theorem dX7_speak_287 : decode cX7_speak 287 = .ok (.iload 7, 2) := by decide +kernel
theorem dX7_speak_289 : decode cX7_speak 289 = .ok (.iload_n 3, 1) := by decide +kernel
theorem dX7_speak_290 : decode cX7_speak 290 = .ok (.iload 8, 2) := by decide +kernel
theorem dX7_speak_292 : decode cX7_speak 292 = .ok (.invokevirtual 46, 3) := by decide +kernel
theorem dX7_speak_295 : decode cX7_speak 295 = .ok (.iconst 3, 1) := by decide +kernel
theorem dX7_speak_296 : decode cX7_speak 296 = .ok (.imul, 1) := by decide +kernel
theorem dX7_speak_297 : decode cX7_speak 297 = .ok (.ireturn, 1) := by decide +kernel
theorem dX7_speak_298 : decode cX7_speak 298 = .ok (.aload_n 0, 1) := by decide +kernel
theorem dX7_speak_299 : decode cX7_speak 299 = .ok (.iconst 2, 1) := by decide +kernel
theorem dX7_speak_300 : decode cX7_speak 300 = .ok (.iload 7, 2) := by decide +kernel
theorem dX7_speak_302 : decode cX7_speak 302 = .ok (.iload_n 3, 1) := by decide +kernel
theorem dX7_speak_303 : decode cX7_speak 303 = .ok (.iload 8, 2) := by decide +kernel
theorem dX7_speak_305 : decode cX7_speak 305 = .ok (.invokevirtual 46, 3) := by decide +kernel
theorem dX7_speak_308 : decode cX7_speak 308 = .ok (.aload_n 0, 1) := by decide +kernel
theorem dX7_speak_309 : decode cX7_speak 309 = .ok (.getfield 28, 3) := by decide +kernel
theorem dX7_speak_312 : decode cX7_speak 312 = .ok (.ixor, 1) := by decide +kernel
theorem dX7_speak_313 : decode cX7_speak 313 = .ok (.ireturn, 1) := by decide +kernel
theorem dX7_speak_314 : decode cX7_speak 314 = .ok (.aload_n 0, 1) := by decide +kernel
theorem dX7_speak_315 : decode cX7_speak 315 = .ok (.iconst 1, 1) := by decide +kernel
theorem dX7_speak_316 : decode cX7_speak 316 = .ok (.iload 7, 2) := by decide +kernel
theorem dX7_speak_318 : decode cX7_speak 318 = .ok (.iload_n 3, 1) := by decide +kernel
theorem dX7_speak_319 : decode cX7_speak 319 = .ok (.iconst 1, 1) := by decide +kernel
theorem dX7_speak_320 : decode cX7_speak 320 = .ok (.iadd, 1) := by decide +kernel
theorem dX7_speak_321 : decode cX7_speak 321 = .ok (.iload 8, 2) := by decide +kernel
theorem dX7_speak_323 : decode cX7_speak 323 = .ok (.invokevirtual 46, 3) := by decide +kernel
theorem dX7_speak_326 : decode cX7_speak 326 = .ok (.ireturn, 1) := by decide +kernel
theorem dX7_speak_327 : decode cX7_speak 327 = .ok (.bipush 9, 2) := by decide +kernel
theorem dX7_speak_329 : decode cX7_speak 329 = .ok (.ireturn, 1) := by decide +kernel
theorem dX7_speak_330 : decode cX7_speak 330 = .ok (.aload_n 0, 1) := by decide +kernel
theorem dX7_speak_331 : decode cX7_speak 331 = .ok (.iconst 1, 1) := by decide +kernel
theorem dX7_speak_332 : decode cX7_speak 332 = .ok (.iload 7, 2) := by decide +kernel
theorem dX7_speak_334 : decode cX7_speak 334 = .ok (.iload_n 3, 1) := by decide +kernel
theorem dX7_speak_335 : decode cX7_speak 335 = .ok (.iload 8, 2) := by decide +kernel
theorem dX7_speak_337 : decode cX7_speak 337 = .ok (.invokevirtual 46, 3) := by decide +kernel
theorem dX7_speak_340 : decode cX7_speak 340 = .ok (.aload_n 0, 1) := by decide +kernel
theorem dX7_speak_341 : decode cX7_speak 341 = .ok (.getfield 31, 3) := by decide +kernel
theorem dX7_speak_344 : decode cX7_speak 344 = .ok (.iadd, 1) := by decide +kernel
theorem dX7_speak_345 : decode cX7_speak 345 = .ok (.ireturn, 1) := by decide +kernel
theorem dX7_speak_346 : decode cX7_speak 346 = .ok (.iconst 0, 1) := by decide +kernel
theorem dX7_speak_347 : decode cX7_speak 347 = .ok (.ireturn, 1) := by decide +kernel
theorem dX7_ownerOf_0 : decode cX7_ownerOf 0 = .ok (.iload_n 1, 1) := by decide +kernel
theorem dX7_ownerOf_1 : decode cX7_ownerOf 1 = .ok (.istore_n 2, 1) := by decide +kernel
theorem dX7_ownerOf_2 : decode cX7_ownerOf 2 = .ok (.iconst 0, 1) := by decide +kernel
theorem dX7_ownerOf_3 : decode cX7_ownerOf 3 = .ok (.istore_n 3, 1) := by decide +kernel
theorem dX7_ownerOf_4 : decode cX7_ownerOf 4 = .ok (.iload_n 3, 1) := by decide +kernel
theorem dX7_ownerOf_5 : decode cX7_ownerOf 5 = .ok (.iconst 2, 1) := by decide +kernel
theorem dX7_ownerOf_6 : decode cX7_ownerOf 6 = .ok (.if_icmp .ge 27, 3) := by decide +kernel
theorem dX7_ownerOf_9 : decode cX7_ownerOf 9 = .ok (.getstatic 54, 3) := by decide +kernel
theorem dX7_ownerOf_12 : decode cX7_ownerOf 12 = .ok (.iconst 4, 1) := by decide +kernel
theorem dX7_ownerOf_13 : decode cX7_ownerOf 13 = .ok (.iload_n 2, 1) := by decide +kernel
theorem dX7_ownerOf_14 : decode cX7_ownerOf 14 = .ok (.imul, 1) := by decide +kernel
theorem dX7_ownerOf_15 : decode cX7_ownerOf 15 = .ok (.iload_n 0, 1) := by decide +kernel
theorem dX7_ownerOf_16 : decode cX7_ownerOf 16 = .ok (.iadd, 1) := by decide +kernel
theorem dX7_ownerOf_17 : decode cX7_ownerOf 17 = .ok (.iaload, 1) := by decide +kernel
theorem dX7_ownerOf_18 : decode cX7_ownerOf 18 = .ok (.ifCond .ne 15, 3) := by decide +kernel
theorem dX7_ownerOf_21 : decode cX7_ownerOf 21 = .ok (.getstatic 57, 3) := by decide +kernel
theorem dX7_ownerOf_24 : decode cX7_ownerOf 24 = .ok (.iload_n 2, 1) := by decide +kernel
theorem dX7_ownerOf_25 : decode cX7_ownerOf 25 = .ok (.iaload, 1) := by decide +kernel
theorem dX7_ownerOf_26 : decode cX7_ownerOf 26 = .ok (.istore_n 2, 1) := by decide +kernel
theorem dX7_ownerOf_27 : decode cX7_ownerOf 27 = .ok (.iinc 3 1, 3) := by decide +kernel
theorem dX7_ownerOf_30 : decode cX7_ownerOf 30 = .ok (.goto (-26), 3) := by decide +kernel
theorem dX7_ownerOf_33 : decode cX7_ownerOf 33 = .ok (.iload_n 2, 1) := by decide +kernel
theorem dX7_ownerOf_34 : decode cX7_ownerOf 34 = .ok (.ireturn, 1) := by decide +kernel
theorem dX7_part_0 : decode cX7_part 0 = .ok (.aload_n 0, 1) := by decide +kernel
theorem dX7_part_1 : decode cX7_part 1 = .ok (.getfield 31, 3) := by decide +kernel
theorem dX7_part_4 : decode cX7_part 4 = .ok (.aload_n 0, 1) := by decide +kernel
theorem dX7_part_5 : decode cX7_part 5 = .ok (.getfield 28, 3) := by decide +kernel
theorem dX7_part_8 : decode cX7_part 8 = .ok (.if_icmp .ne 10, 3) := by decide +kernel
theorem dX7_part_11 : decode cX7_part 11 = .ok (.aload_n 0, 1) := by decide +kernel
theorem dX7_part_12 : decode cX7_part 12 = .ok (.iconst 1, 1) := by decide +kernel
theorem dX7_part_13 : decode cX7_part 13 = .ok (.putfield 20, 3) := by decide +kernel
theorem dX7_part_16 : decode cX7_part 16 = .ok (.iconst 0, 1) := by decide +kernel
theorem dX7_part_17 : decode cX7_part 17 = .ok (.ireturn, 1) := by decide +kernel
theorem dX7_part_18 : decode cX7_part 18 = .ok (.iload_n 1, 1) := by decide +kernel
theorem dX7_part_19 : decode cX7_part 19 = .ok (.aload_n 0, 1) := by decide +kernel
theorem dX7_part_20 : decode cX7_part 20 = .ok (.getfield 31, 3) := by decide +kernel
theorem dX7_part_23 : decode cX7_part 23 = .ok (.aload_n 0, 1) := by decide +kernel
theorem dX7_part_24 : decode cX7_part 24 = .ok (.getfield 28, 3) := by decide +kernel
theorem dX7_part_27 : decode cX7_part 27 = .ok (.isub, 1) := by decide +kernel
theorem dX7_part_28 : decode cX7_part 28 = .ok (.idiv, 1) := by decide +kernel
theorem dX7_part_29 : decode cX7_part 29 = .ok (.ireturn, 1) := by decide +kernel
end
section
theorem dX8_init_0 : decode cX8_init 0 = .ok (.aload_n 0, 1) := by decide +kernel
theorem dX8_init_1 : decode cX8_init 1 = .ok (.invokespecial 1, 3) := by decide +kernel
theorem dX8_init_4 : decode cX8_init 4 = .ok (.aload_n 0, 1) := by decide +kernel
theorem dX8_init_5 : decode cX8_init 5 = .ok (.new 7, 3) := by decide +kernel
theorem dX8_init_8 : decode cX8_init 8 = .ok (.dup, 1) := by decide +kernel
theorem dX8_init_9 : decode cX8_init 9 = .ok (.invokespecial 9, 3) := by decide +kernel
theorem dX8_init_12 : decode cX8_init 12 = .ok (.putfield 10, 3) := by decide +kernel
theorem dX8_init_15 : decode cX8_init 15 = .ok (.aload_n 0, 1) := by decide +kernel
theorem dX8_init_16 : decode cX8_init 16 = .ok (.new 7, 3) := by decide +kernel
theorem dX8_init_19 : decode cX8_init 19 = .ok (.dup, 1) := by decide +kernel
theorem dX8_init_20 : decode cX8_init 20 = .ok (.invokespecial 9, 3) := by decide +kernel
theorem dX8_init_23 : decode cX8_init 23 = .ok (.putfield 16, 3) := by decide +kernel
theorem dX8_init_26 : decode cX8_init 26 = .ok (.aload_n 0, 1) := by decide +kernel
theorem dX8_init_27 : decode cX8_init 27 = .ok (.new 19, 3) := by decide +kernel
theorem dX8_init_30 : decode cX8_init 30 = .ok (.dup, 1) := by decide +kernel
theorem dX8_init_31 : decode cX8_init 31 = .ok (.invokespecial 21, 3) := by decide +kernel
theorem dX8_init_34 : decode cX8_init 34 = .ok (.putfield 22, 3) := by decide +kernel
theorem dX8_init_37 : decode cX8_init 37 = .ok (.aload_n 0, 1) := by decide +kernel
theorem dX8_init_38 : decode cX8_init 38 = .ok (.new 26, 3) := by decide +kernel
theorem dX8_init_41 : decode cX8_init 41 = .ok (.dup, 1) := by decide +kernel
theorem dX8_init_42 : decode cX8_init 42 = .ok (.aload_n 0, 1) := by decide +kernel
theorem dX8_init_43 : decode cX8_init 43 = .ok (.getfield 10, 3) := by decide +kernel
theorem dX8_init_46 : decode cX8_init 46 = .ok (.getfield 28, 3) := by decide +kernel
theorem dX8_init_49 : decode cX8_init 49 = .ok (.invokespecial 32, 3) := by decide +kernel
theorem dX8_init_52 : decode cX8_init 52 = .ok (.putfield 35, 3) := by decide +kernel
theorem dX8_init_55 : decode cX8_init 55 = .ok (.aload_n 0, 1) := by decide +kernel
theorem dX8_init_56 : decode cX8_init 56 = .ok (.new 39, 3) := by decide +kernel
theorem dX8_init_59 : decode cX8_init 59 = .ok (.dup, 1) := by decide +kernel
theorem dX8_init_60 : decode cX8_init 60 = .ok (.invokespecial 41, 3) := by decide +kernel
theorem dX8_init_63 : decode cX8_init 63 = .ok (.putfield 42, 3) := by decide +kernel
theorem dX8_init_66 : decode cX8_init 66 = .ok (.aload_n 0, 1) := by decide +kernel
theorem dX8_init_67 : decode cX8_init 67 = .ok (.iconst 4, 1) := by decide +kernel
theorem dX8_init_68 : decode cX8_init 68 = .ok (.anewarray 46, 3) := by decide +kernel
theorem dX8_init_71 : decode cX8_init 71 = .ok (.putfield 48, 3) := by decide +kernel
theorem dX8_init_74 : decode cX8_init 74 = .ok (.aload_n 0, 1) := by decide +kernel
theorem dX8_init_75 : decode cX8_init 75 = .ok (.bipush 7, 2) := by decide +kernel
theorem dX8_init_77 : decode cX8_init 77 = .ok (.newarray .int, 2) := by decide +kernel
theorem dX8_init_79 : decode cX8_init 79 = .ok (.putfield 52, 3) := by decide +kernel
theorem dX8_init_82 : decode cX8_init 82 = .ok (.aload_n 0, 1) := by decide +kernel
theorem dX8_init_83 : decode cX8_init 83 = .ok (.iconst 0, 1) := by decide +kernel
theorem dX8_init_84 : decode cX8_init 84 = .ok (.putfield 56, 3) := by decide +kernel
theorem dX8_init_87 : decode cX8_init 87 = .ok (.iconst 0, 1) := by decide +kernel
theorem dX8_init_88 : decode cX8_init 88 = .ok (.istore_n 1, 1) := by decide +kernel
theorem dX8_init_89 : decode cX8_init 89 = .ok (.iload_n 1, 1) := by decide +kernel
theorem dX8_init_90 : decode cX8_init 90 = .ok (.iconst 4, 1) := by decide +kernel
theorem dX8_init_91 : decode cX8_init 91 = .ok (.if_icmp .ge 22, 3) := by decide +kernel
theorem dX8_init_94 : decode cX8_init 94 = .ok (.aload_n 0, 1) := by decide +kernel
theorem dX8_init_95 : decode cX8_init 95 = .ok (.getfield 48, 3) := by decide +kernel
theorem dX8_init_98 : decode cX8_init 98 = .ok (.iload_n 1, 1) := by decide +kernel
theorem dX8_init_99 : decode cX8_init 99 = .ok (.new 46, 3) := by decide +kernel
theorem dX8_init_102 : decode cX8_init 102 = .ok (.dup, 1) := by decide +kernel
theorem dX8_init_103 : decode cX8_init 103 = .ok (.invokespecial 60, 3) := by decide +kernel
theorem dX8_init_106 : decode cX8_init 106 = .ok (.aastore, 1) := by decide +kernel
theorem dX8_init_107 : decode cX8_init 107 = .ok (.iinc 1 1, 3) := by decide +kernel
theorem dX8_init_110 : decode cX8_init 110 = .ok (.goto (-21), 3) := by decide +kernel
theorem dX8_init_113 : decode cX8_init 113 = .ok (.return_, 1) := by decide +kernel
theorem dX8_home_0 : decode cX8_home 0 = .ok (.iload_n 1, 1) := by decide +kernel
theorem dX8_home_1 : decode cX8_home 1 = .ok (.iconst 0, 1) := by decide +kernel
theorem dX8_home_2 : decode cX8_home 2 = .ok (.bipush 69, 2) := by decide +kernel
theorem dX8_home_4 : decode cX8_home 4 = .ok (.invokestatic 61, 3) := by decide +kernel
theorem dX8_home_7 : decode cX8_home 7 = .ok (.ifCond .ne 9, 3) := by decide +kernel
theorem dX8_home_10 : decode cX8_home 10 = .ok (.aload_n 0, 1) := by decide +kernel
theorem dX8_home_11 : decode cX8_home 11 = .ok (.iconst 1, 1) := by decide +kernel
theorem dX8_home_12 : decode cX8_home 12 = .ok (.invokevirtual 65, 3) := by decide +kernel
theorem dX8_home_15 : decode cX8_home 15 = .ok (.ireturn, 1) := by decide +kernel
theorem dX8_home_16 : decode cX8_home 16 = .ok (.aload_n 0, 1) := by decide +kernel
theorem dX8_home_17 : decode cX8_home 17 = .ok (.getfield 10, 3) := by decide +kernel
theorem dX8_home_20 : decode cX8_home 20 = .ok (.getfield 28, 3) := by decide +kernel
theorem dX8_home_23 : decode cX8_home 23 = .ok (.getfield 69, 3) := by decide +kernel
theorem dX8_home_26 : decode cX8_home 26 = .ok (.bipush 8, 2) := by decide +kernel
theorem dX8_home_28 : decode cX8_home 28 = .ok (.if_icmp .lt 9, 3) := by decide +kernel
theorem dX8_home_31 : decode cX8_home 31 = .ok (.aload_n 0, 1) := by decide +kernel
theorem dX8_home_32 : decode cX8_home 32 = .ok (.iconst 4, 1) := by decide +kernel
theorem dX8_home_33 : decode cX8_home 33 = .ok (.invokevirtual 65, 3) := by decide +kernel
theorem dX8_home_36 : decode cX8_home 36 = .ok (.ireturn, 1) := by decide +kernel
theorem dX8_home_37 : decode cX8_home 37 = .ok (.aload_n 0, 1) := by decide +kernel
theorem dX8_home_38 : decode cX8_home 38 = .ok (.getfield 10, 3) := by decide +kernel
theorem dX8_home_41 : decode cX8_home 41 = .ok (.getfield 28, 3) := by decide +kernel
theorem dX8_home_44 : decode cX8_home 44 = .ok (.iload_n 1, 1) := by decide +kernel
theorem dX8_home_45 : decode cX8_home 45 = .ok (.invokevirtual 74, 3) := by decide +kernel
theorem dX8_home_48 : decode cX8_home 48 = .ok (.ireturn, 1) := by decide +kernel
theorem dX8_homeIs_0 : decode cX8_homeIs 0 = .ok (.aload_n 0, 1) := by decide +kernel
theorem dX8_homeIs_1 : decode cX8_homeIs 1 = .ok (.getfield 10, 3) := by decide +kernel
theorem dX8_homeIs_4 : decode cX8_homeIs 4 = .ok (.getfield 28, 3) := by decide +kernel
theorem dX8_homeIs_7 : decode cX8_homeIs 7 = .ok (.astore_n 3, 1) := by decide +kernel
theorem dX8_homeIs_8 : decode cX8_homeIs 8 = .ok (.aload_n 3, 1) := by decide +kernel
theorem dX8_homeIs_9 : decode cX8_homeIs 9 = .ok (.iload_n 1, 1) := by decide +kernel
theorem dX8_homeIs_10 : decode cX8_homeIs 10 = .ok (.invokevirtual 77, 3) := by decide +kernel
theorem dX8_homeIs_13 : decode cX8_homeIs 13 = .ok (.ifCond .ne 9, 3) := by decide +kernel
theorem dX8_homeIs_16 : decode cX8_homeIs 16 = .ok (.aload_n 0, 1) := by decide +kernel
theorem dX8_homeIs_17 : decode cX8_homeIs 17 = .ok (.iconst 1, 1) := by decide +kernel
theorem dX8_homeIs_18 : decode cX8_homeIs 18 = .ok (.invokevirtual 65, 3) := by decide +kernel
theorem dX8_homeIs_21 : decode cX8_homeIs 21 = .ok (.ireturn, 1) := by decide +kernel
theorem dX8_homeIs_22 : decode cX8_homeIs 22 = .ok (.iload_n 2, 1) := by decide +kernel
theorem dX8_homeIs_23 : decode cX8_homeIs 23 = .ok (.tableswitch 97 0 7 #[45, 52, 59, 66, 73, 79, 85, 91], 45) := by decide +kernel
theorem dX8_homeIs_68 : decode cX8_homeIs 68 = .ok (.aload_n 3, 1) := by decide +kernel
theorem dX8_homeIs_69 : decode cX8_homeIs 69 = .ok (.getfield 81, 3) := by decide +kernel
theorem dX8_homeIs_72 : decode cX8_homeIs 72 = .ok (.iload_n 1, 1) := by decide +kernel
theorem dX8_homeIs_73 : decode cX8_homeIs 73 = .ok (.iaload, 1) := by decide +kernel
theorem dX8_homeIs_74 : decode cX8_homeIs 74 = .ok (.ireturn, 1) := by decide +kernel
theorem dX8_homeIs_75 : decode cX8_homeIs 75 = .ok (.aload_n 3, 1) := by decide +kernel
theorem dX8_homeIs_76 : decode cX8_homeIs 76 = .ok (.getfield 84, 3) := by decide +kernel
theorem dX8_homeIs_79 : decode cX8_homeIs 79 = .ok (.iload_n 1, 1) := by decide +kernel
theorem dX8_homeIs_80 : decode cX8_homeIs 80 = .ok (.iaload, 1) := by decide +kernel
theorem dX8_homeIs_81 : decode cX8_homeIs 81 = .ok (.ireturn, 1) := by decide +kernel
theorem dX8_homeIs_82 : decode cX8_homeIs 82 = .ok (.aload_n 3, 1) := by decide +kernel
theorem dX8_homeIs_83 : decode cX8_homeIs 83 = .ok (.getfield 87, 3) := by decide +kernel
theorem dX8_homeIs_86 : decode cX8_homeIs 86 = .ok (.iload_n 1, 1) := by decide +kernel
theorem dX8_homeIs_87 : decode cX8_homeIs 87 = .ok (.iaload, 1) := by decide +kernel
theorem dX8_homeIs_88 : decode cX8_homeIs 88 = .ok (.ireturn, 1) := by decide +kernel
theorem dX8_homeIs_89 : decode cX8_homeIs 89 = .ok (.aload_n 3, 1) := by decide +kernel
theorem dX8_homeIs_90 : decode cX8_homeIs 90 = .ok (.getfield 90, 3) := by decide +kernel
theorem dX8_homeIs_93 : decode cX8_homeIs 93 = .ok (.iload_n 1, 1) := by decide +kernel
theorem dX8_homeIs_94 : decode cX8_homeIs 94 = .ok (.iaload, 1) := by decide +kernel
theorem dX8_homeIs_95 : decode cX8_homeIs 95 = .ok (.ireturn, 1) := by decide +kernel
theorem dX8_homeIs_96 : decode cX8_homeIs 96 = .ok (.aload_n 3, 1) := by decide +kernel
theorem dX8_homeIs_97 : decode cX8_homeIs 97 = .ok (.iload_n 1, 1) := by decide +kernel
theorem dX8_homeIs_98 : decode cX8_homeIs 98 = .ok (.invokevirtual 93, 3) := by decide +kernel
theorem dX8_homeIs_101 : decode cX8_homeIs 101 = .ok (.ireturn, 1) := by decide +kernel
theorem dX8_homeIs_102 : decode cX8_homeIs 102 = .ok (.aload_n 3, 1) := by decide +kernel
theorem dX8_homeIs_103 : decode cX8_homeIs 103 = .ok (.iload_n 1, 1) := by decide +kernel
theorem dX8_homeIs_104 : decode cX8_homeIs 104 = .ok (.invokevirtual 96, 3) := by decide +kernel
theorem dX8_homeIs_107 : decode cX8_homeIs 107 = .ok (.ireturn, 1) := by decide +kernel
theorem dX8_homeIs_108 : decode cX8_homeIs 108 = .ok (.aload_n 3, 1) := by decide +kernel
theorem dX8_homeIs_109 : decode cX8_homeIs 109 = .ok (.iload_n 1, 1) := by decide +kernel
theorem dX8_homeIs_110 : decode cX8_homeIs 110 = .ok (.invokevirtual 99, 3) := by decide +kernel
theorem dX8_homeIs_113 : decode cX8_homeIs 113 = .ok (.ireturn, 1) := by decide +kernel
theorem dX8_homeIs_114 : decode cX8_homeIs 114 = .ok (.aload_n 3, 1) := by decide +kernel
theorem dX8_homeIs_115 : decode cX8_homeIs 115 = .ok (.iload_n 1, 1) := by decide +kernel
theorem dX8_homeIs_116 : decode cX8_homeIs 116 = .ok (.invokevirtual 102, 3) := by decide +kernel
theorem dX8_homeIs_119 : decode cX8_homeIs 119 = .ok (.ireturn, 1) := by decide +kernel
theorem dX8_homeIs_120 : decode cX8_homeIs 120 = .ok (.aload_n 0, 1) := by decide +kernel
theorem dX8_homeIs_121 : decode cX8_homeIs 121 = .ok (.iconst 1, 1) := by decide +kernel
theorem dX8_homeIs_122 : decode cX8_homeIs 122 = .ok (.invokevirtual 65, 3) := by decide +kernel
theorem dX8_homeIs_125 : decode cX8_homeIs 125 = .ok (.ireturn, 1) := by decide +kernel
theorem dX8_become_0 : decode cX8_become 0 = .ok (.aload_n 0, 1) := by decide +kernel
theorem dX8_become_1 : decode cX8_become 1 = .ok (.getfield 10, 3) := by decide +kernel
theorem dX8_become_4 : decode cX8_become 4 = .ok (.getfield 28, 3) := by decide +kernel
theorem dX8_become_7 : decode cX8_become 7 = .ok (.iload_n 1, 1) := by decide +kernel
theorem dX8_become_8 : decode cX8_become 8 = .ok (.invokevirtual 77, 3) := by decide +kernel
theorem dX8_become_11 : decode cX8_become 11 = .ok (.ifCond .eq 13, 3) := by decide +kernel
theorem dX8_become_14 : decode cX8_become 14 = .ok (.iload_n 2, 1) := by decide +kernel
theorem dX8_become_15 : decode cX8_become 15 = .ok (.iconst 0, 1) := by decide +kernel
theorem dX8_become_16 : decode cX8_become 16 = .ok (.bipush 69, 2) := by decide +kernel
theorem dX8_become_18 : decode cX8_become 18 = .ok (.invokestatic 61, 3) := by decide +kernel
theorem dX8_become_21 : decode cX8_become 21 = .ok (.ifCond .ne 9, 3) := by decide +kernel
theorem dX8_become_24 : decode cX8_become 24 = .ok (.aload_n 0, 1) := by decide +kernel
theorem dX8_become_25 : decode cX8_become 25 = .ok (.iconst 1, 1) := by decide +kernel
theorem dX8_become_26 : decode cX8_become 26 = .ok (.invokevirtual 65, 3) := by decide +kernel
theorem dX8_become_29 : decode cX8_become 29 = .ok (.ireturn, 1) := by decide +kernel
theorem dX8_become_30 : decode cX8_become 30 = .ok (.aload_n 0, 1) := by decide +kernel
theorem dX8_become_31 : decode cX8_become 31 = .ok (.getfield 10, 3) := by decide +kernel
theorem dX8_become_34 : decode cX8_become 34 = .ok (.getfield 28, 3) := by decide +kernel
theorem dX8_become_37 : decode cX8_become 37 = .ok (.getfield 81, 3) := by decide +kernel
theorem dX8_become_40 : decode cX8_become 40 = .ok (.iload_n 1, 1) := by decide +kernel
theorem dX8_become_41 : decode cX8_become 41 = .ok (.iaload, 1) := by decide +kernel
theorem dX8_become_42 : decode cX8_become 42 = .ok (.istore_n 3, 1) := by decide +kernel
theorem dX8_become_43 : decode cX8_become 43 = .ok (.aload_n 0, 1) := by decide +kernel
theorem dX8_become_44 : decode cX8_become 44 = .ok (.getfield 10, 3) := by decide +kernel
theorem dX8_become_47 : decode cX8_become 47 = .ok (.getfield 28, 3) := by decide +kernel
theorem dX8_become_50 : decode cX8_become 50 = .ok (.getfield 81, 3) := by decide +kernel
theorem dX8_become_53 : decode cX8_become 53 = .ok (.iload_n 1, 1) := by decide +kernel
theorem dX8_become_54 : decode cX8_become 54 = .ok (.iload_n 2, 1) := by decide +kernel
theorem dX8_become_55 : decode cX8_become 55 = .ok (.bipush 10, 2) := by decide +kernel
theorem dX8_become_57 : decode cX8_become 57 = .ok (.idiv, 1) := by decide +kernel
theorem dX8_become_58 : decode cX8_become 58 = .ok (.iastore, 1) := by decide +kernel
theorem dX8_become_59 : decode cX8_become 59 = .ok (.aload_n 0, 1) := by decide +kernel
theorem dX8_become_60 : decode cX8_become 60 = .ok (.getfield 10, 3) := by decide +kernel
theorem dX8_become_63 : decode cX8_become 63 = .ok (.getfield 28, 3) := by decide +kernel
theorem dX8_become_66 : decode cX8_become 66 = .ok (.getfield 84, 3) := by decide +kernel
theorem dX8_become_69 : decode cX8_become 69 = .ok (.iload_n 1, 1) := by decide +kernel
theorem dX8_become_70 : decode cX8_become 70 = .ok (.iload_n 2, 1) := by decide +kernel
theorem dX8_become_71 : decode cX8_become 71 = .ok (.bipush 10, 2) := by decide +kernel
theorem dX8_become_73 : decode cX8_become 73 = .ok (.irem, 1) := by decide +kernel
theorem dX8_become_74 : decode cX8_become 74 = .ok (.iastore, 1) := by decide +kernel
theorem dX8_become_75 : decode cX8_become 75 = .ok (.iload_n 3, 1) := by decide +kernel
theorem dX8_become_76 : decode cX8_become 76 = .ok (.ireturn, 1) := by decide +kernel
theorem dX8_as_0 : decode cX8_as 0 = .ok (.aload_n 0, 1) := by decide +kernel
theorem dX8_as_1 : decode cX8_as 1 = .ok (.getfield 10, 3) := by decide +kernel
theorem dX8_as_4 : decode cX8_as 4 = .ok (.getfield 28, 3) := by decide +kernel
theorem dX8_as_7 : decode cX8_as 7 = .ok (.iload_n 1, 1) := by decide +kernel
theorem dX8_as_8 : decode cX8_as 8 = .ok (.invokevirtual 77, 3) := by decide +kernel
theorem dX8_as_11 : decode cX8_as 11 = .ok (.ifCond .eq 13, 3) := by decide +kernel
theorem dX8_as_14 : decode cX8_as 14 = .ok (.iload_n 2, 1) := by decide +kernel
theorem dX8_as_15 : decode cX8_as 15 = .ok (.iconst 0, 1) := by decide +kernel
theorem dX8_as_16 : decode cX8_as 16 = .ok (.bipush 6, 2) := by decide +kernel
theorem dX8_as_18 : decode cX8_as 18 = .ok (.invokestatic 61, 3) := by decide +kernel
theorem dX8_as_21 : decode cX8_as 21 = .ok (.ifCond .ne 9, 3) := by decide +kernel
theorem dX8_as_24 : decode cX8_as 24 = .ok (.aload_n 0, 1) := by decide +kernel
theorem dX8_as_25 : decode cX8_as 25 = .ok (.iconst 1, 1) := by decide +kernel
theorem dX8_as_26 : decode cX8_as 26 = .ok (.invokevirtual 65, 3) := by decide +kernel
theorem dX8_as_29 : decode cX8_as 29 = .ok (.ireturn, 1) := by decide +kernel
theorem dX8_as_30 : decode cX8_as 30 = .ok (.aload_n 0, 1) := by decide +kernel
theorem dX8_as_31 : decode cX8_as 31 = .ok (.getfield 10, 3) := by decide +kernel
theorem dX8_as_34 : decode cX8_as 34 = .ok (.getfield 28, 3) := by decide +kernel
theorem dX8_as_37 : decode cX8_as 37 = .ok (.getfield 81, 3) := by decide +kernel
theorem dX8_as_40 : decode cX8_as 40 = .ok (.iload_n 1, 1) := by decide +kernel
theorem dX8_as_41 : decode cX8_as 41 = .ok (.iaload, 1) := by decide +kernel
theorem dX8_as_42 : decode cX8_as 42 = .ok (.iload_n 2, 1) := by decide +kernel
theorem dX8_as_43 : decode cX8_as 43 = .ok (.invokestatic 105, 3) := by decide +kernel
theorem dX8_as_46 : decode cX8_as 46 = .ok (.ifCond .ne 9, 3) := by decide +kernel
theorem dX8_as_49 : decode cX8_as 49 = .ok (.aload_n 0, 1) := by decide +kernel
theorem dX8_as_50 : decode cX8_as 50 = .ok (.iconst 5, 1) := by decide +kernel
theorem dX8_as_51 : decode cX8_as 51 = .ok (.invokevirtual 65, 3) := by decide +kernel
theorem dX8_as_54 : decode cX8_as 54 = .ok (.ireturn, 1) := by decide +kernel
theorem dX8_as_55 : decode cX8_as 55 = .ok (.aload_n 0, 1) := by decide +kernel
theorem dX8_as_56 : decode cX8_as 56 = .ok (.getfield 10, 3) := by decide +kernel
theorem dX8_as_59 : decode cX8_as 59 = .ok (.getfield 28, 3) := by decide +kernel
theorem dX8_as_62 : decode cX8_as 62 = .ok (.getfield 84, 3) := by decide +kernel
theorem dX8_as_65 : decode cX8_as 65 = .ok (.iload_n 1, 1) := by decide +kernel
theorem dX8_as_66 : decode cX8_as 66 = .ok (.iaload, 1) := by decide +kernel
theorem dX8_as_67 : decode cX8_as 67 = .ok (.ireturn, 1) := by decide +kernel
theorem dX8_past_0 : decode cX8_past 0 = .ok (.aload_n 0, 1) := by decide +kernel
theorem dX8_past_1 : decode cX8_past 1 = .ok (.getfield 10, 3) := by decide +kernel
theorem dX8_past_4 : decode cX8_past 4 = .ok (.getfield 28, 3) := by decide +kernel
theorem dX8_past_7 : decode cX8_past 7 = .ok (.iload_n 1, 1) := by decide +kernel
theorem dX8_past_8 : decode cX8_past 8 = .ok (.invokevirtual 77, 3) := by decide +kernel
theorem dX8_past_11 : decode cX8_past 11 = .ok (.ifCond .eq 12, 3) := by decide +kernel
theorem dX8_past_14 : decode cX8_past 14 = .ok (.iload_n 2, 1) := by decide +kernel
theorem dX8_past_15 : decode cX8_past 15 = .ok (.iconst 0, 1) := by decide +kernel
theorem dX8_past_16 : decode cX8_past 16 = .ok (.iconst 1, 1) := by decide +kernel
theorem dX8_past_17 : decode cX8_past 17 = .ok (.invokestatic 61, 3) := by decide +kernel
theorem dX8_past_20 : decode cX8_past 20 = .ok (.ifCond .ne 9, 3) := by decide +kernel
theorem dX8_past_23 : decode cX8_past 23 = .ok (.aload_n 0, 1) := by decide +kernel
theorem dX8_past_24 : decode cX8_past 24 = .ok (.iconst 1, 1) := by decide +kernel
theorem dX8_past_25 : decode cX8_past 25 = .ok (.invokevirtual 65, 3) := by decide +kernel
theorem dX8_past_28 : decode cX8_past 28 = .ok (.ireturn, 1) := by decide +kernel
theorem dX8_past_29 : decode cX8_past 29 = .ok (.aload_n 0, 1) := by decide +kernel
theorem dX8_past_30 : decode cX8_past 30 = .ok (.getfield 10, 3) := by decide +kernel
theorem dX8_past_33 : decode cX8_past 33 = .ok (.getfield 28, 3) := by decide +kernel
theorem dX8_past_36 : decode cX8_past 36 = .ok (.iload_n 1, 1) := by decide +kernel
theorem dX8_past_37 : decode cX8_past 37 = .ok (.invokevirtual 93, 3) := by decide +kernel
theorem dX8_past_40 : decode cX8_past 40 = .ok (.istore_n 3, 1) := by decide +kernel
theorem dX8_past_41 : decode cX8_past 41 = .ok (.aload_n 0, 1) := by decide +kernel
theorem dX8_past_42 : decode cX8_past 42 = .ok (.getfield 10, 3) := by decide +kernel
theorem dX8_past_45 : decode cX8_past 45 = .ok (.getfield 28, 3) := by decide +kernel
theorem dX8_past_48 : decode cX8_past 48 = .ok (.iload_n 1, 1) := by decide +kernel
theorem dX8_past_49 : decode cX8_past 49 = .ok (.iload_n 2, 1) := by decide +kernel
theorem dX8_past_50 : decode cX8_past 50 = .ok (.invokevirtual 109, 3) := by decide +kernel
theorem dX8_past_53 : decode cX8_past 53 = .ok (.iload_n 3, 1) := by decide +kernel
theorem dX8_past_54 : decode cX8_past 54 = .ok (.ireturn, 1) := by decide +kernel
theorem dX8_goes_0 : decode cX8_goes 0 = .ok (.aload_n 0, 1) := by decide +kernel
theorem dX8_goes_1 : decode cX8_goes 1 = .ok (.getfield 10, 3) := by decide +kernel
theorem dX8_goes_4 : decode cX8_goes 4 = .ok (.getfield 28, 3) := by decide +kernel
theorem dX8_goes_7 : decode cX8_goes 7 = .ok (.iload_n 1, 1) := by decide +kernel
theorem dX8_goes_8 : decode cX8_goes 8 = .ok (.invokevirtual 77, 3) := by decide +kernel
theorem dX8_goes_11 : decode cX8_goes 11 = .ok (.ifCond .ne 9, 3) := by decide +kernel
theorem dX8_goes_14 : decode cX8_goes 14 = .ok (.aload_n 0, 1) := by decide +kernel
theorem dX8_goes_15 : decode cX8_goes 15 = .ok (.iconst 1, 1) := by decide +kernel
theorem dX8_goes_16 : decode cX8_goes 16 = .ok (.invokevirtual 65, 3) := by decide +kernel
theorem dX8_goes_19 : decode cX8_goes 19 = .ok (.ireturn, 1) := by decide +kernel
theorem dX8_goes_20 : decode cX8_goes 20 = .ok (.aload_n 0, 1) := by decide +kernel
theorem dX8_goes_21 : decode cX8_goes 21 = .ok (.getfield 10, 3) := by decide +kernel
theorem dX8_goes_24 : decode cX8_goes 24 = .ok (.getfield 28, 3) := by decide +kernel
theorem dX8_goes_27 : decode cX8_goes 27 = .ok (.getfield 113, 3) := by decide +kernel
theorem dX8_goes_30 : decode cX8_goes 30 = .ok (.istore_n 2, 1) := by decide +kernel
theorem dX8_goes_31 : decode cX8_goes 31 = .ok (.aload_n 0, 1) := by decide +kernel
theorem dX8_goes_32 : decode cX8_goes 32 = .ok (.getfield 10, 3) := by decide +kernel
theorem dX8_goes_35 : decode cX8_goes 35 = .ok (.getfield 28, 3) := by decide +kernel
theorem dX8_goes_38 : decode cX8_goes 38 = .ok (.iload_n 1, 1) := by decide +kernel
theorem dX8_goes_39 : decode cX8_goes 39 = .ok (.putfield 113, 3) := by decide +kernel
theorem dX8_goes_42 : decode cX8_goes 42 = .ok (.iload_n 2, 1) := by decide +kernel
theorem dX8_goes_43 : decode cX8_goes 43 = .ok (.ireturn, 1) := by decide +kernel
theorem dX8_set_0 : decode cX8_set 0 = .ok (.iload_n 1, 1) := by decide +kernel
theorem dX8_set_1 : decode cX8_set 1 = .ok (.tableswitch 45 0 2 #[27, 33, 39], 27) := by decide +kernel
theorem dX8_set_28 : decode cX8_set 28 = .ok (.aload_n 0, 1) := by decide +kernel
theorem dX8_set_29 : decode cX8_set 29 = .ok (.iload_n 2, 1) := by decide +kernel
theorem dX8_set_30 : decode cX8_set 30 = .ok (.invokevirtual 116, 3) := by decide +kernel
theorem dX8_set_33 : decode cX8_set 33 = .ok (.ireturn, 1) := by decide +kernel
theorem dX8_set_34 : decode cX8_set 34 = .ok (.aload_n 0, 1) := by decide +kernel
theorem dX8_set_35 : decode cX8_set 35 = .ok (.iload_n 2, 1) := by decide +kernel
theorem dX8_set_36 : decode cX8_set 36 = .ok (.invokevirtual 119, 3) := by decide +kernel
theorem dX8_set_39 : decode cX8_set 39 = .ok (.ireturn, 1) := by decide +kernel
theorem dX8_set_40 : decode cX8_set 40 = .ok (.aload_n 0, 1) := by decide +kernel
theorem dX8_set_41 : decode cX8_set 41 = .ok (.iload_n 2, 1) := by decide +kernel
theorem dX8_set_42 : decode cX8_set 42 = .ok (.invokevirtual 122, 3) := by decide +kernel
theorem dX8_set_45 : decode cX8_set 45 = .ok (.ireturn, 1) := by decide +kernel
theorem dX8_set_46 : decode cX8_set 46 = .ok (.aload_n 0, 1) := by decide +kernel
theorem dX8_set_47 : decode cX8_set 47 = .ok (.iconst 1, 1) := by decide +kernel
theorem dX8_set_48 : decode cX8_set 48 = .ok (.invokevirtual 65, 3) := by decide +kernel
theorem dX8_set_51 : decode cX8_set 51 = .ok (.ireturn, 1) := by decide +kernel
theorem dX8_hears_0 : decode cX8_hears 0 = .ok (.aload_n 0, 1) := by decide +kernel
theorem dX8_hears_1 : decode cX8_hears 1 = .ok (.getfield 10, 3) := by decide +kernel
theorem dX8_hears_4 : decode cX8_hears 4 = .ok (.getfield 28, 3) := by decide +kernel
theorem dX8_hears_7 : decode cX8_hears 7 = .ok (.iload_n 1, 1) := by decide +kernel
theorem dX8_hears_8 : decode cX8_hears 8 = .ok (.invokevirtual 77, 3) := by decide +kernel
theorem dX8_hears_11 : decode cX8_hears 11 = .ok (.ifCond .eq 14, 3) := by decide +kernel
theorem dX8_hears_14 : decode cX8_hears 14 = .ok (.iload_n 2, 1) := by decide +kernel
theorem dX8_hears_15 : decode cX8_hears 15 = .ok (.iconst 0, 1) := by decide +kernel
theorem dX8_hears_16 : decode cX8_hears 16 = .ok (.sipush 9999, 3) := by decide +kernel
theorem dX8_hears_19 : decode cX8_hears 19 = .ok (.invokestatic 61, 3) := by decide +kernel
theorem dX8_hears_22 : decode cX8_hears 22 = .ok (.ifCond .ne 9, 3) := by decide +kernel
theorem dX8_hears_25 : decode cX8_hears 25 = .ok (.aload_n 0, 1) := by decide +kernel
theorem dX8_hears_26 : decode cX8_hears 26 = .ok (.iconst 1, 1) := by decide +kernel
theorem dX8_hears_27 : decode cX8_hears 27 = .ok (.invokevirtual 65, 3) := by decide +kernel
theorem dX8_hears_30 : decode cX8_hears 30 = .ok (.ireturn, 1) := by decide +kernel
theorem dX8_hears_31 : decode cX8_hears 31 = .ok (.aload_n 0, 1) := by decide +kernel
theorem dX8_hears_32 : decode cX8_hears 32 = .ok (.getfield 10, 3) := by decide +kernel
theorem dX8_hears_35 : decode cX8_hears 35 = .ok (.getfield 28, 3) := by decide +kernel
theorem dX8_hears_38 : decode cX8_hears 38 = .ok (.getfield 87, 3) := by decide +kernel
theorem dX8_hears_41 : decode cX8_hears 41 = .ok (.iload_n 1, 1) := by decide +kernel
theorem dX8_hears_42 : decode cX8_hears 42 = .ok (.iaload, 1) := by decide +kernel
theorem dX8_hears_43 : decode cX8_hears 43 = .ok (.istore_n 3, 1) := by decide +kernel
theorem dX8_hears_44 : decode cX8_hears 44 = .ok (.aload_n 0, 1) := by decide +kernel
theorem dX8_hears_45 : decode cX8_hears 45 = .ok (.getfield 10, 3) := by decide +kernel
theorem dX8_hears_48 : decode cX8_hears 48 = .ok (.getfield 28, 3) := by decide +kernel
theorem dX8_hears_51 : decode cX8_hears 51 = .ok (.getfield 87, 3) := by decide +kernel
theorem dX8_hears_54 : decode cX8_hears 54 = .ok (.iload_n 1, 1) := by decide +kernel
theorem dX8_hears_55 : decode cX8_hears 55 = .ok (.iload_n 2, 1) := by decide +kernel
theorem dX8_hears_56 : decode cX8_hears 56 = .ok (.iastore, 1) := by decide +kernel
theorem dX8_hears_57 : decode cX8_hears 57 = .ok (.iload_n 3, 1) := by decide +kernel
theorem dX8_hears_58 : decode cX8_hears 58 = .ok (.ireturn, 1) := by decide +kernel
theorem dX8_feed_0 : decode cX8_feed 0 = .ok (.iload_n 3, 1) := by decide +kernel
theorem dX8_feed_1 : decode cX8_feed 1 = .ok (.iconst 1, 1) := by decide +kernel
theorem dX8_feed_2 : decode cX8_feed 2 = .ok (.bipush 8, 2) := by decide +kernel
theorem dX8_feed_4 : decode cX8_feed 4 = .ok (.invokestatic 61, 3) := by decide +kernel
theorem dX8_feed_7 : decode cX8_feed 7 = .ok (.ifCond .ne 9, 3) := by decide +kernel
theorem dX8_feed_10 : decode cX8_feed 10 = .ok (.aload_n 0, 1) := by decide +kernel
theorem dX8_feed_11 : decode cX8_feed 11 = .ok (.iconst 1, 1) := by decide +kernel
theorem dX8_feed_12 : decode cX8_feed 12 = .ok (.invokevirtual 65, 3) := by decide +kernel
theorem dX8_feed_15 : decode cX8_feed 15 = .ok (.ireturn, 1) := by decide +kernel
theorem dX8_feed_16 : decode cX8_feed 16 = .ok (.aload_n 0, 1) := by decide +kernel
theorem dX8_feed_17 : decode cX8_feed 17 = .ok (.getfield 10, 3) := by decide +kernel
theorem dX8_feed_20 : decode cX8_feed 20 = .ok (.getfield 125, 3) := by decide +kernel
theorem dX8_feed_23 : decode cX8_feed 23 = .ok (.getfield 129, 3) := by decide +kernel
theorem dX8_feed_26 : decode cX8_feed 26 = .ok (.iload_n 3, 1) := by decide +kernel
theorem dX8_feed_27 : decode cX8_feed 27 = .ok (.iadd, 1) := by decide +kernel
theorem dX8_feed_28 : decode cX8_feed 28 = .ok (.bipush 60, 2) := by decide +kernel
theorem dX8_feed_30 : decode cX8_feed 30 = .ok (.if_icmp .le 9, 3) := by decide +kernel
theorem dX8_feed_33 : decode cX8_feed 33 = .ok (.aload_n 0, 1) := by decide +kernel
theorem dX8_feed_34 : decode cX8_feed 34 = .ok (.iconst 4, 1) := by decide +kernel
theorem dX8_feed_35 : decode cX8_feed 35 = .ok (.invokevirtual 65, 3) := by decide +kernel
theorem dX8_feed_38 : decode cX8_feed 38 = .ok (.ireturn, 1) := by decide +kernel
theorem dX8_feed_39 : decode cX8_feed 39 = .ok (.iconst 0, 1) := by decide +kernel
theorem dX8_feed_40 : decode cX8_feed 40 = .ok (.istore 4, 2) := by decide +kernel
theorem dX8_feed_42 : decode cX8_feed 42 = .ok (.iload 4, 2) := by decide +kernel
theorem dX8_feed_44 : decode cX8_feed 44 = .ok (.iload_n 3, 1) := by decide +kernel
theorem dX8_feed_45 : decode cX8_feed 45 = .ok (.if_icmp .ge 31, 3) := by decide +kernel
theorem dX8_feed_48 : decode cX8_feed 48 = .ok (.aload_n 0, 1) := by decide +kernel
theorem dX8_feed_49 : decode cX8_feed 49 = .ok (.getfield 10, 3) := by decide +kernel
theorem dX8_feed_52 : decode cX8_feed 52 = .ok (.getfield 125, 3) := by decide +kernel
theorem dX8_feed_55 : decode cX8_feed 55 = .ok (.lload_n 1, 1) := by decide +kernel
theorem dX8_feed_56 : decode cX8_feed 56 = .ok (.bipush 8, 2) := by decide +kernel
theorem dX8_feed_58 : decode cX8_feed 58 = .ok (.iload 4, 2) := by decide +kernel
theorem dX8_feed_60 : decode cX8_feed 60 = .ok (.imul, 1) := by decide +kernel
theorem dX8_feed_61 : decode cX8_feed 61 = .ok (.lushr, 1) := by decide +kernel
theorem dX8_feed_62 : decode cX8_feed 62 = .ok (.l2i, 1) := by decide +kernel
theorem dX8_feed_63 : decode cX8_feed 63 = .ok (.sipush 255, 3) := by decide +kernel
theorem dX8_feed_66 : decode cX8_feed 66 = .ok (.iand, 1) := by decide +kernel
theorem dX8_feed_67 : decode cX8_feed 67 = .ok (.invokevirtual 134, 3) := by decide +kernel
theorem dX8_feed_70 : decode cX8_feed 70 = .ok (.iinc 4 1, 3) := by decide +kernel
theorem dX8_feed_73 : decode cX8_feed 73 = .ok (.goto (-31), 3) := by decide +kernel
theorem dX8_feed_76 : decode cX8_feed 76 = .ok (.aload_n 0, 1) := by decide +kernel
theorem dX8_feed_77 : decode cX8_feed 77 = .ok (.getfield 10, 3) := by decide +kernel
theorem dX8_feed_80 : decode cX8_feed 80 = .ok (.getfield 125, 3) := by decide +kernel
theorem dX8_feed_83 : decode cX8_feed 83 = .ok (.getfield 129, 3) := by decide +kernel
theorem dX8_feed_86 : decode cX8_feed 86 = .ok (.ireturn, 1) := by decide +kernel
theorem dX8_text_0 : decode cX8_text 0 = .ok (.iload_n 1, 1) := by decide +kernel
theorem dX8_text_1 : decode cX8_text 1 = .ok (.invokestatic 138, 3) := by decide +kernel
theorem dX8_text_4 : decode cX8_text 4 = .ok (.ifCond .ne 9, 3) := by decide +kernel
theorem dX8_text_7 : decode cX8_text 7 = .ok (.aload_n 0, 1) := by decide +kernel
theorem dX8_text_8 : decode cX8_text 8 = .ok (.iconst 1, 1) := by decide +kernel
theorem dX8_text_9 : decode cX8_text 9 = .ok (.invokevirtual 65, 3) := by decide +kernel
theorem dX8_text_12 : decode cX8_text 12 = .ok (.ireturn, 1) := by decide +kernel
theorem dX8_text_13 : decode cX8_text 13 = .ok (.aload_n 0, 1) := by decide +kernel
theorem dX8_text_14 : decode cX8_text 14 = .ok (.getfield 22, 3) := by decide +kernel
theorem dX8_text_17 : decode cX8_text 17 = .ok (.aload_n 0, 1) := by decide +kernel
theorem dX8_text_18 : decode cX8_text 18 = .ok (.getfield 10, 3) := by decide +kernel
theorem dX8_text_21 : decode cX8_text 21 = .ok (.getfield 125, 3) := by decide +kernel
theorem dX8_text_24 : decode cX8_text 24 = .ok (.iload_n 1, 1) := by decide +kernel
theorem dX8_text_25 : decode cX8_text 25 = .ok (.invokevirtual 141, 3) := by decide +kernel
theorem dX8_text_28 : decode cX8_text 28 = .ok (.istore_n 2, 1) := by decide +kernel
theorem dX8_text_29 : decode cX8_text 29 = .ok (.aload_n 0, 1) := by decide +kernel
theorem dX8_text_30 : decode cX8_text 30 = .ok (.getfield 10, 3) := by decide +kernel
theorem dX8_text_33 : decode cX8_text 33 = .ok (.getfield 125, 3) := by decide +kernel
theorem dX8_text_36 : decode cX8_text 36 = .ok (.invokevirtual 145, 3) := by decide +kernel
theorem dX8_text_39 : decode cX8_text 39 = .ok (.iload_n 2, 1) := by decide +kernel
theorem dX8_text_40 : decode cX8_text 40 = .ok (.ifCond .lt 8, 3) := by decide +kernel
theorem dX8_text_43 : decode cX8_text 43 = .ok (.bipush (-10), 2) := by decide +kernel
theorem dX8_text_45 : decode cX8_text 45 = .ok (.iload_n 2, 1) := by decide +kernel
theorem dX8_text_46 : decode cX8_text 46 = .ok (.isub, 1) := by decide +kernel
theorem dX8_text_47 : decode cX8_text 47 = .ok (.ireturn, 1) := by decide +kernel
theorem dX8_text_48 : decode cX8_text 48 = .ok (.aload_n 0, 1) := by decide +kernel
theorem dX8_text_49 : decode cX8_text 49 = .ok (.getfield 10, 3) := by decide +kernel
theorem dX8_text_52 : decode cX8_text 52 = .ok (.iload_n 1, 1) := by decide +kernel
theorem dX8_text_53 : decode cX8_text 53 = .ok (.invokevirtual 148, 3) := by decide +kernel
theorem dX8_text_56 : decode cX8_text 56 = .ok (.aload_n 0, 1) := by decide +kernel
theorem dX8_text_57 : decode cX8_text 57 = .ok (.getfield 22, 3) := by decide +kernel
theorem dX8_text_60 : decode cX8_text 60 = .ok (.getfield 152, 3) := by decide +kernel
theorem dX8_text_63 : decode cX8_text 63 = .ok (.invokevirtual 155, 3) := by decide +kernel
theorem dX8_text_66 : decode cX8_text 66 = .ok (.iconst 1, 1) := by decide +kernel
theorem dX8_text_67 : decode cX8_text 67 = .ok (.ireturn, 1) := by decide +kernel
theorem dX8_untell_0 : decode cX8_untell 0 = .ok (.iload_n 1, 1) := by decide +kernel
theorem dX8_untell_1 : decode cX8_untell 1 = .ok (.invokestatic 138, 3) := by decide +kernel
theorem dX8_untell_4 : decode cX8_untell 4 = .ok (.ifCond .ne 9, 3) := by decide +kernel
theorem dX8_untell_7 : decode cX8_untell 7 = .ok (.aload_n 0, 1) := by decide +kernel
theorem dX8_untell_8 : decode cX8_untell 8 = .ok (.iconst 1, 1) := by decide +kernel
theorem dX8_untell_9 : decode cX8_untell 9 = .ok (.invokevirtual 65, 3) := by decide +kernel
theorem dX8_untell_12 : decode cX8_untell 12 = .ok (.ireturn, 1) := by decide +kernel
theorem dX8_untell_13 : decode cX8_untell 13 = .ok (.aload_n 0, 1) := by decide +kernel
theorem dX8_untell_14 : decode cX8_untell 14 = .ok (.getfield 10, 3) := by decide +kernel
theorem dX8_untell_17 : decode cX8_untell 17 = .ok (.iload_n 1, 1) := by decide +kernel
theorem dX8_untell_18 : decode cX8_untell 18 = .ok (.invokevirtual 148, 3) := by decide +kernel
theorem dX8_untell_21 : decode cX8_untell 21 = .ok (.getfield 161, 3) := by decide +kernel
theorem dX8_untell_24 : decode cX8_untell 24 = .ok (.astore_n 2, 1) := by decide +kernel
theorem dX8_untell_25 : decode cX8_untell 25 = .ok (.aload_n 2, 1) := by decide +kernel
theorem dX8_untell_26 : decode cX8_untell 26 = .ok (.getfield 129, 3) := by decide +kernel
theorem dX8_untell_29 : decode cX8_untell 29 = .ok (.ifCond .le 7, 3) := by decide +kernel
theorem dX8_untell_32 : decode cX8_untell 32 = .ok (.iconst 1, 1) := by decide +kernel
theorem dX8_untell_33 : decode cX8_untell 33 = .ok (.goto 4, 3) := by decide +kernel
theorem dX8_untell_36 : decode cX8_untell 36 = .ok (.iconst 0, 1) := by decide +kernel
theorem dX8_untell_37 : decode cX8_untell 37 = .ok (.istore_n 3, 1) := by decide +kernel
theorem dX8_untell_38 : decode cX8_untell 38 = .ok (.aload_n 2, 1) := by decide +kernel
theorem dX8_untell_39 : decode cX8_untell 39 = .ok (.invokevirtual 145, 3) := by decide +kernel
theorem dX8_untell_42 : decode cX8_untell 42 = .ok (.iload_n 3, 1) := by decide +kernel
theorem dX8_untell_43 : decode cX8_untell 43 = .ok (.ireturn, 1) := by decide +kernel
theorem dX8_law_0 : decode cX8_law 0 = .ok (.iload_n 1, 1) := by decide +kernel
theorem dX8_law_1 : decode cX8_law 1 = .ok (.invokestatic 138, 3) := by decide +kernel
theorem dX8_law_4 : decode cX8_law 4 = .ok (.ifCond .ne 9, 3) := by decide +kernel
theorem dX8_law_7 : decode cX8_law 7 = .ok (.aload_n 0, 1) := by decide +kernel
theorem dX8_law_8 : decode cX8_law 8 = .ok (.iconst 1, 1) := by decide +kernel
theorem dX8_law_9 : decode cX8_law 9 = .ok (.invokevirtual 65, 3) := by decide +kernel
theorem dX8_law_12 : decode cX8_law 12 = .ok (.ireturn, 1) := by decide +kernel
theorem dX8_law_13 : decode cX8_law 13 = .ok (.aload_n 0, 1) := by decide +kernel
theorem dX8_law_14 : decode cX8_law 14 = .ok (.getfield 10, 3) := by decide +kernel
theorem dX8_law_17 : decode cX8_law 17 = .ok (.iload_n 1, 1) := by decide +kernel
theorem dX8_law_18 : decode cX8_law 18 = .ok (.invokevirtual 148, 3) := by decide +kernel
theorem dX8_law_21 : decode cX8_law 21 = .ok (.iload_n 2, 1) := by decide +kernel
theorem dX8_law_22 : decode cX8_law 22 = .ok (.iload_n 3, 1) := by decide +kernel
theorem dX8_law_23 : decode cX8_law 23 = .ok (.iload 4, 2) := by decide +kernel
theorem dX8_law_25 : decode cX8_law 25 = .ok (.invokevirtual 162, 3) := by decide +kernel
theorem dX8_law_28 : decode cX8_law 28 = .ok (.ireturn, 1) := by decide +kernel
theorem dX8_days_0 : decode cX8_days 0 = .ok (.iload_n 1, 1) := by decide +kernel
theorem dX8_days_1 : decode cX8_days 1 = .ok (.iconst 1, 1) := by decide +kernel
theorem dX8_days_2 : decode cX8_days 2 = .ok (.bipush 60, 2) := by decide +kernel
theorem dX8_days_4 : decode cX8_days 4 = .ok (.invokestatic 61, 3) := by decide +kernel
theorem dX8_days_7 : decode cX8_days 7 = .ok (.ifCond .ne 9, 3) := by decide +kernel
theorem dX8_days_10 : decode cX8_days 10 = .ok (.aload_n 0, 1) := by decide +kernel
theorem dX8_days_11 : decode cX8_days 11 = .ok (.iconst 1, 1) := by decide +kernel
theorem dX8_days_12 : decode cX8_days 12 = .ok (.invokevirtual 65, 3) := by decide +kernel
theorem dX8_days_15 : decode cX8_days 15 = .ok (.ireturn, 1) := by decide +kernel
theorem dX8_days_16 : decode cX8_days 16 = .ok (.aload_n 0, 1) := by decide +kernel
theorem dX8_days_17 : decode cX8_days 17 = .ok (.getfield 10, 3) := by decide +kernel
theorem dX8_days_20 : decode cX8_days 20 = .ok (.getfield 28, 3) := by decide +kernel
theorem dX8_days_23 : decode cX8_days 23 = .ok (.getfield 166, 3) := by decide +kernel
theorem dX8_days_26 : decode cX8_days 26 = .ok (.iload_n 1, 1) := by decide +kernel
theorem dX8_days_27 : decode cX8_days 27 = .ok (.iadd, 1) := by decide +kernel
theorem dX8_days_28 : decode cX8_days 28 = .ok (.sipush 9999, 3) := by decide +kernel
theorem dX8_days_31 : decode cX8_days 31 = .ok (.if_icmp .le 9, 3) := by decide +kernel
theorem dX8_days_34 : decode cX8_days 34 = .ok (.aload_n 0, 1) := by decide +kernel
theorem dX8_days_35 : decode cX8_days 35 = .ok (.iconst 3, 1) := by decide +kernel
theorem dX8_days_36 : decode cX8_days 36 = .ok (.invokevirtual 65, 3) := by decide +kernel
theorem dX8_days_39 : decode cX8_days 39 = .ok (.ireturn, 1) := by decide +kernel
theorem dX8_days_40 : decode cX8_days 40 = .ok (.aload_n 0, 1) := by decide +kernel
theorem dX8_days_41 : decode cX8_days 41 = .ok (.getfield 10, 3) := by decide +kernel
theorem dX8_days_44 : decode cX8_days 44 = .ok (.getfield 28, 3) := by decide +kernel
theorem dX8_days_47 : decode cX8_days 47 = .ok (.iload_n 1, 1) := by decide +kernel
theorem dX8_days_48 : decode cX8_days 48 = .ok (.invokevirtual 169, 3) := by decide +kernel
theorem dX8_days_51 : decode cX8_days 51 = .ok (.aload_n 0, 1) := by decide +kernel
theorem dX8_days_52 : decode cX8_days 52 = .ok (.getfield 10, 3) := by decide +kernel
theorem dX8_days_55 : decode cX8_days 55 = .ok (.getfield 28, 3) := by decide +kernel
theorem dX8_days_58 : decode cX8_days 58 = .ok (.getfield 172, 3) := by decide +kernel
theorem dX8_days_61 : decode cX8_days 61 = .ok (.ireturn, 1) := by decide +kernel
theorem dX8_loose_0 : decode cX8_loose 0 = .ok (.iload_n 1, 1) := by decide +kernel
theorem dX8_loose_1 : decode cX8_loose 1 = .ok (.iconst 1, 1) := by decide +kernel
theorem dX8_loose_2 : decode cX8_loose 2 = .ok (.bipush 30, 2) := by decide +kernel
theorem dX8_loose_4 : decode cX8_loose 4 = .ok (.invokestatic 61, 3) := by decide +kernel
theorem dX8_loose_7 : decode cX8_loose 7 = .ok (.ifCond .ne 9, 3) := by decide +kernel
theorem dX8_loose_10 : decode cX8_loose 10 = .ok (.aload_n 0, 1) := by decide +kernel
theorem dX8_loose_11 : decode cX8_loose 11 = .ok (.iconst 1, 1) := by decide +kernel
theorem dX8_loose_12 : decode cX8_loose 12 = .ok (.invokevirtual 65, 3) := by decide +kernel
theorem dX8_loose_15 : decode cX8_loose 15 = .ok (.ireturn, 1) := by decide +kernel
theorem dX8_loose_16 : decode cX8_loose 16 = .ok (.aload_n 0, 1) := by decide +kernel
theorem dX8_loose_17 : decode cX8_loose 17 = .ok (.getfield 10, 3) := by decide +kernel
theorem dX8_loose_20 : decode cX8_loose 20 = .ok (.getfield 28, 3) := by decide +kernel
theorem dX8_loose_23 : decode cX8_loose 23 = .ok (.getfield 166, 3) := by decide +kernel
theorem dX8_loose_26 : decode cX8_loose 26 = .ok (.iload_n 1, 1) := by decide +kernel
theorem dX8_loose_27 : decode cX8_loose 27 = .ok (.iadd, 1) := by decide +kernel
theorem dX8_loose_28 : decode cX8_loose 28 = .ok (.sipush 9999, 3) := by decide +kernel
theorem dX8_loose_31 : decode cX8_loose 31 = .ok (.if_icmp .le 9, 3) := by decide +kernel
theorem dX8_loose_34 : decode cX8_loose 34 = .ok (.aload_n 0, 1) := by decide +kernel
theorem dX8_loose_35 : decode cX8_loose 35 = .ok (.iconst 3, 1) := by decide +kernel
theorem dX8_loose_36 : decode cX8_loose 36 = .ok (.invokevirtual 65, 3) := by decide +kernel
theorem dX8_loose_39 : decode cX8_loose 39 = .ok (.ireturn, 1) := by decide +kernel
theorem dX8_loose_40 : decode cX8_loose 40 = .ok (.iconst 0, 1) := by decide +kernel
theorem dX8_loose_41 : decode cX8_loose 41 = .ok (.istore_n 2, 1) := by decide +kernel
theorem dX8_loose_42 : decode cX8_loose 42 = .ok (.iload_n 2, 1) := by decide +kernel
theorem dX8_loose_43 : decode cX8_loose 43 = .ok (.iload_n 1, 1) := by decide +kernel
theorem dX8_loose_44 : decode cX8_loose 44 = .ok (.if_icmp .ge 30, 3) := by decide +kernel
theorem dX8_loose_47 : decode cX8_loose 47 = .ok (.aload_n 0, 1) := by decide +kernel
theorem dX8_loose_48 : decode cX8_loose 48 = .ok (.getfield 10, 3) := by decide +kernel
theorem dX8_loose_51 : decode cX8_loose 51 = .ok (.getfield 28, 3) := by decide +kernel
theorem dX8_loose_54 : decode cX8_loose 54 = .ok (.invokevirtual 175, 3) := by decide +kernel
theorem dX8_loose_57 : decode cX8_loose 57 = .ok (.aload_n 0, 1) := by decide +kernel
theorem dX8_loose_58 : decode cX8_loose 58 = .ok (.getfield 10, 3) := by decide +kernel
theorem dX8_loose_61 : decode cX8_loose 61 = .ok (.getfield 28, 3) := by decide +kernel
theorem dX8_loose_64 : decode cX8_loose 64 = .ok (.iconst 1, 1) := by decide +kernel
theorem dX8_loose_65 : decode cX8_loose 65 = .ok (.invokevirtual 169, 3) := by decide +kernel
theorem dX8_loose_68 : decode cX8_loose 68 = .ok (.iinc 2 1, 3) := by decide +kernel
theorem dX8_loose_71 : decode cX8_loose 71 = .ok (.goto (-29), 3) := by decide +kernel
theorem dX8_loose_74 : decode cX8_loose 74 = .ok (.aload_n 0, 1) := by decide +kernel
theorem dX8_loose_75 : decode cX8_loose 75 = .ok (.getfield 10, 3) := by decide +kernel
theorem dX8_loose_78 : decode cX8_loose 78 = .ok (.getfield 28, 3) := by decide +kernel
theorem dX8_loose_81 : decode cX8_loose 81 = .ok (.getfield 172, 3) := by decide +kernel
theorem dX8_loose_84 : decode cX8_loose 84 = .ok (.ireturn, 1) := by decide +kernel
theorem dX8_day_0 : decode cX8_day 0 = .ok (.iload_n 1, 1) := by decide +kernel
theorem dX8_day_1 : decode cX8_day 1 = .ok (.iconst 0, 1) := by decide +kernel
theorem dX8_day_2 : decode cX8_day 2 = .ok (.sipush 9999, 3) := by decide +kernel
theorem dX8_day_5 : decode cX8_day 5 = .ok (.invokestatic 61, 3) := by decide +kernel
theorem dX8_day_8 : decode cX8_day 8 = .ok (.ifCond .ne 9, 3) := by decide +kernel
theorem dX8_day_11 : decode cX8_day 11 = .ok (.aload_n 0, 1) := by decide +kernel
theorem dX8_day_12 : decode cX8_day 12 = .ok (.iconst 1, 1) := by decide +kernel
theorem dX8_day_13 : decode cX8_day 13 = .ok (.invokevirtual 65, 3) := by decide +kernel
theorem dX8_day_16 : decode cX8_day 16 = .ok (.ireturn, 1) := by decide +kernel
theorem dX8_day_17 : decode cX8_day 17 = .ok (.aload_n 0, 1) := by decide +kernel
theorem dX8_day_18 : decode cX8_day 18 = .ok (.getfield 10, 3) := by decide +kernel
theorem dX8_day_21 : decode cX8_day 21 = .ok (.getfield 28, 3) := by decide +kernel
theorem dX8_day_24 : decode cX8_day 24 = .ok (.getfield 166, 3) := by decide +kernel
theorem dX8_day_27 : decode cX8_day 27 = .ok (.istore_n 2, 1) := by decide +kernel
theorem dX8_day_28 : decode cX8_day 28 = .ok (.aload_n 0, 1) := by decide +kernel
theorem dX8_day_29 : decode cX8_day 29 = .ok (.getfield 10, 3) := by decide +kernel
theorem dX8_day_32 : decode cX8_day 32 = .ok (.getfield 28, 3) := by decide +kernel
theorem dX8_day_35 : decode cX8_day 35 = .ok (.iload_n 1, 1) := by decide +kernel
theorem dX8_day_36 : decode cX8_day 36 = .ok (.putfield 166, 3) := by decide +kernel
theorem dX8_day_39 : decode cX8_day 39 = .ok (.iload_n 2, 1) := by decide +kernel
theorem dX8_day_40 : decode cX8_day 40 = .ok (.ireturn, 1) := by decide +kernel
theorem dX8_seed_0 : decode cX8_seed 0 = .ok (.aload_n 0, 1) := by decide +kernel
theorem dX8_seed_1 : decode cX8_seed 1 = .ok (.getfield 10, 3) := by decide +kernel
theorem dX8_seed_4 : decode cX8_seed 4 = .ok (.getfield 28, 3) := by decide +kernel
theorem dX8_seed_7 : decode cX8_seed 7 = .ok (.getfield 178, 3) := by decide +kernel
theorem dX8_seed_10 : decode cX8_seed 10 = .ok (.istore_n 2, 1) := by decide +kernel
theorem dX8_seed_11 : decode cX8_seed 11 = .ok (.aload_n 0, 1) := by decide +kernel
theorem dX8_seed_12 : decode cX8_seed 12 = .ok (.getfield 10, 3) := by decide +kernel
theorem dX8_seed_15 : decode cX8_seed 15 = .ok (.getfield 28, 3) := by decide +kernel
theorem dX8_seed_18 : decode cX8_seed 18 = .ok (.iload_n 1, 1) := by decide +kernel
theorem dX8_seed_19 : decode cX8_seed 19 = .ok (.putfield 178, 3) := by decide +kernel
theorem dX8_seed_22 : decode cX8_seed 22 = .ok (.iload_n 2, 1) := by decide +kernel
theorem dX8_seed_23 : decode cX8_seed 23 = .ok (.ireturn, 1) := by decide +kernel
theorem dX8_then_0 : decode cX8_then 0 = .ok (.iload_n 1, 1) := by decide +kernel
theorem dX8_then_1 : decode cX8_then 1 = .ok (.iconst 0, 1) := by decide +kernel
theorem dX8_then_2 : decode cX8_then 2 = .ok (.bipush 60, 2) := by decide +kernel
theorem dX8_then_4 : decode cX8_then 4 = .ok (.invokestatic 61, 3) := by decide +kernel
theorem dX8_then_7 : decode cX8_then 7 = .ok (.ifCond .eq 12, 3) := by decide +kernel
theorem dX8_then_10 : decode cX8_then 10 = .ok (.iload_n 2, 1) := by decide +kernel
theorem dX8_then_11 : decode cX8_then 11 = .ok (.iconst 0, 1) := by decide +kernel
theorem dX8_then_12 : decode cX8_then 12 = .ok (.iconst 3, 1) := by decide +kernel
theorem dX8_then_13 : decode cX8_then 13 = .ok (.invokestatic 61, 3) := by decide +kernel
theorem dX8_then_16 : decode cX8_then 16 = .ok (.ifCond .ne 9, 3) := by decide +kernel
theorem dX8_then_19 : decode cX8_then 19 = .ok (.aload_n 0, 1) := by decide +kernel
theorem dX8_then_20 : decode cX8_then 20 = .ok (.iconst 1, 1) := by decide +kernel
theorem dX8_then_21 : decode cX8_then 21 = .ok (.invokevirtual 65, 3) := by decide +kernel
theorem dX8_then_24 : decode cX8_then 24 = .ok (.ireturn, 1) := by decide +kernel
theorem dX8_then_25 : decode cX8_then 25 = .ok (.aload_n 0, 1) := by decide +kernel
theorem dX8_then_26 : decode cX8_then 26 = .ok (.getfield 35, 3) := by decide +kernel
theorem dX8_then_29 : decode cX8_then 29 = .ok (.iload_n 1, 1) := by decide +kernel
theorem dX8_then_30 : decode cX8_then 30 = .ok (.invokevirtual 181, 3) := by decide +kernel
theorem dX8_then_33 : decode cX8_then 33 = .ok (.astore_n 3, 1) := by decide +kernel
theorem dX8_then_34 : decode cX8_then 34 = .ok (.iload_n 2, 1) := by decide +kernel
theorem dX8_then_35 : decode cX8_then 35 = .ok (.tableswitch 40 0 2 #[25, 30, 35], 25) := by decide +kernel
theorem dX8_then_60 : decode cX8_then 60 = .ok (.aload_n 3, 1) := by decide +kernel
theorem dX8_then_61 : decode cX8_then 61 = .ok (.getfield 172, 3) := by decide +kernel
theorem dX8_then_64 : decode cX8_then 64 = .ok (.ireturn, 1) := by decide +kernel
theorem dX8_then_65 : decode cX8_then 65 = .ok (.aload_n 3, 1) := by decide +kernel
theorem dX8_then_66 : decode cX8_then 66 = .ok (.getfield 185, 3) := by decide +kernel
theorem dX8_then_69 : decode cX8_then 69 = .ok (.ireturn, 1) := by decide +kernel
theorem dX8_then_70 : decode cX8_then 70 = .ok (.aload_n 3, 1) := by decide +kernel
theorem dX8_then_71 : decode cX8_then 71 = .ok (.getfield 113, 3) := by decide +kernel
theorem dX8_then_74 : decode cX8_then 74 = .ok (.ireturn, 1) := by decide +kernel
theorem dX8_then_75 : decode cX8_then 75 = .ok (.aload_n 3, 1) := by decide +kernel
theorem dX8_then_76 : decode cX8_then 76 = .ok (.invokevirtual 188, 3) := by decide +kernel
theorem dX8_then_79 : decode cX8_then 79 = .ok (.ireturn, 1) := by decide +kernel
theorem dX8_soonest_0 : decode cX8_soonest 0 = .ok (.aload_n 0, 1) := by decide +kernel
theorem dX8_soonest_1 : decode cX8_soonest 1 = .ok (.getfield 10, 3) := by decide +kernel
theorem dX8_soonest_4 : decode cX8_soonest 4 = .ok (.getfield 28, 3) := by decide +kernel
theorem dX8_soonest_7 : decode cX8_soonest 7 = .ok (.iload_n 1, 1) := by decide +kernel
theorem dX8_soonest_8 : decode cX8_soonest 8 = .ok (.invokevirtual 77, 3) := by decide +kernel
theorem dX8_soonest_11 : decode cX8_soonest 11 = .ok (.ifCond .eq 14, 3) := by decide +kernel
theorem dX8_soonest_14 : decode cX8_soonest 14 = .ok (.iload_n 2, 1) := by decide +kernel
theorem dX8_soonest_15 : decode cX8_soonest 15 = .ok (.iconst 0, 1) := by decide +kernel
theorem dX8_soonest_16 : decode cX8_soonest 16 = .ok (.sipush 9999, 3) := by decide +kernel
theorem dX8_soonest_19 : decode cX8_soonest 19 = .ok (.invokestatic 61, 3) := by decide +kernel
theorem dX8_soonest_22 : decode cX8_soonest 22 = .ok (.ifCond .ne 9, 3) := by decide +kernel
theorem dX8_soonest_25 : decode cX8_soonest 25 = .ok (.aload_n 0, 1) := by decide +kernel
theorem dX8_soonest_26 : decode cX8_soonest 26 = .ok (.iconst 1, 1) := by decide +kernel
theorem dX8_soonest_27 : decode cX8_soonest 27 = .ok (.invokevirtual 65, 3) := by decide +kernel
theorem dX8_soonest_30 : decode cX8_soonest 30 = .ok (.ireturn, 1) := by decide +kernel
theorem dX8_soonest_31 : decode cX8_soonest 31 = .ok (.aload_n 0, 1) := by decide +kernel
theorem dX8_soonest_32 : decode cX8_soonest 32 = .ok (.getfield 35, 3) := by decide +kernel
theorem dX8_soonest_35 : decode cX8_soonest 35 = .ok (.iload_n 1, 1) := by decide +kernel
theorem dX8_soonest_36 : decode cX8_soonest 36 = .ok (.iload_n 2, 1) := by decide +kernel
theorem dX8_soonest_37 : decode cX8_soonest 37 = .ok (.invokevirtual 192, 3) := by decide +kernel
theorem dX8_soonest_40 : decode cX8_soonest 40 = .ok (.istore_n 3, 1) := by decide +kernel
theorem dX8_soonest_41 : decode cX8_soonest 41 = .ok (.iload_n 3, 1) := by decide +kernel
theorem dX8_soonest_42 : decode cX8_soonest 42 = .ok (.ifCond .ge 11, 3) := by decide +kernel
theorem dX8_soonest_45 : decode cX8_soonest 45 = .ok (.aload_n 0, 1) := by decide +kernel
theorem dX8_soonest_46 : decode cX8_soonest 46 = .ok (.iconst 2, 1) := by decide +kernel
theorem dX8_soonest_47 : decode cX8_soonest 47 = .ok (.invokevirtual 65, 3) := by decide +kernel
theorem dX8_soonest_50 : decode cX8_soonest 50 = .ok (.goto 4, 3) := by decide +kernel
theorem dX8_soonest_53 : decode cX8_soonest 53 = .ok (.iload_n 3, 1) := by decide +kernel
theorem dX8_soonest_54 : decode cX8_soonest 54 = .ok (.ireturn, 1) := by decide +kernel
theorem dX8_startFor_0 : decode cX8_startFor 0 = .ok (.aload_n 0, 1) := by decide +kernel
theorem dX8_startFor_1 : decode cX8_startFor 1 = .ok (.getfield 10, 3) := by decide +kernel
theorem dX8_startFor_4 : decode cX8_startFor 4 = .ok (.getfield 28, 3) := by decide +kernel
theorem dX8_startFor_7 : decode cX8_startFor 7 = .ok (.iload_n 1, 1) := by decide +kernel
theorem dX8_startFor_8 : decode cX8_startFor 8 = .ok (.invokevirtual 77, 3) := by decide +kernel
theorem dX8_startFor_11 : decode cX8_startFor 11 = .ok (.ifCond .eq 22, 3) := by decide +kernel
theorem dX8_startFor_14 : decode cX8_startFor 14 = .ok (.iload_n 2, 1) := by decide +kernel
theorem dX8_startFor_15 : decode cX8_startFor 15 = .ok (.iconst 0, 1) := by decide +kernel
theorem dX8_startFor_16 : decode cX8_startFor 16 = .ok (.bipush 40, 2) := by decide +kernel
theorem dX8_startFor_18 : decode cX8_startFor 18 = .ok (.invokestatic 61, 3) := by decide +kernel
theorem dX8_startFor_21 : decode cX8_startFor 21 = .ok (.ifCond .eq 12, 3) := by decide +kernel
theorem dX8_startFor_24 : decode cX8_startFor 24 = .ok (.iload_n 3, 1) := by decide +kernel
theorem dX8_startFor_25 : decode cX8_startFor 25 = .ok (.iconst 0, 1) := by decide +kernel
theorem dX8_startFor_26 : decode cX8_startFor 26 = .ok (.iconst 1, 1) := by decide +kernel
theorem dX8_startFor_27 : decode cX8_startFor 27 = .ok (.invokestatic 61, 3) := by decide +kernel
theorem dX8_startFor_30 : decode cX8_startFor 30 = .ok (.ifCond .ne 9, 3) := by decide +kernel
theorem dX8_startFor_33 : decode cX8_startFor 33 = .ok (.aload_n 0, 1) := by decide +kernel
theorem dX8_startFor_34 : decode cX8_startFor 34 = .ok (.iconst 1, 1) := by decide +kernel
theorem dX8_startFor_35 : decode cX8_startFor 35 = .ok (.invokevirtual 65, 3) := by decide +kernel
theorem dX8_startFor_38 : decode cX8_startFor 38 = .ok (.ireturn, 1) := by decide +kernel
theorem dX8_startFor_39 : decode cX8_startFor 39 = .ok (.aload_n 0, 1) := by decide +kernel
theorem dX8_startFor_40 : decode cX8_startFor 40 = .ok (.getfield 35, 3) := by decide +kernel
theorem dX8_startFor_43 : decode cX8_startFor 43 = .ok (.iload_n 1, 1) := by decide +kernel
theorem dX8_startFor_44 : decode cX8_startFor 44 = .ok (.iload_n 2, 1) := by decide +kernel
theorem dX8_startFor_45 : decode cX8_startFor 45 = .ok (.invokevirtual 196, 3) := by decide +kernel
theorem dX8_startFor_48 : decode cX8_startFor 48 = .ok (.iload_n 3, 1) := by decide +kernel
theorem dX8_startFor_49 : decode cX8_startFor 49 = .ok (.ifCond .ne 13, 3) := by decide +kernel
theorem dX8_startFor_52 : decode cX8_startFor 52 = .ok (.aload_n 0, 1) := by decide +kernel
theorem dX8_startFor_53 : decode cX8_startFor 53 = .ok (.getfield 35, 3) := by decide +kernel
theorem dX8_startFor_56 : decode cX8_startFor 56 = .ok (.getfield 199, 3) := by decide +kernel
theorem dX8_startFor_59 : decode cX8_startFor 59 = .ok (.goto 10, 3) := by decide +kernel
theorem dX8_startFor_62 : decode cX8_startFor 62 = .ok (.aload_n 0, 1) := by decide +kernel
theorem dX8_startFor_63 : decode cX8_startFor 63 = .ok (.getfield 35, 3) := by decide +kernel
theorem dX8_startFor_66 : decode cX8_startFor 66 = .ok (.getfield 202, 3) := by decide +kernel
theorem dX8_startFor_69 : decode cX8_startFor 69 = .ok (.ireturn, 1) := by decide +kernel
theorem dX8_swapFor_0 : decode cX8_swapFor 0 = .ok (.iload_n 1, 1) := by decide +kernel
theorem dX8_swapFor_1 : decode cX8_swapFor 1 = .ok (.iconst 0, 1) := by decide +kernel
theorem dX8_swapFor_2 : decode cX8_swapFor 2 = .ok (.bipush 40, 2) := by decide +kernel
theorem dX8_swapFor_4 : decode cX8_swapFor 4 = .ok (.invokestatic 61, 3) := by decide +kernel
theorem dX8_swapFor_7 : decode cX8_swapFor 7 = .ok (.ifCond .eq 12, 3) := by decide +kernel
theorem dX8_swapFor_10 : decode cX8_swapFor 10 = .ok (.iload_n 2, 1) := by decide +kernel
theorem dX8_swapFor_11 : decode cX8_swapFor 11 = .ok (.iconst 0, 1) := by decide +kernel
theorem dX8_swapFor_12 : decode cX8_swapFor 12 = .ok (.iconst 1, 1) := by decide +kernel
theorem dX8_swapFor_13 : decode cX8_swapFor 13 = .ok (.invokestatic 61, 3) := by decide +kernel
theorem dX8_swapFor_16 : decode cX8_swapFor 16 = .ok (.ifCond .ne 9, 3) := by decide +kernel
theorem dX8_swapFor_19 : decode cX8_swapFor 19 = .ok (.aload_n 0, 1) := by decide +kernel
theorem dX8_swapFor_20 : decode cX8_swapFor 20 = .ok (.iconst 1, 1) := by decide +kernel
theorem dX8_swapFor_21 : decode cX8_swapFor 21 = .ok (.invokevirtual 65, 3) := by decide +kernel
theorem dX8_swapFor_24 : decode cX8_swapFor 24 = .ok (.ireturn, 1) := by decide +kernel
theorem dX8_swapFor_25 : decode cX8_swapFor 25 = .ok (.aload_n 0, 1) := by decide +kernel
theorem dX8_swapFor_26 : decode cX8_swapFor 26 = .ok (.getfield 35, 3) := by decide +kernel
theorem dX8_swapFor_29 : decode cX8_swapFor 29 = .ok (.iload_n 1, 1) := by decide +kernel
theorem dX8_swapFor_30 : decode cX8_swapFor 30 = .ok (.invokevirtual 205, 3) := by decide +kernel
theorem dX8_swapFor_33 : decode cX8_swapFor 33 = .ok (.aload_n 0, 1) := by decide +kernel
theorem dX8_swapFor_34 : decode cX8_swapFor 34 = .ok (.getfield 35, 3) := by decide +kernel
theorem dX8_swapFor_37 : decode cX8_swapFor 37 = .ok (.getfield 199, 3) := by decide +kernel
theorem dX8_swapFor_40 : decode cX8_swapFor 40 = .ok (.ifCond .ge 9, 3) := by decide +kernel
theorem dX8_swapFor_43 : decode cX8_swapFor 43 = .ok (.aload_n 0, 1) := by decide +kernel
theorem dX8_swapFor_44 : decode cX8_swapFor 44 = .ok (.iconst 2, 1) := by decide +kernel
theorem dX8_swapFor_45 : decode cX8_swapFor 45 = .ok (.invokevirtual 65, 3) := by decide +kernel
theorem dX8_swapFor_48 : decode cX8_swapFor 48 = .ok (.ireturn, 1) := by decide +kernel
theorem dX8_swapFor_49 : decode cX8_swapFor 49 = .ok (.iload_n 2, 1) := by decide +kernel
theorem dX8_swapFor_50 : decode cX8_swapFor 50 = .ok (.ifCond .ne 13, 3) := by decide +kernel
theorem dX8_swapFor_53 : decode cX8_swapFor 53 = .ok (.aload_n 0, 1) := by decide +kernel
theorem dX8_swapFor_54 : decode cX8_swapFor 54 = .ok (.getfield 35, 3) := by decide +kernel
theorem dX8_swapFor_57 : decode cX8_swapFor 57 = .ok (.getfield 199, 3) := by decide +kernel
theorem dX8_swapFor_60 : decode cX8_swapFor 60 = .ok (.goto 10, 3) := by decide +kernel
theorem dX8_swapFor_63 : decode cX8_swapFor 63 = .ok (.aload_n 0, 1) := by decide +kernel
theorem dX8_swapFor_64 : decode cX8_swapFor 64 = .ok (.getfield 35, 3) := by decide +kernel
theorem dX8_swapFor_67 : decode cX8_swapFor 67 = .ok (.getfield 202, 3) := by decide +kernel
theorem dX8_swapFor_70 : decode cX8_swapFor 70 = .ok (.ireturn, 1) := by decide +kernel
theorem dX8_spare_0 : decode cX8_spare 0 = .ok (.iload_n 1, 1) := by decide +kernel
theorem dX8_spare_1 : decode cX8_spare 1 = .ok (.iconst 0, 1) := by decide +kernel
theorem dX8_spare_2 : decode cX8_spare 2 = .ok (.bipush 40, 2) := by decide +kernel
theorem dX8_spare_4 : decode cX8_spare 4 = .ok (.invokestatic 61, 3) := by decide +kernel
theorem dX8_spare_7 : decode cX8_spare 7 = .ok (.ifCond .eq 13, 3) := by decide +kernel
theorem dX8_spare_10 : decode cX8_spare 10 = .ok (.iload_n 2, 1) := by decide +kernel
theorem dX8_spare_11 : decode cX8_spare 11 = .ok (.iconst 0, 1) := by decide +kernel
theorem dX8_spare_12 : decode cX8_spare 12 = .ok (.bipush 99, 2) := by decide +kernel
theorem dX8_spare_14 : decode cX8_spare 14 = .ok (.invokestatic 61, 3) := by decide +kernel
theorem dX8_spare_17 : decode cX8_spare 17 = .ok (.ifCond .ne 9, 3) := by decide +kernel
theorem dX8_spare_20 : decode cX8_spare 20 = .ok (.aload_n 0, 1) := by decide +kernel
theorem dX8_spare_21 : decode cX8_spare 21 = .ok (.iconst 1, 1) := by decide +kernel
theorem dX8_spare_22 : decode cX8_spare 22 = .ok (.invokevirtual 65, 3) := by decide +kernel
theorem dX8_spare_25 : decode cX8_spare 25 = .ok (.ireturn, 1) := by decide +kernel
theorem dX8_spare_26 : decode cX8_spare 26 = .ok (.aload_n 0, 1) := by decide +kernel
theorem dX8_spare_27 : decode cX8_spare 27 = .ok (.getfield 35, 3) := by decide +kernel
theorem dX8_spare_30 : decode cX8_spare 30 = .ok (.iload_n 1, 1) := by decide +kernel
theorem dX8_spare_31 : decode cX8_spare 31 = .ok (.iload_n 2, 1) := by decide +kernel
theorem dX8_spare_32 : decode cX8_spare 32 = .ok (.invokevirtual 208, 3) := by decide +kernel
theorem dX8_spare_35 : decode cX8_spare 35 = .ok (.istore_n 3, 1) := by decide +kernel
theorem dX8_spare_36 : decode cX8_spare 36 = .ok (.iload_n 3, 1) := by decide +kernel
theorem dX8_spare_37 : decode cX8_spare 37 = .ok (.ifCond .ge 11, 3) := by decide +kernel
theorem dX8_spare_40 : decode cX8_spare 40 = .ok (.aload_n 0, 1) := by decide +kernel
theorem dX8_spare_41 : decode cX8_spare 41 = .ok (.iconst 2, 1) := by decide +kernel
theorem dX8_spare_42 : decode cX8_spare 42 = .ok (.invokevirtual 65, 3) := by decide +kernel
theorem dX8_spare_45 : decode cX8_spare 45 = .ok (.goto 4, 3) := by decide +kernel
theorem dX8_spare_48 : decode cX8_spare 48 = .ok (.iload_n 3, 1) := by decide +kernel
theorem dX8_spare_49 : decode cX8_spare 49 = .ok (.ireturn, 1) := by decide +kernel
theorem dX8_odds_0 : decode cX8_odds 0 = .ok (.aload_n 0, 1) := by decide +kernel
theorem dX8_odds_1 : decode cX8_odds 1 = .ok (.getfield 10, 3) := by decide +kernel
theorem dX8_odds_4 : decode cX8_odds 4 = .ok (.getfield 28, 3) := by decide +kernel
theorem dX8_odds_7 : decode cX8_odds 7 = .ok (.iload_n 1, 1) := by decide +kernel
theorem dX8_odds_8 : decode cX8_odds 8 = .ok (.invokevirtual 77, 3) := by decide +kernel
theorem dX8_odds_11 : decode cX8_odds 11 = .ok (.ifCond .eq 34, 3) := by decide +kernel
theorem dX8_odds_14 : decode cX8_odds 14 = .ok (.iload_n 2, 1) := by decide +kernel
theorem dX8_odds_15 : decode cX8_odds 15 = .ok (.iconst 0, 1) := by decide +kernel
theorem dX8_odds_16 : decode cX8_odds 16 = .ok (.sipush 9999, 3) := by decide +kernel
theorem dX8_odds_19 : decode cX8_odds 19 = .ok (.invokestatic 61, 3) := by decide +kernel
theorem dX8_odds_22 : decode cX8_odds 22 = .ok (.ifCond .eq 23, 3) := by decide +kernel
theorem dX8_odds_25 : decode cX8_odds 25 = .ok (.iload_n 3, 1) := by decide +kernel
theorem dX8_odds_26 : decode cX8_odds 26 = .ok (.iconst 0, 1) := by decide +kernel
theorem dX8_odds_27 : decode cX8_odds 27 = .ok (.bipush 40, 2) := by decide +kernel
theorem dX8_odds_29 : decode cX8_odds 29 = .ok (.invokestatic 61, 3) := by decide +kernel
theorem dX8_odds_32 : decode cX8_odds 32 = .ok (.ifCond .eq 13, 3) := by decide +kernel
theorem dX8_odds_35 : decode cX8_odds 35 = .ok (.iload 4, 2) := by decide +kernel
theorem dX8_odds_37 : decode cX8_odds 37 = .ok (.iconst 0, 1) := by decide +kernel
theorem dX8_odds_38 : decode cX8_odds 38 = .ok (.iconst 1, 1) := by decide +kernel
theorem dX8_odds_39 : decode cX8_odds 39 = .ok (.invokestatic 61, 3) := by decide +kernel
theorem dX8_odds_42 : decode cX8_odds 42 = .ok (.ifCond .ne 9, 3) := by decide +kernel
theorem dX8_odds_45 : decode cX8_odds 45 = .ok (.aload_n 0, 1) := by decide +kernel
theorem dX8_odds_46 : decode cX8_odds 46 = .ok (.iconst 1, 1) := by decide +kernel
theorem dX8_odds_47 : decode cX8_odds 47 = .ok (.invokevirtual 65, 3) := by decide +kernel
theorem dX8_odds_50 : decode cX8_odds 50 = .ok (.ireturn, 1) := by decide +kernel
theorem dX8_odds_51 : decode cX8_odds 51 = .ok (.bipush 100, 2) := by decide +kernel
theorem dX8_odds_53 : decode cX8_odds 53 = .ok (.istore 5, 2) := by decide +kernel
theorem dX8_odds_55 : decode cX8_odds 55 = .ok (.aload_n 0, 1) := by decide +kernel
theorem dX8_odds_56 : decode cX8_odds 56 = .ok (.getfield 35, 3) := by decide +kernel
theorem dX8_odds_59 : decode cX8_odds 59 = .ok (.iload_n 1, 1) := by decide +kernel
theorem dX8_odds_60 : decode cX8_odds 60 = .ok (.iload_n 2, 1) := by decide +kernel
theorem dX8_odds_61 : decode cX8_odds 61 = .ok (.iload_n 3, 1) := by decide +kernel
theorem dX8_odds_62 : decode cX8_odds 62 = .ok (.invokevirtual 211, 3) := by decide +kernel
theorem dX8_odds_65 : decode cX8_odds 65 = .ok (.istore 6, 2) := by decide +kernel
theorem dX8_odds_67 : decode cX8_odds 67 = .ok (.iload 6, 2) := by decide +kernel
theorem dX8_odds_69 : decode cX8_odds 69 = .ok (.iload 5, 2) := by decide +kernel
theorem dX8_odds_71 : decode cX8_odds 71 = .ok (.invokestatic 214, 3) := by decide +kernel
theorem dX8_odds_74 : decode cX8_odds 74 = .ok (.istore 7, 2) := by decide +kernel
theorem dX8_odds_76 : decode cX8_odds 76 = .ok (.iload 4, 2) := by decide +kernel
theorem dX8_odds_78 : decode cX8_odds 78 = .ok (.ifCond .ne 11, 3) := by decide +kernel
theorem dX8_odds_81 : decode cX8_odds 81 = .ok (.iload 6, 2) := by decide +kernel
theorem dX8_odds_83 : decode cX8_odds 83 = .ok (.iload 7, 2) := by decide +kernel
theorem dX8_odds_85 : decode cX8_odds 85 = .ok (.idiv, 1) := by decide +kernel
theorem dX8_odds_86 : decode cX8_odds 86 = .ok (.goto 8, 3) := by decide +kernel
theorem dX8_odds_89 : decode cX8_odds 89 = .ok (.iload 5, 2) := by decide +kernel
theorem dX8_odds_91 : decode cX8_odds 91 = .ok (.iload 7, 2) := by decide +kernel
theorem dX8_odds_93 : decode cX8_odds 93 = .ok (.idiv, 1) := by decide +kernel
theorem dX8_odds_94 : decode cX8_odds 94 = .ok (.ireturn, 1) := by decide +kernel
theorem dX8_fits_0 : decode cX8_fits 0 = .ok (.iload_n 1, 1) := by decide +kernel
theorem dX8_fits_1 : decode cX8_fits 1 = .ok (.invokestatic 217, 3) := by decide +kernel
theorem dX8_fits_4 : decode cX8_fits 4 = .ok (.ifCond .eq 12, 3) := by decide +kernel
theorem dX8_fits_7 : decode cX8_fits 7 = .ok (.iload_n 2, 1) := by decide +kernel
theorem dX8_fits_8 : decode cX8_fits 8 = .ok (.iconst 0, 1) := by decide +kernel
theorem dX8_fits_9 : decode cX8_fits 9 = .ok (.iconst 1, 1) := by decide +kernel
theorem dX8_fits_10 : decode cX8_fits 10 = .ok (.invokestatic 61, 3) := by decide +kernel
theorem dX8_fits_13 : decode cX8_fits 13 = .ok (.ifCond .ne 9, 3) := by decide +kernel
theorem dX8_fits_16 : decode cX8_fits 16 = .ok (.aload_n 0, 1) := by decide +kernel
theorem dX8_fits_17 : decode cX8_fits 17 = .ok (.iconst 1, 1) := by decide +kernel
theorem dX8_fits_18 : decode cX8_fits 18 = .ok (.invokevirtual 65, 3) := by decide +kernel
theorem dX8_fits_21 : decode cX8_fits 21 = .ok (.ireturn, 1) := by decide +kernel
theorem dX8_fits_22 : decode cX8_fits 22 = .ok (.aload_n 0, 1) := by decide +kernel
theorem dX8_fits_23 : decode cX8_fits 23 = .ok (.getfield 48, 3) := by decide +kernel
theorem dX8_fits_26 : decode cX8_fits 26 = .ok (.iload_n 1, 1) := by decide +kernel
theorem dX8_fits_27 : decode cX8_fits 27 = .ok (.aaload, 1) := by decide +kernel
theorem dX8_fits_28 : decode cX8_fits 28 = .ok (.invokevirtual 220, 3) := by decide +kernel
theorem dX8_fits_31 : decode cX8_fits 31 = .ok (.ifCond .eq 9, 3) := by decide +kernel
theorem dX8_fits_34 : decode cX8_fits 34 = .ok (.aload_n 0, 1) := by decide +kernel
theorem dX8_fits_35 : decode cX8_fits 35 = .ok (.iconst 2, 1) := by decide +kernel
theorem dX8_fits_36 : decode cX8_fits 36 = .ok (.invokevirtual 65, 3) := by decide +kernel
theorem dX8_fits_39 : decode cX8_fits 39 = .ok (.ireturn, 1) := by decide +kernel
theorem dX8_fits_40 : decode cX8_fits 40 = .ok (.aload_n 0, 1) := by decide +kernel
theorem dX8_fits_41 : decode cX8_fits 41 = .ok (.getfield 35, 3) := by decide +kernel
theorem dX8_fits_44 : decode cX8_fits 44 = .ok (.aload_n 0, 1) := by decide +kernel
theorem dX8_fits_45 : decode cX8_fits 45 = .ok (.getfield 48, 3) := by decide +kernel
theorem dX8_fits_48 : decode cX8_fits 48 = .ok (.iload_n 1, 1) := by decide +kernel
theorem dX8_fits_49 : decode cX8_fits 49 = .ok (.aaload, 1) := by decide +kernel
theorem dX8_fits_50 : decode cX8_fits 50 = .ok (.getfield 224, 3) := by decide +kernel
theorem dX8_fits_53 : decode cX8_fits 53 = .ok (.invokevirtual 227, 3) := by decide +kernel
theorem dX8_fits_56 : decode cX8_fits 56 = .ok (.istore_n 3, 1) := by decide +kernel
theorem dX8_fits_57 : decode cX8_fits 57 = .ok (.iload_n 2, 1) := by decide +kernel
theorem dX8_fits_58 : decode cX8_fits 58 = .ok (.ifCond .ne 7, 3) := by decide +kernel
theorem dX8_fits_61 : decode cX8_fits 61 = .ok (.iload_n 3, 1) := by decide +kernel
theorem dX8_fits_62 : decode cX8_fits 62 = .ok (.goto 7, 3) := by decide +kernel
theorem dX8_fits_65 : decode cX8_fits 65 = .ok (.iload_n 3, 1) := by decide +kernel
theorem dX8_fits_66 : decode cX8_fits 66 = .ok (.invokestatic 231, 3) := by decide +kernel
theorem dX8_fits_69 : decode cX8_fits 69 = .ok (.ireturn, 1) := by decide +kernel
theorem dX8_voice_0 : decode cX8_voice 0 = .ok (.aload_n 0, 1) := by decide +kernel
theorem dX8_voice_1 : decode cX8_voice 1 = .ok (.getfield 10, 3) := by decide +kernel
theorem dX8_voice_4 : decode cX8_voice 4 = .ok (.getfield 28, 3) := by decide +kernel
theorem dX8_voice_7 : decode cX8_voice 7 = .ok (.iload_n 1, 1) := by decide +kernel
theorem dX8_voice_8 : decode cX8_voice 8 = .ok (.invokevirtual 77, 3) := by decide +kernel
theorem dX8_voice_11 : decode cX8_voice 11 = .ok (.ifCond .eq 12, 3) := by decide +kernel
theorem dX8_voice_14 : decode cX8_voice 14 = .ok (.iload_n 2, 1) := by decide +kernel
theorem dX8_voice_15 : decode cX8_voice 15 = .ok (.iconst 0, 1) := by decide +kernel
theorem dX8_voice_16 : decode cX8_voice 16 = .ok (.iconst 3, 1) := by decide +kernel
theorem dX8_voice_17 : decode cX8_voice 17 = .ok (.invokestatic 61, 3) := by decide +kernel
theorem dX8_voice_20 : decode cX8_voice 20 = .ok (.ifCond .ne 9, 3) := by decide +kernel
theorem dX8_voice_23 : decode cX8_voice 23 = .ok (.aload_n 0, 1) := by decide +kernel
theorem dX8_voice_24 : decode cX8_voice 24 = .ok (.iconst 1, 1) := by decide +kernel
theorem dX8_voice_25 : decode cX8_voice 25 = .ok (.invokevirtual 65, 3) := by decide +kernel
theorem dX8_voice_28 : decode cX8_voice 28 = .ok (.ireturn, 1) := by decide +kernel
theorem dX8_voice_29 : decode cX8_voice 29 = .ok (.aload_n 0, 1) := by decide +kernel
theorem dX8_voice_30 : decode cX8_voice 30 = .ok (.getfield 42, 3) := by decide +kernel
theorem dX8_voice_33 : decode cX8_voice 33 = .ok (.aload_n 0, 1) := by decide +kernel
theorem dX8_voice_34 : decode cX8_voice 34 = .ok (.getfield 10, 3) := by decide +kernel
theorem dX8_voice_37 : decode cX8_voice 37 = .ok (.getfield 28, 3) := by decide +kernel
theorem dX8_voice_40 : decode cX8_voice 40 = .ok (.iload_n 1, 1) := by decide +kernel
theorem dX8_voice_41 : decode cX8_voice 41 = .ok (.iload_n 2, 1) := by decide +kernel
theorem dX8_voice_42 : decode cX8_voice 42 = .ok (.iload_n 3, 1) := by decide +kernel
theorem dX8_voice_43 : decode cX8_voice 43 = .ok (.invokevirtual 236, 3) := by decide +kernel
theorem dX8_voice_46 : decode cX8_voice 46 = .ok (.istore 4, 2) := by decide +kernel
theorem dX8_voice_48 : decode cX8_voice 48 = .ok (.aload_n 0, 1) := by decide +kernel
theorem dX8_voice_49 : decode cX8_voice 49 = .ok (.getfield 42, 3) := by decide +kernel
theorem dX8_voice_52 : decode cX8_voice 52 = .ok (.getfield 240, 3) := by decide +kernel
theorem dX8_voice_55 : decode cX8_voice 55 = .ok (.ifCond .eq 12, 3) := by decide +kernel
theorem dX8_voice_58 : decode cX8_voice 58 = .ok (.aload_n 0, 1) := by decide +kernel
theorem dX8_voice_59 : decode cX8_voice 59 = .ok (.bipush 6, 2) := by decide +kernel
theorem dX8_voice_61 : decode cX8_voice 61 = .ok (.invokevirtual 65, 3) := by decide +kernel
theorem dX8_voice_64 : decode cX8_voice 64 = .ok (.goto 5, 3) := by decide +kernel
theorem dX8_voice_67 : decode cX8_voice 67 = .ok (.iload 4, 2) := by decide +kernel
theorem dX8_voice_69 : decode cX8_voice 69 = .ok (.ireturn, 1) := by decide +kernel
theorem dX8_body_0 : decode cX8_body 0 = .ok (.aload_n 0, 1) := by decide +kernel
theorem dX8_body_1 : decode cX8_body 1 = .ok (.getfield 42, 3) := by decide +kernel
theorem dX8_body_4 : decode cX8_body 4 = .ok (.getfield 244, 3) := by decide +kernel
theorem dX8_body_7 : decode cX8_body 7 = .ok (.iload_n 1, 1) := by decide +kernel
theorem dX8_body_8 : decode cX8_body 8 = .ok (.invokevirtual 247, 3) := by decide +kernel
theorem dX8_body_11 : decode cX8_body 11 = .ok (.ifCond .ne 9, 3) := by decide +kernel
theorem dX8_body_14 : decode cX8_body 14 = .ok (.aload_n 0, 1) := by decide +kernel
theorem dX8_body_15 : decode cX8_body 15 = .ok (.iconst 2, 1) := by decide +kernel
theorem dX8_body_16 : decode cX8_body 16 = .ok (.invokevirtual 65, 3) := by decide +kernel
theorem dX8_body_19 : decode cX8_body 19 = .ok (.ireturn, 1) := by decide +kernel
theorem dX8_body_20 : decode cX8_body 20 = .ok (.aload_n 0, 1) := by decide +kernel
theorem dX8_body_21 : decode cX8_body 21 = .ok (.getfield 42, 3) := by decide +kernel
theorem dX8_body_24 : decode cX8_body 24 = .ok (.getfield 244, 3) := by decide +kernel
theorem dX8_body_27 : decode cX8_body 27 = .ok (.getfield 248, 3) := by decide +kernel
theorem dX8_body_30 : decode cX8_body 30 = .ok (.iload_n 1, 1) := by decide +kernel
theorem dX8_body_31 : decode cX8_body 31 = .ok (.iaload, 1) := by decide +kernel
theorem dX8_body_32 : decode cX8_body 32 = .ok (.ireturn, 1) := by decide +kernel
theorem dX8_sheet_0 : decode cX8_sheet 0 = .ok (.iload_n 1, 1) := by decide +kernel
theorem dX8_sheet_1 : decode cX8_sheet 1 = .ok (.invokestatic 217, 3) := by decide +kernel
theorem dX8_sheet_4 : decode cX8_sheet 4 = .ok (.ifCond .eq 10, 3) := by decide +kernel
theorem dX8_sheet_7 : decode cX8_sheet 7 = .ok (.iload_n 2, 1) := by decide +kernel
theorem dX8_sheet_8 : decode cX8_sheet 8 = .ok (.invokestatic 250, 3) := by decide +kernel
theorem dX8_sheet_11 : decode cX8_sheet 11 = .ok (.ifCond .ne 9, 3) := by decide +kernel
theorem dX8_sheet_14 : decode cX8_sheet 14 = .ok (.aload_n 0, 1) := by decide +kernel
theorem dX8_sheet_15 : decode cX8_sheet 15 = .ok (.iconst 1, 1) := by decide +kernel
theorem dX8_sheet_16 : decode cX8_sheet 16 = .ok (.invokevirtual 65, 3) := by decide +kernel
theorem dX8_sheet_19 : decode cX8_sheet 19 = .ok (.ireturn, 1) := by decide +kernel
theorem dX8_sheet_20 : decode cX8_sheet 20 = .ok (.iload_n 2, 1) := by decide +kernel
theorem dX8_sheet_21 : decode cX8_sheet 21 = .ok (.ifCond .ne 16, 3) := by decide +kernel
theorem dX8_sheet_24 : decode cX8_sheet 24 = .ok (.aload_n 0, 1) := by decide +kernel
theorem dX8_sheet_25 : decode cX8_sheet 25 = .ok (.getfield 48, 3) := by decide +kernel
theorem dX8_sheet_28 : decode cX8_sheet 28 = .ok (.iload_n 1, 1) := by decide +kernel
theorem dX8_sheet_29 : decode cX8_sheet 29 = .ok (.aaload, 1) := by decide +kernel
theorem dX8_sheet_30 : decode cX8_sheet 30 = .ok (.iconst 0, 1) := by decide +kernel
theorem dX8_sheet_31 : decode cX8_sheet 31 = .ok (.iconst 0, 1) := by decide +kernel
theorem dX8_sheet_32 : decode cX8_sheet 32 = .ok (.invokevirtual 253, 3) := by decide +kernel
theorem dX8_sheet_35 : decode cX8_sheet 35 = .ok (.iconst 1, 1) := by decide +kernel
theorem dX8_sheet_36 : decode cX8_sheet 36 = .ok (.ireturn, 1) := by decide +kernel
theorem dX8_sheet_37 : decode cX8_sheet 37 = .ok (.iload_n 3, 1) := by decide +kernel
theorem dX8_sheet_38 : decode cX8_sheet 38 = .ok (.ifCond .ge 9, 3) := by decide +kernel
theorem dX8_sheet_41 : decode cX8_sheet 41 = .ok (.aload_n 0, 1) := by decide +kernel
theorem dX8_sheet_42 : decode cX8_sheet 42 = .ok (.iconst 3, 1) := by decide +kernel
theorem dX8_sheet_43 : decode cX8_sheet 43 = .ok (.invokevirtual 65, 3) := by decide +kernel
theorem dX8_sheet_46 : decode cX8_sheet 46 = .ok (.ireturn, 1) := by decide +kernel
theorem dX8_sheet_47 : decode cX8_sheet 47 = .ok (.iload_n 3, 1) := by decide +kernel
theorem dX8_sheet_48 : decode cX8_sheet 48 = .ok (.bipush 24, 2) := by decide +kernel
theorem dX8_sheet_50 : decode cX8_sheet 50 = .ok (.if_icmp .le 9, 3) := by decide +kernel
theorem dX8_sheet_53 : decode cX8_sheet 53 = .ok (.aload_n 0, 1) := by decide +kernel
theorem dX8_sheet_54 : decode cX8_sheet 54 = .ok (.iconst 1, 1) := by decide +kernel
theorem dX8_sheet_55 : decode cX8_sheet 55 = .ok (.invokevirtual 65, 3) := by decide +kernel
theorem dX8_sheet_58 : decode cX8_sheet 58 = .ok (.ireturn, 1) := by decide +kernel
theorem dX8_sheet_59 : decode cX8_sheet 59 = .ok (.aload_n 0, 1) := by decide +kernel
theorem dX8_sheet_60 : decode cX8_sheet 60 = .ok (.getfield 48, 3) := by decide +kernel
theorem dX8_sheet_63 : decode cX8_sheet 63 = .ok (.iload_n 1, 1) := by decide +kernel
theorem dX8_sheet_64 : decode cX8_sheet 64 = .ok (.aaload, 1) := by decide +kernel
theorem dX8_sheet_65 : decode cX8_sheet 65 = .ok (.iload_n 2, 1) := by decide +kernel
theorem dX8_sheet_66 : decode cX8_sheet 66 = .ok (.iload_n 3, 1) := by decide +kernel
theorem dX8_sheet_67 : decode cX8_sheet 67 = .ok (.invokevirtual 253, 3) := by decide +kernel
theorem dX8_sheet_70 : decode cX8_sheet 70 = .ok (.iconst 1, 1) := by decide +kernel
theorem dX8_sheet_71 : decode cX8_sheet 71 = .ok (.ireturn, 1) := by decide +kernel
theorem dX8_put_0 : decode cX8_put 0 = .ok (.iload_n 1, 1) := by decide +kernel
theorem dX8_put_1 : decode cX8_put 1 = .ok (.invokestatic 217, 3) := by decide +kernel
theorem dX8_put_4 : decode cX8_put 4 = .ok (.ifCond .ne 9, 3) := by decide +kernel
theorem dX8_put_7 : decode cX8_put 7 = .ok (.aload_n 0, 1) := by decide +kernel
theorem dX8_put_8 : decode cX8_put 8 = .ok (.iconst 1, 1) := by decide +kernel
theorem dX8_put_9 : decode cX8_put 9 = .ok (.invokevirtual 65, 3) := by decide +kernel
theorem dX8_put_12 : decode cX8_put 12 = .ok (.ireturn, 1) := by decide +kernel
theorem dX8_put_13 : decode cX8_put 13 = .ok (.aload_n 0, 1) := by decide +kernel
theorem dX8_put_14 : decode cX8_put 14 = .ok (.getfield 48, 3) := by decide +kernel
theorem dX8_put_17 : decode cX8_put 17 = .ok (.iload_n 1, 1) := by decide +kernel
theorem dX8_put_18 : decode cX8_put 18 = .ok (.aaload, 1) := by decide +kernel
theorem dX8_put_19 : decode cX8_put 19 = .ok (.astore 4, 2) := by decide +kernel
theorem dX8_put_21 : decode cX8_put 21 = .ok (.aload 4, 2) := by decide +kernel
theorem dX8_put_23 : decode cX8_put 23 = .ok (.invokevirtual 220, 3) := by decide +kernel
theorem dX8_put_26 : decode cX8_put 26 = .ok (.ifCond .eq 9, 3) := by decide +kernel
theorem dX8_put_29 : decode cX8_put 29 = .ok (.aload_n 0, 1) := by decide +kernel
theorem dX8_put_30 : decode cX8_put 30 = .ok (.iconst 2, 1) := by decide +kernel
theorem dX8_put_31 : decode cX8_put 31 = .ok (.invokevirtual 65, 3) := by decide +kernel
theorem dX8_put_34 : decode cX8_put 34 = .ok (.ireturn, 1) := by decide +kernel
theorem dX8_put_35 : decode cX8_put 35 = .ok (.aload 4, 2) := by decide +kernel
theorem dX8_put_37 : decode cX8_put 37 = .ok (.getfield 224, 3) := by decide +kernel
theorem dX8_put_40 : decode cX8_put 40 = .ok (.iload_n 2, 1) := by decide +kernel
theorem dX8_put_41 : decode cX8_put 41 = .ok (.invokevirtual 247, 3) := by decide +kernel
theorem dX8_put_44 : decode cX8_put 44 = .ok (.ifCond .ne 9, 3) := by decide +kernel
theorem dX8_put_47 : decode cX8_put 47 = .ok (.aload_n 0, 1) := by decide +kernel
theorem dX8_put_48 : decode cX8_put 48 = .ok (.iconst 1, 1) := by decide +kernel
theorem dX8_put_49 : decode cX8_put 49 = .ok (.invokevirtual 65, 3) := by decide +kernel
theorem dX8_put_52 : decode cX8_put 52 = .ok (.ireturn, 1) := by decide +kernel
theorem dX8_put_53 : decode cX8_put 53 = .ok (.aload 4, 2) := by decide +kernel
theorem dX8_put_55 : decode cX8_put 55 = .ok (.getfield 224, 3) := by decide +kernel
theorem dX8_put_58 : decode cX8_put 58 = .ok (.getfield 248, 3) := by decide +kernel
theorem dX8_put_61 : decode cX8_put 61 = .ok (.iload_n 2, 1) := by decide +kernel
theorem dX8_put_62 : decode cX8_put 62 = .ok (.aload 4, 2) := by decide +kernel
theorem dX8_put_64 : decode cX8_put 64 = .ok (.iload_n 3, 1) := by decide +kernel
theorem dX8_put_65 : decode cX8_put 65 = .ok (.invokevirtual 256, 3) := by decide +kernel
theorem dX8_put_68 : decode cX8_put 68 = .ok (.iastore, 1) := by decide +kernel
theorem dX8_put_69 : decode cX8_put 69 = .ok (.iconst 1, 1) := by decide +kernel
theorem dX8_put_70 : decode cX8_put 70 = .ok (.ireturn, 1) := by decide +kernel
theorem dX8_move_0 : decode cX8_move 0 = .ok (.iload_n 1, 1) := by decide +kernel
theorem dX8_move_1 : decode cX8_move 1 = .ok (.invokestatic 217, 3) := by decide +kernel
theorem dX8_move_4 : decode cX8_move 4 = .ok (.ifCond .eq 10, 3) := by decide +kernel
theorem dX8_move_7 : decode cX8_move 7 = .ok (.iload_n 3, 1) := by decide +kernel
theorem dX8_move_8 : decode cX8_move 8 = .ok (.invokestatic 217, 3) := by decide +kernel
theorem dX8_move_11 : decode cX8_move 11 = .ok (.ifCond .ne 9, 3) := by decide +kernel
theorem dX8_move_14 : decode cX8_move 14 = .ok (.aload_n 0, 1) := by decide +kernel
theorem dX8_move_15 : decode cX8_move 15 = .ok (.iconst 1, 1) := by decide +kernel
theorem dX8_move_16 : decode cX8_move 16 = .ok (.invokevirtual 65, 3) := by decide +kernel
theorem dX8_move_19 : decode cX8_move 19 = .ok (.ireturn, 1) := by decide +kernel
theorem dX8_move_20 : decode cX8_move 20 = .ok (.aload_n 0, 1) := by decide +kernel
theorem dX8_move_21 : decode cX8_move 21 = .ok (.getfield 48, 3) := by decide +kernel
theorem dX8_move_24 : decode cX8_move 24 = .ok (.iload_n 1, 1) := by decide +kernel
theorem dX8_move_25 : decode cX8_move 25 = .ok (.aaload, 1) := by decide +kernel
theorem dX8_move_26 : decode cX8_move 26 = .ok (.astore 6, 2) := by decide +kernel
theorem dX8_move_28 : decode cX8_move 28 = .ok (.aload_n 0, 1) := by decide +kernel
theorem dX8_move_29 : decode cX8_move 29 = .ok (.getfield 48, 3) := by decide +kernel
theorem dX8_move_32 : decode cX8_move 32 = .ok (.iload_n 3, 1) := by decide +kernel
theorem dX8_move_33 : decode cX8_move 33 = .ok (.aaload, 1) := by decide +kernel
theorem dX8_move_34 : decode cX8_move 34 = .ok (.astore 7, 2) := by decide +kernel
theorem dX8_move_36 : decode cX8_move 36 = .ok (.aload 6, 2) := by decide +kernel
theorem dX8_move_38 : decode cX8_move 38 = .ok (.invokevirtual 220, 3) := by decide +kernel
theorem dX8_move_41 : decode cX8_move 41 = .ok (.ifCond .ne 11, 3) := by decide +kernel
theorem dX8_move_44 : decode cX8_move 44 = .ok (.aload 7, 2) := by decide +kernel
theorem dX8_move_46 : decode cX8_move 46 = .ok (.invokevirtual 220, 3) := by decide +kernel
theorem dX8_move_49 : decode cX8_move 49 = .ok (.ifCond .eq 9, 3) := by decide +kernel
theorem dX8_move_52 : decode cX8_move 52 = .ok (.aload_n 0, 1) := by decide +kernel
theorem dX8_move_53 : decode cX8_move 53 = .ok (.iconst 2, 1) := by decide +kernel
theorem dX8_move_54 : decode cX8_move 54 = .ok (.invokevirtual 65, 3) := by decide +kernel
theorem dX8_move_57 : decode cX8_move 57 = .ok (.ireturn, 1) := by decide +kernel
theorem dX8_move_58 : decode cX8_move 58 = .ok (.aload 6, 2) := by decide +kernel
theorem dX8_move_60 : decode cX8_move 60 = .ok (.getfield 259, 3) := by decide +kernel
theorem dX8_move_63 : decode cX8_move 63 = .ok (.aload 7, 2) := by decide +kernel
theorem dX8_move_65 : decode cX8_move 65 = .ok (.getfield 259, 3) := by decide +kernel
theorem dX8_move_68 : decode cX8_move 68 = .ok (.if_icmp .eq 9, 3) := by decide +kernel
theorem dX8_move_71 : decode cX8_move 71 = .ok (.aload_n 0, 1) := by decide +kernel
theorem dX8_move_72 : decode cX8_move 72 = .ok (.iconst 5, 1) := by decide +kernel
theorem dX8_move_73 : decode cX8_move 73 = .ok (.invokevirtual 65, 3) := by decide +kernel
theorem dX8_move_76 : decode cX8_move 76 = .ok (.ireturn, 1) := by decide +kernel
theorem dX8_move_77 : decode cX8_move 77 = .ok (.aload 6, 2) := by decide +kernel
theorem dX8_move_79 : decode cX8_move 79 = .ok (.getfield 224, 3) := by decide +kernel
theorem dX8_move_82 : decode cX8_move 82 = .ok (.iload_n 2, 1) := by decide +kernel
theorem dX8_move_83 : decode cX8_move 83 = .ok (.iload 5, 2) := by decide +kernel
theorem dX8_move_85 : decode cX8_move 85 = .ok (.invokevirtual 262, 3) := by decide +kernel
theorem dX8_move_88 : decode cX8_move 88 = .ok (.ifCond .eq 18, 3) := by decide +kernel
theorem dX8_move_91 : decode cX8_move 91 = .ok (.aload 7, 2) := by decide +kernel
theorem dX8_move_93 : decode cX8_move 93 = .ok (.getfield 224, 3) := by decide +kernel
theorem dX8_move_96 : decode cX8_move 96 = .ok (.iload 4, 2) := by decide +kernel
theorem dX8_move_98 : decode cX8_move 98 = .ok (.iload 5, 2) := by decide +kernel
theorem dX8_move_100 : decode cX8_move 100 = .ok (.invokevirtual 262, 3) := by decide +kernel
theorem dX8_move_103 : decode cX8_move 103 = .ok (.ifCond .ne 9, 3) := by decide +kernel
theorem dX8_move_106 : decode cX8_move 106 = .ok (.aload_n 0, 1) := by decide +kernel
theorem dX8_move_107 : decode cX8_move 107 = .ok (.iconst 1, 1) := by decide +kernel
theorem dX8_move_108 : decode cX8_move 108 = .ok (.invokevirtual 65, 3) := by decide +kernel
theorem dX8_move_111 : decode cX8_move 111 = .ok (.ireturn, 1) := by decide +kernel
theorem dX8_move_112 : decode cX8_move 112 = .ok (.aload 6, 2) := by decide +kernel
theorem dX8_move_114 : decode cX8_move 114 = .ok (.getfield 224, 3) := by decide +kernel
theorem dX8_move_117 : decode cX8_move 117 = .ok (.getfield 248, 3) := by decide +kernel
theorem dX8_move_120 : decode cX8_move 120 = .ok (.iload_n 2, 1) := by decide +kernel
theorem dX8_move_121 : decode cX8_move 121 = .ok (.aload 7, 2) := by decide +kernel
theorem dX8_move_123 : decode cX8_move 123 = .ok (.getfield 224, 3) := by decide +kernel
theorem dX8_move_126 : decode cX8_move 126 = .ok (.getfield 248, 3) := by decide +kernel
theorem dX8_move_129 : decode cX8_move 129 = .ok (.iload 4, 2) := by decide +kernel
theorem dX8_move_131 : decode cX8_move 131 = .ok (.iload 5, 2) := by decide +kernel
theorem dX8_move_133 : decode cX8_move 133 = .ok (.invokestatic 265, 3) := by decide +kernel
theorem dX8_move_136 : decode cX8_move 136 = .ok (.iload 5, 2) := by decide +kernel
theorem dX8_move_138 : decode cX8_move 138 = .ok (.ireturn, 1) := by decide +kernel
theorem dX8_hearAll_0 : decode cX8_hearAll 0 = .ok (.iload_n 1, 1) := by decide +kernel
theorem dX8_hearAll_1 : decode cX8_hearAll 1 = .ok (.invokestatic 217, 3) := by decide +kernel
theorem dX8_hearAll_4 : decode cX8_hearAll 4 = .ok (.ifCond .ne 9, 3) := by decide +kernel
theorem dX8_hearAll_7 : decode cX8_hearAll 7 = .ok (.aload_n 0, 1) := by decide +kernel
theorem dX8_hearAll_8 : decode cX8_hearAll 8 = .ok (.iconst 1, 1) := by decide +kernel
theorem dX8_hearAll_9 : decode cX8_hearAll 9 = .ok (.invokevirtual 65, 3) := by decide +kernel
theorem dX8_hearAll_12 : decode cX8_hearAll 12 = .ok (.ireturn, 1) := by decide +kernel
theorem dX8_hearAll_13 : decode cX8_hearAll 13 = .ok (.aload_n 0, 1) := by decide +kernel
theorem dX8_hearAll_14 : decode cX8_hearAll 14 = .ok (.getfield 48, 3) := by decide +kernel
theorem dX8_hearAll_17 : decode cX8_hearAll 17 = .ok (.iload_n 1, 1) := by decide +kernel
theorem dX8_hearAll_18 : decode cX8_hearAll 18 = .ok (.aaload, 1) := by decide +kernel
theorem dX8_hearAll_19 : decode cX8_hearAll 19 = .ok (.invokevirtual 220, 3) := by decide +kernel
theorem dX8_hearAll_22 : decode cX8_hearAll 22 = .ok (.ifCond .eq 9, 3) := by decide +kernel
theorem dX8_hearAll_25 : decode cX8_hearAll 25 = .ok (.aload_n 0, 1) := by decide +kernel
theorem dX8_hearAll_26 : decode cX8_hearAll 26 = .ok (.iconst 2, 1) := by decide +kernel
theorem dX8_hearAll_27 : decode cX8_hearAll 27 = .ok (.invokevirtual 65, 3) := by decide +kernel
theorem dX8_hearAll_30 : decode cX8_hearAll 30 = .ok (.ireturn, 1) := by decide +kernel
theorem dX8_hearAll_31 : decode cX8_hearAll 31 = .ok (.aload_n 0, 1) := by decide +kernel
theorem dX8_hearAll_32 : decode cX8_hearAll 32 = .ok (.getfield 10, 3) := by decide +kernel
theorem dX8_hearAll_35 : decode cX8_hearAll 35 = .ok (.getfield 28, 3) := by decide +kernel
theorem dX8_hearAll_38 : decode cX8_hearAll 38 = .ok (.aload_n 0, 1) := by decide +kernel
theorem dX8_hearAll_39 : decode cX8_hearAll 39 = .ok (.getfield 48, 3) := by decide +kernel
theorem dX8_hearAll_42 : decode cX8_hearAll 42 = .ok (.iload_n 1, 1) := by decide +kernel
theorem dX8_hearAll_43 : decode cX8_hearAll 43 = .ok (.aaload, 1) := by decide +kernel
theorem dX8_hearAll_44 : decode cX8_hearAll 44 = .ok (.getfield 224, 3) := by decide +kernel
theorem dX8_hearAll_47 : decode cX8_hearAll 47 = .ok (.invokevirtual 271, 3) := by decide +kernel
theorem dX8_hearAll_50 : decode cX8_hearAll 50 = .ok (.ireturn, 1) := by decide +kernel
theorem dX8_judge_0 : decode cX8_judge 0 = .ok (.iload_n 1, 1) := by decide +kernel
theorem dX8_judge_1 : decode cX8_judge 1 = .ok (.invokestatic 217, 3) := by decide +kernel
theorem dX8_judge_4 : decode cX8_judge 4 = .ok (.ifCond .ne 9, 3) := by decide +kernel
theorem dX8_judge_7 : decode cX8_judge 7 = .ok (.aload_n 0, 1) := by decide +kernel
theorem dX8_judge_8 : decode cX8_judge 8 = .ok (.iconst 1, 1) := by decide +kernel
theorem dX8_judge_9 : decode cX8_judge 9 = .ok (.invokevirtual 65, 3) := by decide +kernel
theorem dX8_judge_12 : decode cX8_judge 12 = .ok (.ireturn, 1) := by decide +kernel
theorem dX8_judge_13 : decode cX8_judge 13 = .ok (.aload_n 0, 1) := by decide +kernel
theorem dX8_judge_14 : decode cX8_judge 14 = .ok (.getfield 48, 3) := by decide +kernel
theorem dX8_judge_17 : decode cX8_judge 17 = .ok (.iload_n 1, 1) := by decide +kernel
theorem dX8_judge_18 : decode cX8_judge 18 = .ok (.aaload, 1) := by decide +kernel
theorem dX8_judge_19 : decode cX8_judge 19 = .ok (.invokevirtual 220, 3) := by decide +kernel
theorem dX8_judge_22 : decode cX8_judge 22 = .ok (.ifCond .eq 9, 3) := by decide +kernel
theorem dX8_judge_25 : decode cX8_judge 25 = .ok (.aload_n 0, 1) := by decide +kernel
theorem dX8_judge_26 : decode cX8_judge 26 = .ok (.iconst 2, 1) := by decide +kernel
theorem dX8_judge_27 : decode cX8_judge 27 = .ok (.invokevirtual 65, 3) := by decide +kernel
theorem dX8_judge_30 : decode cX8_judge 30 = .ok (.ireturn, 1) := by decide +kernel
theorem dX8_judge_31 : decode cX8_judge 31 = .ok (.aload_n 0, 1) := by decide +kernel
theorem dX8_judge_32 : decode cX8_judge 32 = .ok (.getfield 10, 3) := by decide +kernel
theorem dX8_judge_35 : decode cX8_judge 35 = .ok (.getfield 28, 3) := by decide +kernel
theorem dX8_judge_38 : decode cX8_judge 38 = .ok (.aload_n 0, 1) := by decide +kernel
theorem dX8_judge_39 : decode cX8_judge 39 = .ok (.getfield 48, 3) := by decide +kernel
theorem dX8_judge_42 : decode cX8_judge 42 = .ok (.iload_n 1, 1) := by decide +kernel
theorem dX8_judge_43 : decode cX8_judge 43 = .ok (.aaload, 1) := by decide +kernel
theorem dX8_judge_44 : decode cX8_judge 44 = .ok (.getfield 224, 3) := by decide +kernel
theorem dX8_judge_47 : decode cX8_judge 47 = .ok (.invokevirtual 274, 3) := by decide +kernel
theorem dX8_judge_50 : decode cX8_judge 50 = .ok (.ireturn, 1) := by decide +kernel
theorem dX8_image_0 : decode cX8_image 0 = .ok (.aload_n 0, 1) := by decide +kernel
theorem dX8_image_1 : decode cX8_image 1 = .ok (.getfield 16, 3) := by decide +kernel
theorem dX8_image_4 : decode cX8_image 4 = .ok (.aload_n 0, 1) := by decide +kernel
theorem dX8_image_5 : decode cX8_image 5 = .ok (.getfield 10, 3) := by decide +kernel
theorem dX8_image_8 : decode cX8_image 8 = .ok (.invokevirtual 277, 3) := by decide +kernel
theorem dX8_image_11 : decode cX8_image 11 = .ok (.aload_n 0, 1) := by decide +kernel
theorem dX8_image_12 : decode cX8_image 12 = .ok (.dup, 1) := by decide +kernel
theorem dX8_image_13 : decode cX8_image 13 = .ok (.getfield 56, 3) := by decide +kernel
theorem dX8_image_16 : decode cX8_image 16 = .ok (.iconst 1, 1) := by decide +kernel
theorem dX8_image_17 : decode cX8_image 17 = .ok (.iadd, 1) := by decide +kernel
theorem dX8_image_18 : decode cX8_image 18 = .ok (.putfield 56, 3) := by decide +kernel
theorem dX8_image_21 : decode cX8_image 21 = .ok (.aload_n 0, 1) := by decide +kernel
theorem dX8_image_22 : decode cX8_image 22 = .ok (.getfield 56, 3) := by decide +kernel
theorem dX8_image_25 : decode cX8_image 25 = .ok (.ireturn, 1) := by decide +kernel
theorem dX8_restore_0 : decode cX8_restore 0 = .ok (.aload_n 0, 1) := by decide +kernel
theorem dX8_restore_1 : decode cX8_restore 1 = .ok (.getfield 56, 3) := by decide +kernel
theorem dX8_restore_4 : decode cX8_restore 4 = .ok (.ifCond .ne 9, 3) := by decide +kernel
theorem dX8_restore_7 : decode cX8_restore 7 = .ok (.aload_n 0, 1) := by decide +kernel
theorem dX8_restore_8 : decode cX8_restore 8 = .ok (.iconst 2, 1) := by decide +kernel
theorem dX8_restore_9 : decode cX8_restore 9 = .ok (.invokevirtual 65, 3) := by decide +kernel
theorem dX8_restore_12 : decode cX8_restore 12 = .ok (.ireturn, 1) := by decide +kernel
theorem dX8_restore_13 : decode cX8_restore 13 = .ok (.aload_n 0, 1) := by decide +kernel
theorem dX8_restore_14 : decode cX8_restore 14 = .ok (.getfield 10, 3) := by decide +kernel
theorem dX8_restore_17 : decode cX8_restore 17 = .ok (.aload_n 0, 1) := by decide +kernel
theorem dX8_restore_18 : decode cX8_restore 18 = .ok (.getfield 16, 3) := by decide +kernel
theorem dX8_restore_21 : decode cX8_restore 21 = .ok (.invokevirtual 277, 3) := by decide +kernel
theorem dX8_restore_24 : decode cX8_restore 24 = .ok (.aload_n 0, 1) := by decide +kernel
theorem dX8_restore_25 : decode cX8_restore 25 = .ok (.getfield 10, 3) := by decide +kernel
theorem dX8_restore_28 : decode cX8_restore 28 = .ok (.getfield 28, 3) := by decide +kernel
theorem dX8_restore_31 : decode cX8_restore 31 = .ok (.getfield 166, 3) := by decide +kernel
theorem dX8_restore_34 : decode cX8_restore 34 = .ok (.ireturn, 1) := by decide +kernel
theorem dX8_tell_0 : decode cX8_tell 0 = .ok (.aload_n 0, 1) := by decide +kernel
theorem dX8_tell_1 : decode cX8_tell 1 = .ok (.getfield 10, 3) := by decide +kernel
theorem dX8_tell_4 : decode cX8_tell 4 = .ok (.getfield 281, 3) := by decide +kernel
theorem dX8_tell_7 : decode cX8_tell 7 = .ok (.getfield 129, 3) := by decide +kernel
theorem dX8_tell_10 : decode cX8_tell 10 = .ok (.bipush 24, 2) := by decide +kernel
theorem dX8_tell_12 : decode cX8_tell 12 = .ok (.if_icmp .lt 9, 3) := by decide +kernel
theorem dX8_tell_15 : decode cX8_tell 15 = .ok (.aload_n 0, 1) := by decide +kernel
theorem dX8_tell_16 : decode cX8_tell 16 = .ok (.iconst 4, 1) := by decide +kernel
theorem dX8_tell_17 : decode cX8_tell 17 = .ok (.invokevirtual 65, 3) := by decide +kernel
theorem dX8_tell_20 : decode cX8_tell 20 = .ok (.ireturn, 1) := by decide +kernel
theorem dX8_tell_21 : decode cX8_tell 21 = .ok (.aload_n 0, 1) := by decide +kernel
theorem dX8_tell_22 : decode cX8_tell 22 = .ok (.getfield 10, 3) := by decide +kernel
theorem dX8_tell_25 : decode cX8_tell 25 = .ok (.getfield 281, 3) := by decide +kernel
theorem dX8_tell_28 : decode cX8_tell 28 = .ok (.iload_n 1, 1) := by decide +kernel
theorem dX8_tell_29 : decode cX8_tell 29 = .ok (.invokevirtual 134, 3) := by decide +kernel
theorem dX8_tell_32 : decode cX8_tell 32 = .ok (.aload_n 0, 1) := by decide +kernel
theorem dX8_tell_33 : decode cX8_tell 33 = .ok (.getfield 10, 3) := by decide +kernel
theorem dX8_tell_36 : decode cX8_tell 36 = .ok (.getfield 281, 3) := by decide +kernel
theorem dX8_tell_39 : decode cX8_tell 39 = .ok (.getfield 129, 3) := by decide +kernel
theorem dX8_tell_42 : decode cX8_tell 42 = .ok (.ireturn, 1) := by decide +kernel
theorem dX8_check_0 : decode cX8_check 0 = .ok (.aload_n 0, 1) := by decide +kernel
theorem dX8_check_1 : decode cX8_check 1 = .ok (.getfield 10, 3) := by decide +kernel
theorem dX8_check_4 : decode cX8_check 4 = .ok (.getfield 28, 3) := by decide +kernel
theorem dX8_check_7 : decode cX8_check 7 = .ok (.aload_n 0, 1) := by decide +kernel
theorem dX8_check_8 : decode cX8_check 8 = .ok (.getfield 10, 3) := by decide +kernel
theorem dX8_check_11 : decode cX8_check 11 = .ok (.getfield 281, 3) := by decide +kernel
theorem dX8_check_14 : decode cX8_check 14 = .ok (.invokevirtual 284, 3) := by decide +kernel
theorem dX8_check_17 : decode cX8_check 17 = .ok (.istore_n 1, 1) := by decide +kernel
theorem dX8_check_18 : decode cX8_check 18 = .ok (.iload_n 1, 1) := by decide +kernel
theorem dX8_check_19 : decode cX8_check 19 = .ok (.aload_n 0, 1) := by decide +kernel
theorem dX8_check_20 : decode cX8_check 20 = .ok (.getfield 10, 3) := by decide +kernel
theorem dX8_check_23 : decode cX8_check 23 = .ok (.getfield 281, 3) := by decide +kernel
theorem dX8_check_26 : decode cX8_check 26 = .ok (.getfield 129, 3) := by decide +kernel
theorem dX8_check_29 : decode cX8_check 29 = .ok (.if_icmp .ne 7, 3) := by decide +kernel
theorem dX8_check_32 : decode cX8_check 32 = .ok (.iconst 1, 1) := by decide +kernel
theorem dX8_check_33 : decode cX8_check 33 = .ok (.goto 4, 3) := by decide +kernel
theorem dX8_check_36 : decode cX8_check 36 = .ok (.iconst 0, 1) := by decide +kernel
theorem dX8_check_37 : decode cX8_check 37 = .ok (.istore_n 2, 1) := by decide +kernel
theorem dX8_check_38 : decode cX8_check 38 = .ok (.aload_n 0, 1) := by decide +kernel
theorem dX8_check_39 : decode cX8_check 39 = .ok (.getfield 10, 3) := by decide +kernel
theorem dX8_check_42 : decode cX8_check 42 = .ok (.getfield 281, 3) := by decide +kernel
theorem dX8_check_45 : decode cX8_check 45 = .ok (.invokevirtual 145, 3) := by decide +kernel
theorem dX8_check_48 : decode cX8_check 48 = .ok (.iload_n 2, 1) := by decide +kernel
theorem dX8_check_49 : decode cX8_check 49 = .ok (.ifCond .eq 7, 3) := by decide +kernel
theorem dX8_check_52 : decode cX8_check 52 = .ok (.iconst 0, 1) := by decide +kernel
theorem dX8_check_53 : decode cX8_check 53 = .ok (.goto 6, 3) := by decide +kernel
theorem dX8_check_56 : decode cX8_check 56 = .ok (.iconst 1, 1) := by decide +kernel
theorem dX8_check_57 : decode cX8_check 57 = .ok (.iload_n 1, 1) := by decide +kernel
theorem dX8_check_58 : decode cX8_check 58 = .ok (.iadd, 1) := by decide +kernel
theorem dX8_check_59 : decode cX8_check 59 = .ok (.ireturn, 1) := by decide +kernel
theorem dX8_count_0 : decode cX8_count 0 = .ok (.aload_n 0, 1) := by decide +kernel
theorem dX8_count_1 : decode cX8_count 1 = .ok (.getfield 10, 3) := by decide +kernel
theorem dX8_count_4 : decode cX8_count 4 = .ok (.getfield 28, 3) := by decide +kernel
theorem dX8_count_7 : decode cX8_count 7 = .ok (.astore_n 2, 1) := by decide +kernel
theorem dX8_count_8 : decode cX8_count 8 = .ok (.iload_n 1, 1) := by decide +kernel
theorem dX8_count_9 : decode cX8_count 9 = .ok (.tableswitch 141 0 11 #[63, 68, 73, 78, 83, 88, 93, 98, 103, 114, 125, 136], 63) := by decide +kernel
theorem dX8_count_72 : decode cX8_count 72 = .ok (.aload_n 2, 1) := by decide +kernel
theorem dX8_count_73 : decode cX8_count 73 = .ok (.getfield 69, 3) := by decide +kernel
theorem dX8_count_76 : decode cX8_count 76 = .ok (.ireturn, 1) := by decide +kernel
theorem dX8_count_77 : decode cX8_count 77 = .ok (.aload_n 2, 1) := by decide +kernel
theorem dX8_count_78 : decode cX8_count 78 = .ok (.getfield 166, 3) := by decide +kernel
theorem dX8_count_81 : decode cX8_count 81 = .ok (.ireturn, 1) := by decide +kernel
theorem dX8_count_82 : decode cX8_count 82 = .ok (.aload_n 2, 1) := by decide +kernel
theorem dX8_count_83 : decode cX8_count 83 = .ok (.getfield 113, 3) := by decide +kernel
theorem dX8_count_86 : decode cX8_count 86 = .ok (.ireturn, 1) := by decide +kernel
theorem dX8_count_87 : decode cX8_count 87 = .ok (.aload_n 2, 1) := by decide +kernel
theorem dX8_count_88 : decode cX8_count 88 = .ok (.getfield 172, 3) := by decide +kernel
theorem dX8_count_91 : decode cX8_count 91 = .ok (.ireturn, 1) := by decide +kernel
theorem dX8_count_92 : decode cX8_count 92 = .ok (.aload_n 2, 1) := by decide +kernel
theorem dX8_count_93 : decode cX8_count 93 = .ok (.getfield 185, 3) := by decide +kernel
theorem dX8_count_96 : decode cX8_count 96 = .ok (.ireturn, 1) := by decide +kernel
theorem dX8_count_97 : decode cX8_count 97 = .ok (.aload_n 2, 1) := by decide +kernel
theorem dX8_count_98 : decode cX8_count 98 = .ok (.getfield 287, 3) := by decide +kernel
theorem dX8_count_101 : decode cX8_count 101 = .ok (.ireturn, 1) := by decide +kernel
theorem dX8_count_102 : decode cX8_count 102 = .ok (.aload_n 2, 1) := by decide +kernel
theorem dX8_count_103 : decode cX8_count 103 = .ok (.invokevirtual 188, 3) := by decide +kernel
theorem dX8_count_106 : decode cX8_count 106 = .ok (.ireturn, 1) := by decide +kernel
theorem dX8_count_107 : decode cX8_count 107 = .ok (.aload_n 2, 1) := by decide +kernel
theorem dX8_count_108 : decode cX8_count 108 = .ok (.getfield 290, 3) := by decide +kernel
theorem dX8_count_111 : decode cX8_count 111 = .ok (.ireturn, 1) := by decide +kernel
theorem dX8_count_112 : decode cX8_count 112 = .ok (.aload_n 0, 1) := by decide +kernel
theorem dX8_count_113 : decode cX8_count 113 = .ok (.getfield 10, 3) := by decide +kernel
theorem dX8_count_116 : decode cX8_count 116 = .ok (.getfield 125, 3) := by decide +kernel
theorem dX8_count_119 : decode cX8_count 119 = .ok (.getfield 129, 3) := by decide +kernel
theorem dX8_count_122 : decode cX8_count 122 = .ok (.ireturn, 1) := by decide +kernel
theorem dX8_count_123 : decode cX8_count 123 = .ok (.aload_n 0, 1) := by decide +kernel
theorem dX8_count_124 : decode cX8_count 124 = .ok (.getfield 10, 3) := by decide +kernel
theorem dX8_count_127 : decode cX8_count 127 = .ok (.getfield 281, 3) := by decide +kernel
theorem dX8_count_130 : decode cX8_count 130 = .ok (.getfield 129, 3) := by decide +kernel
theorem dX8_count_133 : decode cX8_count 133 = .ok (.ireturn, 1) := by decide +kernel
theorem dX8_count_134 : decode cX8_count 134 = .ok (.aload_n 0, 1) := by decide +kernel
theorem dX8_count_135 : decode cX8_count 135 = .ok (.getfield 42, 3) := by decide +kernel
theorem dX8_count_138 : decode cX8_count 138 = .ok (.getfield 244, 3) := by decide +kernel
theorem dX8_count_141 : decode cX8_count 141 = .ok (.getfield 129, 3) := by decide +kernel
theorem dX8_count_144 : decode cX8_count 144 = .ok (.ireturn, 1) := by decide +kernel
theorem dX8_count_145 : decode cX8_count 145 = .ok (.aload_n 2, 1) := by decide +kernel
theorem dX8_count_146 : decode cX8_count 146 = .ok (.getfield 178, 3) := by decide +kernel
theorem dX8_count_149 : decode cX8_count 149 = .ok (.ireturn, 1) := by decide +kernel
theorem dX8_count_150 : decode cX8_count 150 = .ok (.aload_n 0, 1) := by decide +kernel
theorem dX8_count_151 : decode cX8_count 151 = .ok (.iconst 1, 1) := by decide +kernel
theorem dX8_count_152 : decode cX8_count 152 = .ok (.invokevirtual 65, 3) := by decide +kernel
theorem dX8_count_155 : decode cX8_count 155 = .ok (.ireturn, 1) := by decide +kernel
theorem dX8_told_0 : decode cX8_told 0 = .ok (.iload_n 1, 1) := by decide +kernel
theorem dX8_told_1 : decode cX8_told 1 = .ok (.iconst 1, 1) := by decide +kernel
theorem dX8_told_2 : decode cX8_told 2 = .ok (.bipush 6, 2) := by decide +kernel
theorem dX8_told_4 : decode cX8_told 4 = .ok (.invokestatic 61, 3) := by decide +kernel
theorem dX8_told_7 : decode cX8_told 7 = .ok (.ifCond .ne 9, 3) := by decide +kernel
theorem dX8_told_10 : decode cX8_told 10 = .ok (.aload_n 0, 1) := by decide +kernel
theorem dX8_told_11 : decode cX8_told 11 = .ok (.iconst 1, 1) := by decide +kernel
theorem dX8_told_12 : decode cX8_told 12 = .ok (.invokevirtual 65, 3) := by decide +kernel
theorem dX8_told_15 : decode cX8_told 15 = .ok (.ireturn, 1) := by decide +kernel
theorem dX8_told_16 : decode cX8_told 16 = .ok (.aload_n 0, 1) := by decide +kernel
theorem dX8_told_17 : decode cX8_told 17 = .ok (.getfield 52, 3) := by decide +kernel
theorem dX8_told_20 : decode cX8_told 20 = .ok (.iload_n 1, 1) := by decide +kernel
theorem dX8_told_21 : decode cX8_told 21 = .ok (.iaload, 1) := by decide +kernel
theorem dX8_told_22 : decode cX8_told 22 = .ok (.ireturn, 1) := by decide +kernel
theorem dX8_error_0 : decode cX8_error 0 = .ok (.aload_n 0, 1) := by decide +kernel
theorem dX8_error_1 : decode cX8_error 1 = .ok (.getfield 52, 3) := by decide +kernel
theorem dX8_error_4 : decode cX8_error 4 = .ok (.iload_n 1, 1) := by decide +kernel
theorem dX8_error_5 : decode cX8_error 5 = .ok (.dup2, 1) := by decide +kernel
theorem dX8_error_6 : decode cX8_error 6 = .ok (.iaload, 1) := by decide +kernel
theorem dX8_error_7 : decode cX8_error 7 = .ok (.iconst 1, 1) := by decide +kernel
theorem dX8_error_8 : decode cX8_error 8 = .ok (.iadd, 1) := by decide +kernel
theorem dX8_error_9 : decode cX8_error 9 = .ok (.iastore, 1) := by decide +kernel
theorem dX8_error_10 : decode cX8_error 10 = .ok (.ldc_w 293, 3) := by decide +kernel
theorem dX8_error_13 : decode cX8_error 13 = .ok (.iload_n 1, 1) := by decide +kernel
theorem dX8_error_14 : decode cX8_error 14 = .ok (.isub, 1) := by decide +kernel
theorem dX8_error_15 : decode cX8_error 15 = .ok (.ireturn, 1) := by decide +kernel
theorem dX8_becomeView_0 : decode cX8_becomeView 0 = .ok (.iload_n 1, 1) := by decide +kernel
theorem dX8_becomeView_1 : decode cX8_becomeView 1 = .ok (.iconst 0, 1) := by decide +kernel
theorem dX8_becomeView_2 : decode cX8_becomeView 2 = .ok (.bipush 99, 2) := by decide +kernel
theorem dX8_becomeView_4 : decode cX8_becomeView 4 = .ok (.invokestatic 61, 3) := by decide +kernel
theorem dX8_becomeView_7 : decode cX8_becomeView 7 = .ok (.ifCond .ne 9, 3) := by decide +kernel
theorem dX8_becomeView_10 : decode cX8_becomeView 10 = .ok (.aload_n 0, 1) := by decide +kernel
theorem dX8_becomeView_11 : decode cX8_becomeView 11 = .ok (.iconst 1, 1) := by decide +kernel
theorem dX8_becomeView_12 : decode cX8_becomeView 12 = .ok (.invokevirtual 65, 3) := by decide +kernel
theorem dX8_becomeView_15 : decode cX8_becomeView 15 = .ok (.ireturn, 1) := by decide +kernel
theorem dX8_becomeView_16 : decode cX8_becomeView 16 = .ok (.aload_n 0, 1) := by decide +kernel
theorem dX8_becomeView_17 : decode cX8_becomeView 17 = .ok (.getfield 10, 3) := by decide +kernel
theorem dX8_becomeView_20 : decode cX8_becomeView 20 = .ok (.getfield 28, 3) := by decide +kernel
theorem dX8_becomeView_23 : decode cX8_becomeView 23 = .ok (.getfield 172, 3) := by decide +kernel
theorem dX8_becomeView_26 : decode cX8_becomeView 26 = .ok (.istore_n 2, 1) := by decide +kernel
theorem dX8_becomeView_27 : decode cX8_becomeView 27 = .ok (.aload_n 0, 1) := by decide +kernel
theorem dX8_becomeView_28 : decode cX8_becomeView 28 = .ok (.getfield 10, 3) := by decide +kernel
theorem dX8_becomeView_31 : decode cX8_becomeView 31 = .ok (.getfield 28, 3) := by decide +kernel
theorem dX8_becomeView_34 : decode cX8_becomeView 34 = .ok (.iload_n 1, 1) := by decide +kernel
theorem dX8_becomeView_35 : decode cX8_becomeView 35 = .ok (.putfield 172, 3) := by decide +kernel
theorem dX8_becomeView_38 : decode cX8_becomeView 38 = .ok (.iload_n 2, 1) := by decide +kernel
theorem dX8_becomeView_39 : decode cX8_becomeView 39 = .ok (.ireturn, 1) := by decide +kernel
theorem dX8_becomeSharp_0 : decode cX8_becomeSharp 0 = .ok (.iload_n 1, 1) := by decide +kernel
theorem dX8_becomeSharp_1 : decode cX8_becomeSharp 1 = .ok (.iconst 0, 1) := by decide +kernel
theorem dX8_becomeSharp_2 : decode cX8_becomeSharp 2 = .ok (.bipush 99, 2) := by decide +kernel
theorem dX8_becomeSharp_4 : decode cX8_becomeSharp 4 = .ok (.invokestatic 61, 3) := by decide +kernel
theorem dX8_becomeSharp_7 : decode cX8_becomeSharp 7 = .ok (.ifCond .ne 9, 3) := by decide +kernel
theorem dX8_becomeSharp_10 : decode cX8_becomeSharp 10 = .ok (.aload_n 0, 1) := by decide +kernel
theorem dX8_becomeSharp_11 : decode cX8_becomeSharp 11 = .ok (.iconst 1, 1) := by decide +kernel
theorem dX8_becomeSharp_12 : decode cX8_becomeSharp 12 = .ok (.invokevirtual 65, 3) := by decide +kernel
theorem dX8_becomeSharp_15 : decode cX8_becomeSharp 15 = .ok (.ireturn, 1) := by decide +kernel
theorem dX8_becomeSharp_16 : decode cX8_becomeSharp 16 = .ok (.aload_n 0, 1) := by decide +kernel
theorem dX8_becomeSharp_17 : decode cX8_becomeSharp 17 = .ok (.getfield 10, 3) := by decide +kernel
theorem dX8_becomeSharp_20 : decode cX8_becomeSharp 20 = .ok (.getfield 28, 3) := by decide +kernel
theorem dX8_becomeSharp_23 : decode cX8_becomeSharp 23 = .ok (.getfield 185, 3) := by decide +kernel
theorem dX8_becomeSharp_26 : decode cX8_becomeSharp 26 = .ok (.istore_n 2, 1) := by decide +kernel
theorem dX8_becomeSharp_27 : decode cX8_becomeSharp 27 = .ok (.aload_n 0, 1) := by decide +kernel
theorem dX8_becomeSharp_28 : decode cX8_becomeSharp 28 = .ok (.getfield 10, 3) := by decide +kernel
theorem dX8_becomeSharp_31 : decode cX8_becomeSharp 31 = .ok (.getfield 28, 3) := by decide +kernel
theorem dX8_becomeSharp_34 : decode cX8_becomeSharp 34 = .ok (.iload_n 1, 1) := by decide +kernel
theorem dX8_becomeSharp_35 : decode cX8_becomeSharp 35 = .ok (.putfield 185, 3) := by decide +kernel
theorem dX8_becomeSharp_38 : decode cX8_becomeSharp 38 = .ok (.iload_n 2, 1) := by decide +kernel
theorem dX8_becomeSharp_39 : decode cX8_becomeSharp 39 = .ok (.ireturn, 1) := by decide +kernel
theorem dX8_becomeSteel_0 : decode cX8_becomeSteel 0 = .ok (.iload_n 1, 1) := by decide +kernel
theorem dX8_becomeSteel_1 : decode cX8_becomeSteel 1 = .ok (.iconst 1, 1) := by decide +kernel
theorem dX8_becomeSteel_2 : decode cX8_becomeSteel 2 = .ok (.bipush 40, 2) := by decide +kernel
theorem dX8_becomeSteel_4 : decode cX8_becomeSteel 4 = .ok (.invokestatic 61, 3) := by decide +kernel
theorem dX8_becomeSteel_7 : decode cX8_becomeSteel 7 = .ok (.ifCond .ne 9, 3) := by decide +kernel
theorem dX8_becomeSteel_10 : decode cX8_becomeSteel 10 = .ok (.aload_n 0, 1) := by decide +kernel
theorem dX8_becomeSteel_11 : decode cX8_becomeSteel 11 = .ok (.iconst 1, 1) := by decide +kernel
theorem dX8_becomeSteel_12 : decode cX8_becomeSteel 12 = .ok (.invokevirtual 65, 3) := by decide +kernel
theorem dX8_becomeSteel_15 : decode cX8_becomeSteel 15 = .ok (.ireturn, 1) := by decide +kernel
theorem dX8_becomeSteel_16 : decode cX8_becomeSteel 16 = .ok (.aload_n 0, 1) := by decide +kernel
theorem dX8_becomeSteel_17 : decode cX8_becomeSteel 17 = .ok (.getfield 10, 3) := by decide +kernel
theorem dX8_becomeSteel_20 : decode cX8_becomeSteel 20 = .ok (.getfield 28, 3) := by decide +kernel
theorem dX8_becomeSteel_23 : decode cX8_becomeSteel 23 = .ok (.getfield 287, 3) := by decide +kernel
theorem dX8_becomeSteel_26 : decode cX8_becomeSteel 26 = .ok (.istore_n 2, 1) := by decide +kernel
theorem dX8_becomeSteel_27 : decode cX8_becomeSteel 27 = .ok (.aload_n 0, 1) := by decide +kernel
theorem dX8_becomeSteel_28 : decode cX8_becomeSteel 28 = .ok (.getfield 10, 3) := by decide +kernel
theorem dX8_becomeSteel_31 : decode cX8_becomeSteel 31 = .ok (.getfield 28, 3) := by decide +kernel
theorem dX8_becomeSteel_34 : decode cX8_becomeSteel 34 = .ok (.iload_n 1, 1) := by decide +kernel
theorem dX8_becomeSteel_35 : decode cX8_becomeSteel 35 = .ok (.putfield 287, 3) := by decide +kernel
theorem dX8_becomeSteel_38 : decode cX8_becomeSteel 38 = .ok (.iload_n 2, 1) := by decide +kernel
theorem dX8_becomeSteel_39 : decode cX8_becomeSteel 39 = .ok (.ireturn, 1) := by decide +kernel
theorem dX8_isWithin_0 : decode cX8_isWithin 0 = .ok (.iload_n 0, 1) := by decide +kernel
theorem dX8_isWithin_1 : decode cX8_isWithin 1 = .ok (.iload_n 1, 1) := by decide +kernel
theorem dX8_isWithin_2 : decode cX8_isWithin 2 = .ok (.if_icmp .lt 12, 3) := by decide +kernel
theorem dX8_isWithin_5 : decode cX8_isWithin 5 = .ok (.iload_n 0, 1) := by decide +kernel
theorem dX8_isWithin_6 : decode cX8_isWithin 6 = .ok (.iload_n 2, 1) := by decide +kernel
theorem dX8_isWithin_7 : decode cX8_isWithin 7 = .ok (.if_icmp .gt 7, 3) := by decide +kernel
theorem dX8_isWithin_10 : decode cX8_isWithin 10 = .ok (.iconst 1, 1) := by decide +kernel
theorem dX8_isWithin_11 : decode cX8_isWithin 11 = .ok (.goto 4, 3) := by decide +kernel
theorem dX8_isWithin_14 : decode cX8_isWithin 14 = .ok (.iconst 0, 1) := by decide +kernel
theorem dX8_isWithin_15 : decode cX8_isWithin 15 = .ok (.ireturn, 1) := by decide +kernel
theorem dX8_isUse_0 : decode cX8_isUse 0 = .ok (.iload_n 0, 1) := by decide +kernel
theorem dX8_isUse_1 : decode cX8_isUse 1 = .ok (.iconst 0, 1) := by decide +kernel
theorem dX8_isUse_2 : decode cX8_isUse 2 = .ok (.iconst 1, 1) := by decide +kernel
theorem dX8_isUse_3 : decode cX8_isUse 3 = .ok (.invokestatic 61, 3) := by decide +kernel
theorem dX8_isUse_6 : decode cX8_isUse 6 = .ok (.ireturn, 1) := by decide +kernel
theorem dX8_isSheet_0 : decode cX8_isSheet 0 = .ok (.iload_n 0, 1) := by decide +kernel
theorem dX8_isSheet_1 : decode cX8_isSheet 1 = .ok (.iconst 0, 1) := by decide +kernel
theorem dX8_isSheet_2 : decode cX8_isSheet 2 = .ok (.iconst 3, 1) := by decide +kernel
theorem dX8_isSheet_3 : decode cX8_isSheet 3 = .ok (.invokestatic 61, 3) := by decide +kernel
theorem dX8_isSheet_6 : decode cX8_isSheet 6 = .ok (.ireturn, 1) := by decide +kernel
theorem dX8_isOfKind_0 : decode cX8_isOfKind 0 = .ok (.getstatic 294, 3) := by decide +kernel
theorem dX8_isOfKind_3 : decode cX8_isOfKind 3 = .ok (.iload_n 0, 1) := by decide +kernel
theorem dX8_isOfKind_4 : decode cX8_isOfKind 4 = .ok (.iaload, 1) := by decide +kernel
theorem dX8_isOfKind_5 : decode cX8_isOfKind 5 = .ok (.istore_n 2, 1) := by decide +kernel
theorem dX8_isOfKind_6 : decode cX8_isOfKind 6 = .ok (.iload_n 0, 1) := by decide +kernel
theorem dX8_isOfKind_7 : decode cX8_isOfKind 7 = .ok (.iload_n 1, 1) := by decide +kernel
theorem dX8_isOfKind_8 : decode cX8_isOfKind 8 = .ok (.if_icmp .eq 17, 3) := by decide +kernel
theorem dX8_isOfKind_11 : decode cX8_isOfKind 11 = .ok (.iload_n 2, 1) := by decide +kernel
theorem dX8_isOfKind_12 : decode cX8_isOfKind 12 = .ok (.iload_n 1, 1) := by decide +kernel
theorem dX8_isOfKind_13 : decode cX8_isOfKind 13 = .ok (.if_icmp .eq 12, 3) := by decide +kernel
theorem dX8_isOfKind_16 : decode cX8_isOfKind 16 = .ok (.getstatic 294, 3) := by decide +kernel
theorem dX8_isOfKind_19 : decode cX8_isOfKind 19 = .ok (.iload_n 2, 1) := by decide +kernel
theorem dX8_isOfKind_20 : decode cX8_isOfKind 20 = .ok (.iaload, 1) := by decide +kernel
theorem dX8_isOfKind_21 : decode cX8_isOfKind 21 = .ok (.iload_n 1, 1) := by decide +kernel
theorem dX8_isOfKind_22 : decode cX8_isOfKind 22 = .ok (.if_icmp .ne 7, 3) := by decide +kernel
theorem dX8_isOfKind_25 : decode cX8_isOfKind 25 = .ok (.iconst 1, 1) := by decide +kernel
theorem dX8_isOfKind_26 : decode cX8_isOfKind 26 = .ok (.goto 4, 3) := by decide +kernel
theorem dX8_isOfKind_29 : decode cX8_isOfKind 29 = .ok (.iconst 0, 1) := by decide +kernel
theorem dX8_isOfKind_30 : decode cX8_isOfKind 30 = .ok (.ireturn, 1) := by decide +kernel
theorem dX8_greatestShared_0 : decode cX8_greatestShared 0 = .ok (.iload_n 1, 1) := by decide +kernel
theorem dX8_greatestShared_1 : decode cX8_greatestShared 1 = .ok (.istore_n 2, 1) := by decide +kernel
theorem dX8_greatestShared_2 : decode cX8_greatestShared 2 = .ok (.iload_n 2, 1) := by decide +kernel
theorem dX8_greatestShared_3 : decode cX8_greatestShared 3 = .ok (.iconst 1, 1) := by decide +kernel
theorem dX8_greatestShared_4 : decode cX8_greatestShared 4 = .ok (.if_icmp .le 23, 3) := by decide +kernel
theorem dX8_greatestShared_7 : decode cX8_greatestShared 7 = .ok (.iload_n 0, 1) := by decide +kernel
theorem dX8_greatestShared_8 : decode cX8_greatestShared 8 = .ok (.iload_n 2, 1) := by decide +kernel
theorem dX8_greatestShared_9 : decode cX8_greatestShared 9 = .ok (.irem, 1) := by decide +kernel
theorem dX8_greatestShared_10 : decode cX8_greatestShared 10 = .ok (.ifCond .ne 11, 3) := by decide +kernel
theorem dX8_greatestShared_13 : decode cX8_greatestShared 13 = .ok (.iload_n 1, 1) := by decide +kernel
theorem dX8_greatestShared_14 : decode cX8_greatestShared 14 = .ok (.iload_n 2, 1) := by decide +kernel
theorem dX8_greatestShared_15 : decode cX8_greatestShared 15 = .ok (.irem, 1) := by decide +kernel
theorem dX8_greatestShared_16 : decode cX8_greatestShared 16 = .ok (.ifCond .ne 5, 3) := by decide +kernel
theorem dX8_greatestShared_19 : decode cX8_greatestShared 19 = .ok (.iload_n 2, 1) := by decide +kernel
theorem dX8_greatestShared_20 : decode cX8_greatestShared 20 = .ok (.ireturn, 1) := by decide +kernel
theorem dX8_greatestShared_21 : decode cX8_greatestShared 21 = .ok (.iinc 2 (-1), 3) := by decide +kernel
theorem dX8_greatestShared_24 : decode cX8_greatestShared 24 = .ok (.goto (-22), 3) := by decide +kernel
theorem dX8_greatestShared_27 : decode cX8_greatestShared 27 = .ok (.iconst 1, 1) := by decide +kernel
theorem dX8_greatestShared_28 : decode cX8_greatestShared 28 = .ok (.ireturn, 1) := by decide +kernel
end
section
theorem dX9_init_0 : decode cX9_init 0 = .ok (.aload_n 0, 1) := by decide +kernel
theorem dX9_init_1 : decode cX9_init 1 = .ok (.invokespecial 1, 3) := by decide +kernel
theorem dX9_init_4 : decode cX9_init 4 = .ok (.aload_n 0, 1) := by decide +kernel
theorem dX9_init_5 : decode cX9_init 5 = .ok (.sipush 383, 3) := by decide +kernel
theorem dX9_init_8 : decode cX9_init 8 = .ok (.newarray .int, 2) := by decide +kernel
theorem dX9_init_10 : decode cX9_init 10 = .ok (.putfield 7, 3) := by decide +kernel
theorem dX9_init_13 : decode cX9_init 13 = .ok (.aload_n 0, 1) := by decide +kernel
theorem dX9_init_14 : decode cX9_init 14 = .ok (.sipush 383, 3) := by decide +kernel
theorem dX9_init_17 : decode cX9_init 17 = .ok (.newarray .int, 2) := by decide +kernel
theorem dX9_init_19 : decode cX9_init 19 = .ok (.putfield 13, 3) := by decide +kernel
theorem dX9_init_22 : decode cX9_init 22 = .ok (.aload_n 0, 1) := by decide +kernel
theorem dX9_init_23 : decode cX9_init 23 = .ok (.bipush 49, 2) := by decide +kernel
theorem dX9_init_25 : decode cX9_init 25 = .ok (.newarray .int, 2) := by decide +kernel
theorem dX9_init_27 : decode cX9_init 27 = .ok (.putfield 16, 3) := by decide +kernel
theorem dX9_init_30 : decode cX9_init 30 = .ok (.aload_n 0, 1) := by decide +kernel
theorem dX9_init_31 : decode cX9_init 31 = .ok (.bipush 7, 2) := by decide +kernel
theorem dX9_init_33 : decode cX9_init 33 = .ok (.newarray .int, 2) := by decide +kernel
theorem dX9_init_35 : decode cX9_init 35 = .ok (.putfield 19, 3) := by decide +kernel
theorem dX9_init_38 : decode cX9_init 38 = .ok (.aload_n 0, 1) := by decide +kernel
theorem dX9_init_39 : decode cX9_init 39 = .ok (.bipush 124, 2) := by decide +kernel
theorem dX9_init_41 : decode cX9_init 41 = .ok (.newarray .int, 2) := by decide +kernel
theorem dX9_init_43 : decode cX9_init 43 = .ok (.putfield 22, 3) := by decide +kernel
theorem dX9_init_46 : decode cX9_init 46 = .ok (.aload_n 0, 1) := by decide +kernel
theorem dX9_init_47 : decode cX9_init 47 = .ok (.sipush 128, 3) := by decide +kernel
theorem dX9_init_50 : decode cX9_init 50 = .ok (.newarray .int, 2) := by decide +kernel
theorem dX9_init_52 : decode cX9_init 52 = .ok (.putfield 25, 3) := by decide +kernel
theorem dX9_init_55 : decode cX9_init 55 = .ok (.aload_n 0, 1) := by decide +kernel
theorem dX9_init_56 : decode cX9_init 56 = .ok (.bipush 64, 2) := by decide +kernel
theorem dX9_init_58 : decode cX9_init 58 = .ok (.newarray .int, 2) := by decide +kernel
theorem dX9_init_60 : decode cX9_init 60 = .ok (.putfield 28, 3) := by decide +kernel
theorem dX9_init_63 : decode cX9_init 63 = .ok (.aload_n 0, 1) := by decide +kernel
theorem dX9_init_64 : decode cX9_init 64 = .ok (.bipush 30, 2) := by decide +kernel
theorem dX9_init_66 : decode cX9_init 66 = .ok (.newarray .int, 2) := by decide +kernel
theorem dX9_init_68 : decode cX9_init 68 = .ok (.putfield 31, 3) := by decide +kernel
theorem dX9_init_71 : decode cX9_init 71 = .ok (.aload_n 0, 1) := by decide +kernel
theorem dX9_init_72 : decode cX9_init 72 = .ok (.iconst 4, 1) := by decide +kernel
theorem dX9_init_73 : decode cX9_init 73 = .ok (.newarray .int, 2) := by decide +kernel
theorem dX9_init_75 : decode cX9_init 75 = .ok (.putfield 34, 3) := by decide +kernel
theorem dX9_init_78 : decode cX9_init 78 = .ok (.aload_n 0, 1) := by decide +kernel
theorem dX9_init_79 : decode cX9_init 79 = .ok (.iconst 4, 1) := by decide +kernel
theorem dX9_init_80 : decode cX9_init 80 = .ok (.newarray .int, 2) := by decide +kernel
theorem dX9_init_82 : decode cX9_init 82 = .ok (.putfield 37, 3) := by decide +kernel
theorem dX9_init_85 : decode cX9_init 85 = .ok (.aload_n 0, 1) := by decide +kernel
theorem dX9_init_86 : decode cX9_init 86 = .ok (.bipush 96, 2) := by decide +kernel
theorem dX9_init_88 : decode cX9_init 88 = .ok (.newarray .int, 2) := by decide +kernel
theorem dX9_init_90 : decode cX9_init 90 = .ok (.putfield 40, 3) := by decide +kernel
theorem dX9_init_93 : decode cX9_init 93 = .ok (.aload_n 0, 1) := by decide +kernel
theorem dX9_init_94 : decode cX9_init 94 = .ok (.bipush 24, 2) := by decide +kernel
theorem dX9_init_96 : decode cX9_init 96 = .ok (.newarray .int, 2) := by decide +kernel
theorem dX9_init_98 : decode cX9_init 98 = .ok (.putfield 43, 3) := by decide +kernel
theorem dX9_init_101 : decode cX9_init 101 = .ok (.aload_n 0, 1) := by decide +kernel
theorem dX9_init_102 : decode cX9_init 102 = .ok (.getfield 7, 3) := by decide +kernel
theorem dX9_init_105 : decode cX9_init 105 = .ok (.iconst 5, 1) := by decide +kernel
theorem dX9_init_106 : decode cX9_init 106 = .ok (.iconst 1, 1) := by decide +kernel
theorem dX9_init_107 : decode cX9_init 107 = .ok (.iastore, 1) := by decide +kernel
theorem dX9_init_108 : decode cX9_init 108 = .ok (.aload_n 0, 1) := by decide +kernel
theorem dX9_init_109 : decode cX9_init 109 = .ok (.getfield 7, 3) := by decide +kernel
theorem dX9_init_112 : decode cX9_init 112 = .ok (.iconst 2, 1) := by decide +kernel
theorem dX9_init_113 : decode cX9_init 113 = .ok (.bipush 99, 2) := by decide +kernel
theorem dX9_init_115 : decode cX9_init 115 = .ok (.iastore, 1) := by decide +kernel
theorem dX9_init_116 : decode cX9_init 116 = .ok (.aload_n 0, 1) := by decide +kernel
theorem dX9_init_117 : decode cX9_init 117 = .ok (.getfield 7, 3) := by decide +kernel
theorem dX9_init_120 : decode cX9_init 120 = .ok (.iconst 3, 1) := by decide +kernel
theorem dX9_init_121 : decode cX9_init 121 = .ok (.bipush 7, 2) := by decide +kernel
theorem dX9_init_123 : decode cX9_init 123 = .ok (.iastore, 1) := by decide +kernel
theorem dX9_init_124 : decode cX9_init 124 = .ok (.return_, 1) := by decide +kernel
theorem dX9_error_0 : decode cX9_error 0 = .ok (.aload_n 0, 1) := by decide +kernel
theorem dX9_error_1 : decode cX9_error 1 = .ok (.getfield 19, 3) := by decide +kernel
theorem dX9_error_4 : decode cX9_error 4 = .ok (.iload_n 1, 1) := by decide +kernel
theorem dX9_error_5 : decode cX9_error 5 = .ok (.dup2, 1) := by decide +kernel
theorem dX9_error_6 : decode cX9_error 6 = .ok (.iaload, 1) := by decide +kernel
theorem dX9_error_7 : decode cX9_error 7 = .ok (.iconst 1, 1) := by decide +kernel
theorem dX9_error_8 : decode cX9_error 8 = .ok (.iadd, 1) := by decide +kernel
theorem dX9_error_9 : decode cX9_error 9 = .ok (.iastore, 1) := by decide +kernel
theorem dX9_error_10 : decode cX9_error 10 = .ok (.ldc 46, 2) := by decide +kernel
theorem dX9_error_12 : decode cX9_error 12 = .ok (.iload_n 1, 1) := by decide +kernel
theorem dX9_error_13 : decode cX9_error 13 = .ok (.isub, 1) := by decide +kernel
theorem dX9_error_14 : decode cX9_error 14 = .ok (.ireturn, 1) := by decide +kernel
theorem dX9_in_0 : decode cX9_in 0 = .ok (.iload_n 0, 1) := by decide +kernel
theorem dX9_in_1 : decode cX9_in 1 = .ok (.iload_n 1, 1) := by decide +kernel
theorem dX9_in_2 : decode cX9_in 2 = .ok (.if_icmp .lt 12, 3) := by decide +kernel
theorem dX9_in_5 : decode cX9_in 5 = .ok (.iload_n 0, 1) := by decide +kernel
theorem dX9_in_6 : decode cX9_in 6 = .ok (.iload_n 2, 1) := by decide +kernel
theorem dX9_in_7 : decode cX9_in 7 = .ok (.if_icmp .gt 7, 3) := by decide +kernel
theorem dX9_in_10 : decode cX9_in 10 = .ok (.iconst 1, 1) := by decide +kernel
theorem dX9_in_11 : decode cX9_in 11 = .ok (.goto 4, 3) := by decide +kernel
theorem dX9_in_14 : decode cX9_in 14 = .ok (.iconst 0, 1) := by decide +kernel
theorem dX9_in_15 : decode cX9_in 15 = .ok (.ireturn, 1) := by decide +kernel
theorem dX9_held_0 : decode cX9_held 0 = .ok (.iload_n 0, 1) := by decide +kernel
theorem dX9_held_1 : decode cX9_held 1 = .ok (.iload_n 1, 1) := by decide +kernel
theorem dX9_held_2 : decode cX9_held 2 = .ok (.if_icmp .ge 7, 3) := by decide +kernel
theorem dX9_held_5 : decode cX9_held 5 = .ok (.iload_n 1, 1) := by decide +kernel
theorem dX9_held_6 : decode cX9_held 6 = .ok (.goto 13, 3) := by decide +kernel
theorem dX9_held_9 : decode cX9_held 9 = .ok (.iload_n 0, 1) := by decide +kernel
theorem dX9_held_10 : decode cX9_held 10 = .ok (.iload_n 2, 1) := by decide +kernel
theorem dX9_held_11 : decode cX9_held 11 = .ok (.if_icmp .le 7, 3) := by decide +kernel
theorem dX9_held_14 : decode cX9_held 14 = .ok (.iload_n 2, 1) := by decide +kernel
theorem dX9_held_15 : decode cX9_held 15 = .ok (.goto 4, 3) := by decide +kernel
theorem dX9_held_18 : decode cX9_held 18 = .ok (.iload_n 0, 1) := by decide +kernel
theorem dX9_held_19 : decode cX9_held 19 = .ok (.ireturn, 1) := by decide +kernel
theorem dX9_copyAll_0 : decode cX9_copyAll 0 = .ok (.iconst 0, 1) := by decide +kernel
theorem dX9_copyAll_1 : decode cX9_copyAll 1 = .ok (.istore_n 2, 1) := by decide +kernel
theorem dX9_copyAll_2 : decode cX9_copyAll 2 = .ok (.iload_n 2, 1) := by decide +kernel
theorem dX9_copyAll_3 : decode cX9_copyAll 3 = .ok (.sipush 383, 3) := by decide +kernel
theorem dX9_copyAll_6 : decode cX9_copyAll 6 = .ok (.if_icmp .ge 15, 3) := by decide +kernel
theorem dX9_copyAll_9 : decode cX9_copyAll 9 = .ok (.aload_n 1, 1) := by decide +kernel
theorem dX9_copyAll_10 : decode cX9_copyAll 10 = .ok (.iload_n 2, 1) := by decide +kernel
theorem dX9_copyAll_11 : decode cX9_copyAll 11 = .ok (.aload_n 0, 1) := by decide +kernel
theorem dX9_copyAll_12 : decode cX9_copyAll 12 = .ok (.iload_n 2, 1) := by decide +kernel
theorem dX9_copyAll_13 : decode cX9_copyAll 13 = .ok (.iaload, 1) := by decide +kernel
theorem dX9_copyAll_14 : decode cX9_copyAll 14 = .ok (.iastore, 1) := by decide +kernel
theorem dX9_copyAll_15 : decode cX9_copyAll 15 = .ok (.iinc 2 1, 3) := by decide +kernel
theorem dX9_copyAll_18 : decode cX9_copyAll 18 = .ok (.goto (-16), 3) := by decide +kernel
theorem dX9_copyAll_21 : decode cX9_copyAll 21 = .ok (.return_, 1) := by decide +kernel
theorem dX9_saves_0 : decode cX9_saves 0 = .ok (.iconst 0, 1) := by decide +kernel
theorem dX9_saves_1 : decode cX9_saves 1 = .ok (.istore_n 1, 1) := by decide +kernel
theorem dX9_saves_2 : decode cX9_saves 2 = .ok (.iload_n 1, 1) := by decide +kernel
theorem dX9_saves_3 : decode cX9_saves 3 = .ok (.bipush 49, 2) := by decide +kernel
theorem dX9_saves_5 : decode cX9_saves 5 = .ok (.if_icmp .ge 21, 3) := by decide +kernel
theorem dX9_saves_8 : decode cX9_saves 8 = .ok (.aload_n 0, 1) := by decide +kernel
theorem dX9_saves_9 : decode cX9_saves 9 = .ok (.getfield 16, 3) := by decide +kernel
theorem dX9_saves_12 : decode cX9_saves 12 = .ok (.iload_n 1, 1) := by decide +kernel
theorem dX9_saves_13 : decode cX9_saves 13 = .ok (.aload_n 0, 1) := by decide +kernel
theorem dX9_saves_14 : decode cX9_saves 14 = .ok (.getfield 7, 3) := by decide +kernel
theorem dX9_saves_17 : decode cX9_saves 17 = .ok (.iload_n 1, 1) := by decide +kernel
theorem dX9_saves_18 : decode cX9_saves 18 = .ok (.iaload, 1) := by decide +kernel
theorem dX9_saves_19 : decode cX9_saves 19 = .ok (.iastore, 1) := by decide +kernel
theorem dX9_saves_20 : decode cX9_saves 20 = .ok (.iinc 1 1, 3) := by decide +kernel
theorem dX9_saves_23 : decode cX9_saves 23 = .ok (.goto (-21), 3) := by decide +kernel
theorem dX9_saves_26 : decode cX9_saves 26 = .ok (.return_, 1) := by decide +kernel
theorem dX9_putsBack_0 : decode cX9_putsBack 0 = .ok (.iconst 0, 1) := by decide +kernel
theorem dX9_putsBack_1 : decode cX9_putsBack 1 = .ok (.istore_n 1, 1) := by decide +kernel
theorem dX9_putsBack_2 : decode cX9_putsBack 2 = .ok (.iload_n 1, 1) := by decide +kernel
theorem dX9_putsBack_3 : decode cX9_putsBack 3 = .ok (.bipush 49, 2) := by decide +kernel
theorem dX9_putsBack_5 : decode cX9_putsBack 5 = .ok (.if_icmp .ge 21, 3) := by decide +kernel
theorem dX9_putsBack_8 : decode cX9_putsBack 8 = .ok (.aload_n 0, 1) := by decide +kernel
theorem dX9_putsBack_9 : decode cX9_putsBack 9 = .ok (.getfield 7, 3) := by decide +kernel
theorem dX9_putsBack_12 : decode cX9_putsBack 12 = .ok (.iload_n 1, 1) := by decide +kernel
theorem dX9_putsBack_13 : decode cX9_putsBack 13 = .ok (.aload_n 0, 1) := by decide +kernel
theorem dX9_putsBack_14 : decode cX9_putsBack 14 = .ok (.getfield 16, 3) := by decide +kernel
theorem dX9_putsBack_17 : decode cX9_putsBack 17 = .ok (.iload_n 1, 1) := by decide +kernel
theorem dX9_putsBack_18 : decode cX9_putsBack 18 = .ok (.iaload, 1) := by decide +kernel
theorem dX9_putsBack_19 : decode cX9_putsBack 19 = .ok (.iastore, 1) := by decide +kernel
theorem dX9_putsBack_20 : decode cX9_putsBack 20 = .ok (.iinc 1 1, 3) := by decide +kernel
theorem dX9_putsBack_23 : decode cX9_putsBack 23 = .ok (.goto (-21), 3) := by decide +kernel
theorem dX9_putsBack_26 : decode cX9_putsBack 26 = .ok (.return_, 1) := by decide +kernel
theorem dX9_isHome_0 : decode cX9_isHome 0 = .ok (.iload_n 1, 1) := by decide +kernel
theorem dX9_isHome_1 : decode cX9_isHome 1 = .ok (.iconst 0, 1) := by decide +kernel
theorem dX9_isHome_2 : decode cX9_isHome 2 = .ok (.aload_n 0, 1) := by decide +kernel
theorem dX9_isHome_3 : decode cX9_isHome 3 = .ok (.getfield 7, 3) := by decide +kernel
theorem dX9_isHome_6 : decode cX9_isHome 6 = .ok (.bipush 8, 2) := by decide +kernel
theorem dX9_isHome_8 : decode cX9_isHome 8 = .ok (.iaload, 1) := by decide +kernel
theorem dX9_isHome_9 : decode cX9_isHome 9 = .ok (.iconst 1, 1) := by decide +kernel
theorem dX9_isHome_10 : decode cX9_isHome 10 = .ok (.isub, 1) := by decide +kernel
theorem dX9_isHome_11 : decode cX9_isHome 11 = .ok (.invokestatic 47, 3) := by decide +kernel
theorem dX9_isHome_14 : decode cX9_isHome 14 = .ok (.ireturn, 1) := by decide +kernel
theorem dX9_its_0 : decode cX9_its 0 = .ok (.aload_n 0, 1) := by decide +kernel
theorem dX9_its_1 : decode cX9_its 1 = .ok (.getfield 7, 3) := by decide +kernel
theorem dX9_its_4 : decode cX9_its 4 = .ok (.bipush 9, 2) := by decide +kernel
theorem dX9_its_6 : decode cX9_its 6 = .ok (.iconst 5, 1) := by decide +kernel
theorem dX9_its_7 : decode cX9_its 7 = .ok (.iload_n 1, 1) := by decide +kernel
theorem dX9_its_8 : decode cX9_its 8 = .ok (.imul, 1) := by decide +kernel
theorem dX9_its_9 : decode cX9_its 9 = .ok (.iadd, 1) := by decide +kernel
theorem dX9_its_10 : decode cX9_its 10 = .ok (.iload_n 2, 1) := by decide +kernel
theorem dX9_its_11 : decode cX9_its 11 = .ok (.iadd, 1) := by decide +kernel
theorem dX9_its_12 : decode cX9_its 12 = .ok (.iaload, 1) := by decide +kernel
theorem dX9_its_13 : decode cX9_its 13 = .ok (.ireturn, 1) := by decide +kernel
theorem dX9_lays1_0 : decode cX9_lays1 0 = .ok (.aload_n 0, 1) := by decide +kernel
theorem dX9_lays1_1 : decode cX9_lays1 1 = .ok (.getfield 7, 3) := by decide +kernel
theorem dX9_lays1_4 : decode cX9_lays1 4 = .ok (.bipush 9, 2) := by decide +kernel
theorem dX9_lays1_6 : decode cX9_lays1 6 = .ok (.iconst 5, 1) := by decide +kernel
theorem dX9_lays1_7 : decode cX9_lays1 7 = .ok (.iload_n 1, 1) := by decide +kernel
theorem dX9_lays1_8 : decode cX9_lays1 8 = .ok (.imul, 1) := by decide +kernel
theorem dX9_lays1_9 : decode cX9_lays1 9 = .ok (.iadd, 1) := by decide +kernel
theorem dX9_lays1_10 : decode cX9_lays1 10 = .ok (.iload_n 2, 1) := by decide +kernel
theorem dX9_lays1_11 : decode cX9_lays1 11 = .ok (.iadd, 1) := by decide +kernel
theorem dX9_lays1_12 : decode cX9_lays1 12 = .ok (.iload_n 3, 1) := by decide +kernel
theorem dX9_lays1_13 : decode cX9_lays1 13 = .ok (.iastore, 1) := by decide +kernel
theorem dX9_lays1_14 : decode cX9_lays1 14 = .ok (.return_, 1) := by decide +kernel
theorem dX9_change1_0 : decode cX9_change1 0 = .ok (.aload_n 0, 1) := by decide +kernel
theorem dX9_change1_1 : decode cX9_change1 1 = .ok (.getfield 7, 3) := by decide +kernel
theorem dX9_change1_4 : decode cX9_change1 4 = .ok (.iload_n 1, 1) := by decide +kernel
theorem dX9_change1_5 : decode cX9_change1 5 = .ok (.iaload, 1) := by decide +kernel
theorem dX9_change1_6 : decode cX9_change1 6 = .ok (.istore_n 3, 1) := by decide +kernel
theorem dX9_change1_7 : decode cX9_change1 7 = .ok (.aload_n 0, 1) := by decide +kernel
theorem dX9_change1_8 : decode cX9_change1 8 = .ok (.getfield 7, 3) := by decide +kernel
theorem dX9_change1_11 : decode cX9_change1 11 = .ok (.iload_n 1, 1) := by decide +kernel
theorem dX9_change1_12 : decode cX9_change1 12 = .ok (.iload_n 2, 1) := by decide +kernel
theorem dX9_change1_13 : decode cX9_change1 13 = .ok (.iastore, 1) := by decide +kernel
theorem dX9_change1_14 : decode cX9_change1 14 = .ok (.iload_n 3, 1) := by decide +kernel
theorem dX9_change1_15 : decode cX9_change1 15 = .ok (.ireturn, 1) := by decide +kernel
theorem dX9_feed_0 : decode cX9_feed 0 = .ok (.iload_n 3, 1) := by decide +kernel
theorem dX9_feed_1 : decode cX9_feed 1 = .ok (.iconst 1, 1) := by decide +kernel
theorem dX9_feed_2 : decode cX9_feed 2 = .ok (.bipush 8, 2) := by decide +kernel
theorem dX9_feed_4 : decode cX9_feed 4 = .ok (.invokestatic 47, 3) := by decide +kernel
theorem dX9_feed_7 : decode cX9_feed 7 = .ok (.ifCond .ne 9, 3) := by decide +kernel
theorem dX9_feed_10 : decode cX9_feed 10 = .ok (.aload_n 0, 1) := by decide +kernel
theorem dX9_feed_11 : decode cX9_feed 11 = .ok (.iconst 1, 1) := by decide +kernel
theorem dX9_feed_12 : decode cX9_feed 12 = .ok (.invokevirtual 51, 3) := by decide +kernel
theorem dX9_feed_15 : decode cX9_feed 15 = .ok (.ireturn, 1) := by decide +kernel
theorem dX9_feed_16 : decode cX9_feed 16 = .ok (.aload_n 0, 1) := by decide +kernel
theorem dX9_feed_17 : decode cX9_feed 17 = .ok (.getfield 7, 3) := by decide +kernel
theorem dX9_feed_20 : decode cX9_feed 20 = .ok (.bipush 6, 2) := by decide +kernel
theorem dX9_feed_22 : decode cX9_feed 22 = .ok (.iaload, 1) := by decide +kernel
theorem dX9_feed_23 : decode cX9_feed 23 = .ok (.iload_n 3, 1) := by decide +kernel
theorem dX9_feed_24 : decode cX9_feed 24 = .ok (.iadd, 1) := by decide +kernel
theorem dX9_feed_25 : decode cX9_feed 25 = .ok (.bipush 60, 2) := by decide +kernel
theorem dX9_feed_27 : decode cX9_feed 27 = .ok (.if_icmp .le 9, 3) := by decide +kernel
theorem dX9_feed_30 : decode cX9_feed 30 = .ok (.aload_n 0, 1) := by decide +kernel
theorem dX9_feed_31 : decode cX9_feed 31 = .ok (.iconst 4, 1) := by decide +kernel
theorem dX9_feed_32 : decode cX9_feed 32 = .ok (.invokevirtual 51, 3) := by decide +kernel
theorem dX9_feed_35 : decode cX9_feed 35 = .ok (.ireturn, 1) := by decide +kernel
theorem dX9_feed_36 : decode cX9_feed 36 = .ok (.iconst 0, 1) := by decide +kernel
theorem dX9_feed_37 : decode cX9_feed 37 = .ok (.istore 4, 2) := by decide +kernel
theorem dX9_feed_39 : decode cX9_feed 39 = .ok (.iload 4, 2) := by decide +kernel
theorem dX9_feed_41 : decode cX9_feed 41 = .ok (.iload_n 3, 1) := by decide +kernel
theorem dX9_feed_42 : decode cX9_feed 42 = .ok (.if_icmp .ge 48, 3) := by decide +kernel
theorem dX9_feed_45 : decode cX9_feed 45 = .ok (.aload_n 0, 1) := by decide +kernel
theorem dX9_feed_46 : decode cX9_feed 46 = .ok (.getfield 7, 3) := by decide +kernel
theorem dX9_feed_49 : decode cX9_feed 49 = .ok (.sipush 299, 3) := by decide +kernel
theorem dX9_feed_52 : decode cX9_feed 52 = .ok (.aload_n 0, 1) := by decide +kernel
theorem dX9_feed_53 : decode cX9_feed 53 = .ok (.getfield 7, 3) := by decide +kernel
theorem dX9_feed_56 : decode cX9_feed 56 = .ok (.bipush 6, 2) := by decide +kernel
theorem dX9_feed_58 : decode cX9_feed 58 = .ok (.iaload, 1) := by decide +kernel
theorem dX9_feed_59 : decode cX9_feed 59 = .ok (.iadd, 1) := by decide +kernel
theorem dX9_feed_60 : decode cX9_feed 60 = .ok (.lload_n 1, 1) := by decide +kernel
theorem dX9_feed_61 : decode cX9_feed 61 = .ok (.bipush 8, 2) := by decide +kernel
theorem dX9_feed_63 : decode cX9_feed 63 = .ok (.iload 4, 2) := by decide +kernel
theorem dX9_feed_65 : decode cX9_feed 65 = .ok (.imul, 1) := by decide +kernel
theorem dX9_feed_66 : decode cX9_feed 66 = .ok (.lshr, 1) := by decide +kernel
theorem dX9_feed_67 : decode cX9_feed 67 = .ok (.ldc2_w 55, 3) := by decide +kernel
theorem dX9_feed_70 : decode cX9_feed 70 = .ok (.land, 1) := by decide +kernel
theorem dX9_feed_71 : decode cX9_feed 71 = .ok (.l2i, 1) := by decide +kernel
theorem dX9_feed_72 : decode cX9_feed 72 = .ok (.iastore, 1) := by decide +kernel
theorem dX9_feed_73 : decode cX9_feed 73 = .ok (.aload_n 0, 1) := by decide +kernel
theorem dX9_feed_74 : decode cX9_feed 74 = .ok (.getfield 7, 3) := by decide +kernel
theorem dX9_feed_77 : decode cX9_feed 77 = .ok (.bipush 6, 2) := by decide +kernel
theorem dX9_feed_79 : decode cX9_feed 79 = .ok (.dup2, 1) := by decide +kernel
theorem dX9_feed_80 : decode cX9_feed 80 = .ok (.iaload, 1) := by decide +kernel
theorem dX9_feed_81 : decode cX9_feed 81 = .ok (.iconst 1, 1) := by decide +kernel
theorem dX9_feed_82 : decode cX9_feed 82 = .ok (.iadd, 1) := by decide +kernel
theorem dX9_feed_83 : decode cX9_feed 83 = .ok (.iastore, 1) := by decide +kernel
theorem dX9_feed_84 : decode cX9_feed 84 = .ok (.iinc 4 1, 3) := by decide +kernel
theorem dX9_feed_87 : decode cX9_feed 87 = .ok (.goto (-48), 3) := by decide +kernel
theorem dX9_feed_90 : decode cX9_feed 90 = .ok (.aload_n 0, 1) := by decide +kernel
theorem dX9_feed_91 : decode cX9_feed 91 = .ok (.getfield 7, 3) := by decide +kernel
theorem dX9_feed_94 : decode cX9_feed 94 = .ok (.bipush 6, 2) := by decide +kernel
theorem dX9_feed_96 : decode cX9_feed 96 = .ok (.iaload, 1) := by decide +kernel
theorem dX9_feed_97 : decode cX9_feed 97 = .ok (.ireturn, 1) := by decide +kernel
theorem dX9_look_0 : decode cX9_look 0 = .ok (.aload_n 0, 1) := by decide +kernel
theorem dX9_look_1 : decode cX9_look 1 = .ok (.getfield 57, 3) := by decide +kernel
theorem dX9_look_4 : decode cX9_look 4 = .ok (.aload_n 0, 1) := by decide +kernel
theorem dX9_look_5 : decode cX9_look 5 = .ok (.getfield 7, 3) := by decide +kernel
theorem dX9_look_8 : decode cX9_look 8 = .ok (.bipush 6, 2) := by decide +kernel
theorem dX9_look_10 : decode cX9_look 10 = .ok (.iaload, 1) := by decide +kernel
theorem dX9_look_11 : decode cX9_look 11 = .ok (.if_icmp .ge 19, 3) := by decide +kernel
theorem dX9_look_14 : decode cX9_look 14 = .ok (.aload_n 0, 1) := by decide +kernel
theorem dX9_look_15 : decode cX9_look 15 = .ok (.getfield 7, 3) := by decide +kernel
theorem dX9_look_18 : decode cX9_look 18 = .ok (.sipush 299, 3) := by decide +kernel
theorem dX9_look_21 : decode cX9_look 21 = .ok (.aload_n 0, 1) := by decide +kernel
theorem dX9_look_22 : decode cX9_look 22 = .ok (.getfield 57, 3) := by decide +kernel
theorem dX9_look_25 : decode cX9_look 25 = .ok (.iadd, 1) := by decide +kernel
theorem dX9_look_26 : decode cX9_look 26 = .ok (.iaload, 1) := by decide +kernel
theorem dX9_look_27 : decode cX9_look 27 = .ok (.goto 4, 3) := by decide +kernel
theorem dX9_look_30 : decode cX9_look 30 = .ok (.iconst (-1), 1) := by decide +kernel
theorem dX9_look_31 : decode cX9_look 31 = .ok (.ireturn, 1) := by decide +kernel
theorem dX9_isName_0 : decode cX9_isName 0 = .ok (.iload_n 1, 1) := by decide +kernel
theorem dX9_isName_1 : decode cX9_isName 1 = .ok (.bipush 115, 2) := by decide +kernel
theorem dX9_isName_3 : decode cX9_isName 3 = .ok (.if_icmp .eq 27, 3) := by decide +kernel
theorem dX9_isName_6 : decode cX9_isName 6 = .ok (.iload_n 1, 1) := by decide +kernel
theorem dX9_isName_7 : decode cX9_isName 7 = .ok (.bipush 100, 2) := by decide +kernel
theorem dX9_isName_9 : decode cX9_isName 9 = .ok (.if_icmp .eq 21, 3) := by decide +kernel
theorem dX9_isName_12 : decode cX9_isName 12 = .ok (.iload_n 1, 1) := by decide +kernel
theorem dX9_isName_13 : decode cX9_isName 13 = .ok (.aload_n 0, 1) := by decide +kernel
theorem dX9_isName_14 : decode cX9_isName 14 = .ok (.getfield 61, 3) := by decide +kernel
theorem dX9_isName_17 : decode cX9_isName 17 = .ok (.ifCond .ne 8, 3) := by decide +kernel
theorem dX9_isName_20 : decode cX9_isName 20 = .ok (.bipush 118, 2) := by decide +kernel
theorem dX9_isName_22 : decode cX9_isName 22 = .ok (.goto 5, 3) := by decide +kernel
theorem dX9_isName_25 : decode cX9_isName 25 = .ok (.bipush 108, 2) := by decide +kernel
theorem dX9_isName_27 : decode cX9_isName 27 = .ok (.if_icmp .ne 7, 3) := by decide +kernel
theorem dX9_isName_30 : decode cX9_isName 30 = .ok (.iconst 1, 1) := by decide +kernel
theorem dX9_isName_31 : decode cX9_isName 31 = .ok (.goto 4, 3) := by decide +kernel
theorem dX9_isName_34 : decode cX9_isName 34 = .ok (.iconst 0, 1) := by decide +kernel
theorem dX9_isName_35 : decode cX9_isName 35 = .ok (.ireturn, 1) := by decide +kernel
theorem dX9_step1_0 : decode cX9_step1 0 = .ok (.aload_n 0, 1) := by decide +kernel
theorem dX9_step1_1 : decode cX9_step1 1 = .ok (.getfield 22, 3) := by decide +kernel
theorem dX9_step1_4 : decode cX9_step1 4 = .ok (.iconst 2, 1) := by decide +kernel
theorem dX9_step1_5 : decode cX9_step1 5 = .ok (.aload_n 0, 1) := by decide +kernel
theorem dX9_step1_6 : decode cX9_step1 6 = .ok (.getfield 64, 3) := by decide +kernel
theorem dX9_step1_9 : decode cX9_step1 9 = .ok (.imul, 1) := by decide +kernel
theorem dX9_step1_10 : decode cX9_step1 10 = .ok (.iload_n 1, 1) := by decide +kernel
theorem dX9_step1_11 : decode cX9_step1 11 = .ok (.iastore, 1) := by decide +kernel
theorem dX9_step1_12 : decode cX9_step1 12 = .ok (.aload_n 0, 1) := by decide +kernel
theorem dX9_step1_13 : decode cX9_step1 13 = .ok (.getfield 22, 3) := by decide +kernel
theorem dX9_step1_16 : decode cX9_step1 16 = .ok (.iconst 2, 1) := by decide +kernel
theorem dX9_step1_17 : decode cX9_step1 17 = .ok (.aload_n 0, 1) := by decide +kernel
theorem dX9_step1_18 : decode cX9_step1 18 = .ok (.getfield 64, 3) := by decide +kernel
theorem dX9_step1_21 : decode cX9_step1 21 = .ok (.imul, 1) := by decide +kernel
theorem dX9_step1_22 : decode cX9_step1 22 = .ok (.iconst 1, 1) := by decide +kernel
theorem dX9_step1_23 : decode cX9_step1 23 = .ok (.iadd, 1) := by decide +kernel
theorem dX9_step1_24 : decode cX9_step1 24 = .ok (.iload_n 2, 1) := by decide +kernel
theorem dX9_step1_25 : decode cX9_step1 25 = .ok (.iastore, 1) := by decide +kernel
theorem dX9_step1_26 : decode cX9_step1 26 = .ok (.aload_n 0, 1) := by decide +kernel
theorem dX9_step1_27 : decode cX9_step1 27 = .ok (.dup, 1) := by decide +kernel
theorem dX9_step1_28 : decode cX9_step1 28 = .ok (.getfield 64, 3) := by decide +kernel
theorem dX9_step1_31 : decode cX9_step1 31 = .ok (.iconst 1, 1) := by decide +kernel
theorem dX9_step1_32 : decode cX9_step1 32 = .ok (.iadd, 1) := by decide +kernel
theorem dX9_step1_33 : decode cX9_step1 33 = .ok (.putfield 64, 3) := by decide +kernel
theorem dX9_step1_36 : decode cX9_step1 36 = .ok (.return_, 1) := by decide +kernel
theorem dX9_whole_0 : decode cX9_whole 0 = .ok (.aload_n 0, 1) := by decide +kernel
theorem dX9_whole_1 : decode cX9_whole 1 = .ok (.invokevirtual 67, 3) := by decide +kernel
theorem dX9_whole_4 : decode cX9_whole 4 = .ok (.ifCond .ne 5, 3) := by decide +kernel
theorem dX9_whole_7 : decode cX9_whole 7 = .ok (.iconst 0, 1) := by decide +kernel
theorem dX9_whole_8 : decode cX9_whole 8 = .ok (.ireturn, 1) := by decide +kernel
theorem dX9_whole_9 : decode cX9_whole 9 = .ok (.aload_n 0, 1) := by decide +kernel
theorem dX9_whole_10 : decode cX9_whole 10 = .ok (.invokevirtual 71, 3) := by decide +kernel
theorem dX9_whole_13 : decode cX9_whole 13 = .ok (.bipush 124, 2) := by decide +kernel
theorem dX9_whole_15 : decode cX9_whole 15 = .ok (.if_icmp .ne 32, 3) := by decide +kernel
theorem dX9_whole_18 : decode cX9_whole 18 = .ok (.aload_n 0, 1) := by decide +kernel
theorem dX9_whole_19 : decode cX9_whole 19 = .ok (.dup, 1) := by decide +kernel
theorem dX9_whole_20 : decode cX9_whole 20 = .ok (.getfield 57, 3) := by decide +kernel
theorem dX9_whole_23 : decode cX9_whole 23 = .ok (.iconst 1, 1) := by decide +kernel
theorem dX9_whole_24 : decode cX9_whole 24 = .ok (.iadd, 1) := by decide +kernel
theorem dX9_whole_25 : decode cX9_whole 25 = .ok (.putfield 57, 3) := by decide +kernel
theorem dX9_whole_28 : decode cX9_whole 28 = .ok (.aload_n 0, 1) := by decide +kernel
theorem dX9_whole_29 : decode cX9_whole 29 = .ok (.invokevirtual 67, 3) := by decide +kernel
theorem dX9_whole_32 : decode cX9_whole 32 = .ok (.ifCond .ne 5, 3) := by decide +kernel
theorem dX9_whole_35 : decode cX9_whole 35 = .ok (.iconst 0, 1) := by decide +kernel
theorem dX9_whole_36 : decode cX9_whole 36 = .ok (.ireturn, 1) := by decide +kernel
theorem dX9_whole_37 : decode cX9_whole 37 = .ok (.aload_n 0, 1) := by decide +kernel
theorem dX9_whole_38 : decode cX9_whole 38 = .ok (.iconst 3, 1) := by decide +kernel
theorem dX9_whole_39 : decode cX9_whole 39 = .ok (.bipush 124, 2) := by decide +kernel
theorem dX9_whole_41 : decode cX9_whole 41 = .ok (.invokevirtual 75, 3) := by decide +kernel
theorem dX9_whole_44 : decode cX9_whole 44 = .ok (.goto (-35), 3) := by decide +kernel
theorem dX9_whole_47 : decode cX9_whole 47 = .ok (.iconst 1, 1) := by decide +kernel
theorem dX9_whole_48 : decode cX9_whole 48 = .ok (.ireturn, 1) := by decide +kernel
theorem dX9_both_0 : decode cX9_both 0 = .ok (.aload_n 0, 1) := by decide +kernel
theorem dX9_both_1 : decode cX9_both 1 = .ok (.invokevirtual 79, 3) := by decide +kernel
theorem dX9_both_4 : decode cX9_both 4 = .ok (.ifCond .ne 5, 3) := by decide +kernel
theorem dX9_both_7 : decode cX9_both 7 = .ok (.iconst 0, 1) := by decide +kernel
theorem dX9_both_8 : decode cX9_both 8 = .ok (.ireturn, 1) := by decide +kernel
theorem dX9_both_9 : decode cX9_both 9 = .ok (.aload_n 0, 1) := by decide +kernel
theorem dX9_both_10 : decode cX9_both 10 = .ok (.invokevirtual 71, 3) := by decide +kernel
theorem dX9_both_13 : decode cX9_both 13 = .ok (.bipush 38, 2) := by decide +kernel
theorem dX9_both_15 : decode cX9_both 15 = .ok (.if_icmp .ne 32, 3) := by decide +kernel
theorem dX9_both_18 : decode cX9_both 18 = .ok (.aload_n 0, 1) := by decide +kernel
theorem dX9_both_19 : decode cX9_both 19 = .ok (.dup, 1) := by decide +kernel
theorem dX9_both_20 : decode cX9_both 20 = .ok (.getfield 57, 3) := by decide +kernel
theorem dX9_both_23 : decode cX9_both 23 = .ok (.iconst 1, 1) := by decide +kernel
theorem dX9_both_24 : decode cX9_both 24 = .ok (.iadd, 1) := by decide +kernel
theorem dX9_both_25 : decode cX9_both 25 = .ok (.putfield 57, 3) := by decide +kernel
theorem dX9_both_28 : decode cX9_both 28 = .ok (.aload_n 0, 1) := by decide +kernel
theorem dX9_both_29 : decode cX9_both 29 = .ok (.invokevirtual 79, 3) := by decide +kernel
theorem dX9_both_32 : decode cX9_both 32 = .ok (.ifCond .ne 5, 3) := by decide +kernel
theorem dX9_both_35 : decode cX9_both 35 = .ok (.iconst 0, 1) := by decide +kernel
theorem dX9_both_36 : decode cX9_both 36 = .ok (.ireturn, 1) := by decide +kernel
theorem dX9_both_37 : decode cX9_both 37 = .ok (.aload_n 0, 1) := by decide +kernel
theorem dX9_both_38 : decode cX9_both 38 = .ok (.iconst 3, 1) := by decide +kernel
theorem dX9_both_39 : decode cX9_both 39 = .ok (.bipush 38, 2) := by decide +kernel
theorem dX9_both_41 : decode cX9_both 41 = .ok (.invokevirtual 75, 3) := by decide +kernel
theorem dX9_both_44 : decode cX9_both 44 = .ok (.goto (-35), 3) := by decide +kernel
theorem dX9_both_47 : decode cX9_both 47 = .ok (.iconst 1, 1) := by decide +kernel
theorem dX9_both_48 : decode cX9_both 48 = .ok (.ireturn, 1) := by decide +kernel
theorem dX9_compared_0 : decode cX9_compared 0 = .ok (.aload_n 0, 1) := by decide +kernel
theorem dX9_compared_1 : decode cX9_compared 1 = .ok (.invokevirtual 82, 3) := by decide +kernel
theorem dX9_compared_4 : decode cX9_compared 4 = .ok (.ifCond .ne 5, 3) := by decide +kernel
theorem dX9_compared_7 : decode cX9_compared 7 = .ok (.iconst 0, 1) := by decide +kernel
theorem dX9_compared_8 : decode cX9_compared 8 = .ok (.ireturn, 1) := by decide +kernel
theorem dX9_compared_9 : decode cX9_compared 9 = .ok (.aload_n 0, 1) := by decide +kernel
theorem dX9_compared_10 : decode cX9_compared 10 = .ok (.invokevirtual 71, 3) := by decide +kernel
theorem dX9_compared_13 : decode cX9_compared 13 = .ok (.istore_n 1, 1) := by decide +kernel
theorem dX9_compared_14 : decode cX9_compared 14 = .ok (.iload_n 1, 1) := by decide +kernel
theorem dX9_compared_15 : decode cX9_compared 15 = .ok (.bipush 60, 2) := by decide +kernel
theorem dX9_compared_17 : decode cX9_compared 17 = .ok (.if_icmp .eq 17, 3) := by decide +kernel
theorem dX9_compared_20 : decode cX9_compared 20 = .ok (.iload_n 1, 1) := by decide +kernel
theorem dX9_compared_21 : decode cX9_compared 21 = .ok (.bipush 61, 2) := by decide +kernel
theorem dX9_compared_23 : decode cX9_compared 23 = .ok (.if_icmp .eq 11, 3) := by decide +kernel
theorem dX9_compared_26 : decode cX9_compared 26 = .ok (.iload_n 1, 1) := by decide +kernel
theorem dX9_compared_27 : decode cX9_compared 27 = .ok (.bipush 62, 2) := by decide +kernel
theorem dX9_compared_29 : decode cX9_compared 29 = .ok (.if_icmp .eq 5, 3) := by decide +kernel
theorem dX9_compared_32 : decode cX9_compared 32 = .ok (.iconst 1, 1) := by decide +kernel
theorem dX9_compared_33 : decode cX9_compared 33 = .ok (.ireturn, 1) := by decide +kernel
theorem dX9_compared_34 : decode cX9_compared 34 = .ok (.aload_n 0, 1) := by decide +kernel
theorem dX9_compared_35 : decode cX9_compared 35 = .ok (.dup, 1) := by decide +kernel
theorem dX9_compared_36 : decode cX9_compared 36 = .ok (.getfield 57, 3) := by decide +kernel
theorem dX9_compared_39 : decode cX9_compared 39 = .ok (.iconst 1, 1) := by decide +kernel
theorem dX9_compared_40 : decode cX9_compared 40 = .ok (.iadd, 1) := by decide +kernel
theorem dX9_compared_41 : decode cX9_compared 41 = .ok (.putfield 57, 3) := by decide +kernel
theorem dX9_compared_44 : decode cX9_compared 44 = .ok (.aload_n 0, 1) := by decide +kernel
theorem dX9_compared_45 : decode cX9_compared 45 = .ok (.invokevirtual 82, 3) := by decide +kernel
theorem dX9_compared_48 : decode cX9_compared 48 = .ok (.ifCond .ne 5, 3) := by decide +kernel
theorem dX9_compared_51 : decode cX9_compared 51 = .ok (.iconst 0, 1) := by decide +kernel
theorem dX9_compared_52 : decode cX9_compared 52 = .ok (.ireturn, 1) := by decide +kernel
theorem dX9_compared_53 : decode cX9_compared 53 = .ok (.aload_n 0, 1) := by decide +kernel
theorem dX9_compared_54 : decode cX9_compared 54 = .ok (.iconst 3, 1) := by decide +kernel
theorem dX9_compared_55 : decode cX9_compared 55 = .ok (.iload_n 1, 1) := by decide +kernel
theorem dX9_compared_56 : decode cX9_compared 56 = .ok (.invokevirtual 75, 3) := by decide +kernel
theorem dX9_compared_59 : decode cX9_compared 59 = .ok (.iconst 1, 1) := by decide +kernel
theorem dX9_compared_60 : decode cX9_compared 60 = .ok (.ireturn, 1) := by decide +kernel
theorem dX9_sum_0 : decode cX9_sum 0 = .ok (.aload_n 0, 1) := by decide +kernel
theorem dX9_sum_1 : decode cX9_sum 1 = .ok (.invokevirtual 85, 3) := by decide +kernel
theorem dX9_sum_4 : decode cX9_sum 4 = .ok (.ifCond .ne 5, 3) := by decide +kernel
theorem dX9_sum_7 : decode cX9_sum 7 = .ok (.iconst 0, 1) := by decide +kernel
theorem dX9_sum_8 : decode cX9_sum 8 = .ok (.ireturn, 1) := by decide +kernel
theorem dX9_sum_9 : decode cX9_sum 9 = .ok (.aload_n 0, 1) := by decide +kernel
theorem dX9_sum_10 : decode cX9_sum 10 = .ok (.invokevirtual 71, 3) := by decide +kernel
theorem dX9_sum_13 : decode cX9_sum 13 = .ok (.bipush 43, 2) := by decide +kernel
theorem dX9_sum_15 : decode cX9_sum 15 = .ok (.if_icmp .eq 12, 3) := by decide +kernel
theorem dX9_sum_18 : decode cX9_sum 18 = .ok (.aload_n 0, 1) := by decide +kernel
theorem dX9_sum_19 : decode cX9_sum 19 = .ok (.invokevirtual 71, 3) := by decide +kernel
theorem dX9_sum_22 : decode cX9_sum 22 = .ok (.bipush 45, 2) := by decide +kernel
theorem dX9_sum_24 : decode cX9_sum 24 = .ok (.if_icmp .ne 36, 3) := by decide +kernel
theorem dX9_sum_27 : decode cX9_sum 27 = .ok (.aload_n 0, 1) := by decide +kernel
theorem dX9_sum_28 : decode cX9_sum 28 = .ok (.invokevirtual 71, 3) := by decide +kernel
theorem dX9_sum_31 : decode cX9_sum 31 = .ok (.istore_n 1, 1) := by decide +kernel
theorem dX9_sum_32 : decode cX9_sum 32 = .ok (.aload_n 0, 1) := by decide +kernel
theorem dX9_sum_33 : decode cX9_sum 33 = .ok (.dup, 1) := by decide +kernel
theorem dX9_sum_34 : decode cX9_sum 34 = .ok (.getfield 57, 3) := by decide +kernel
theorem dX9_sum_37 : decode cX9_sum 37 = .ok (.iconst 1, 1) := by decide +kernel
theorem dX9_sum_38 : decode cX9_sum 38 = .ok (.iadd, 1) := by decide +kernel
theorem dX9_sum_39 : decode cX9_sum 39 = .ok (.putfield 57, 3) := by decide +kernel
theorem dX9_sum_42 : decode cX9_sum 42 = .ok (.aload_n 0, 1) := by decide +kernel
theorem dX9_sum_43 : decode cX9_sum 43 = .ok (.invokevirtual 85, 3) := by decide +kernel
theorem dX9_sum_46 : decode cX9_sum 46 = .ok (.ifCond .ne 5, 3) := by decide +kernel
theorem dX9_sum_49 : decode cX9_sum 49 = .ok (.iconst 0, 1) := by decide +kernel
theorem dX9_sum_50 : decode cX9_sum 50 = .ok (.ireturn, 1) := by decide +kernel
theorem dX9_sum_51 : decode cX9_sum 51 = .ok (.aload_n 0, 1) := by decide +kernel
theorem dX9_sum_52 : decode cX9_sum 52 = .ok (.iconst 3, 1) := by decide +kernel
theorem dX9_sum_53 : decode cX9_sum 53 = .ok (.iload_n 1, 1) := by decide +kernel
theorem dX9_sum_54 : decode cX9_sum 54 = .ok (.invokevirtual 75, 3) := by decide +kernel
theorem dX9_sum_57 : decode cX9_sum 57 = .ok (.goto (-48), 3) := by decide +kernel
theorem dX9_sum_60 : decode cX9_sum 60 = .ok (.iconst 1, 1) := by decide +kernel
theorem dX9_sum_61 : decode cX9_sum 61 = .ok (.ireturn, 1) := by decide +kernel
theorem dX9_product_0 : decode cX9_product 0 = .ok (.aload_n 0, 1) := by decide +kernel
theorem dX9_product_1 : decode cX9_product 1 = .ok (.invokevirtual 88, 3) := by decide +kernel
theorem dX9_product_4 : decode cX9_product 4 = .ok (.ifCond .ne 5, 3) := by decide +kernel
theorem dX9_product_7 : decode cX9_product 7 = .ok (.iconst 0, 1) := by decide +kernel
theorem dX9_product_8 : decode cX9_product 8 = .ok (.ireturn, 1) := by decide +kernel
theorem dX9_product_9 : decode cX9_product 9 = .ok (.aload_n 0, 1) := by decide +kernel
theorem dX9_product_10 : decode cX9_product 10 = .ok (.invokevirtual 71, 3) := by decide +kernel
theorem dX9_product_13 : decode cX9_product 13 = .ok (.bipush 42, 2) := by decide +kernel
theorem dX9_product_15 : decode cX9_product 15 = .ok (.if_icmp .eq 21, 3) := by decide +kernel
theorem dX9_product_18 : decode cX9_product 18 = .ok (.aload_n 0, 1) := by decide +kernel
theorem dX9_product_19 : decode cX9_product 19 = .ok (.invokevirtual 71, 3) := by decide +kernel
theorem dX9_product_22 : decode cX9_product 22 = .ok (.bipush 47, 2) := by decide +kernel
theorem dX9_product_24 : decode cX9_product 24 = .ok (.if_icmp .eq 12, 3) := by decide +kernel
theorem dX9_product_27 : decode cX9_product 27 = .ok (.aload_n 0, 1) := by decide +kernel
theorem dX9_product_28 : decode cX9_product 28 = .ok (.invokevirtual 71, 3) := by decide +kernel
theorem dX9_product_31 : decode cX9_product 31 = .ok (.bipush 37, 2) := by decide +kernel
theorem dX9_product_33 : decode cX9_product 33 = .ok (.if_icmp .ne 36, 3) := by decide +kernel
theorem dX9_product_36 : decode cX9_product 36 = .ok (.aload_n 0, 1) := by decide +kernel
theorem dX9_product_37 : decode cX9_product 37 = .ok (.invokevirtual 71, 3) := by decide +kernel
theorem dX9_product_40 : decode cX9_product 40 = .ok (.istore_n 1, 1) := by decide +kernel
theorem dX9_product_41 : decode cX9_product 41 = .ok (.aload_n 0, 1) := by decide +kernel
theorem dX9_product_42 : decode cX9_product 42 = .ok (.dup, 1) := by decide +kernel
theorem dX9_product_43 : decode cX9_product 43 = .ok (.getfield 57, 3) := by decide +kernel
theorem dX9_product_46 : decode cX9_product 46 = .ok (.iconst 1, 1) := by decide +kernel
theorem dX9_product_47 : decode cX9_product 47 = .ok (.iadd, 1) := by decide +kernel
theorem dX9_product_48 : decode cX9_product 48 = .ok (.putfield 57, 3) := by decide +kernel
theorem dX9_product_51 : decode cX9_product 51 = .ok (.aload_n 0, 1) := by decide +kernel
theorem dX9_product_52 : decode cX9_product 52 = .ok (.invokevirtual 88, 3) := by decide +kernel
theorem dX9_product_55 : decode cX9_product 55 = .ok (.ifCond .ne 5, 3) := by decide +kernel
theorem dX9_product_58 : decode cX9_product 58 = .ok (.iconst 0, 1) := by decide +kernel
theorem dX9_product_59 : decode cX9_product 59 = .ok (.ireturn, 1) := by decide +kernel
theorem dX9_product_60 : decode cX9_product 60 = .ok (.aload_n 0, 1) := by decide +kernel
theorem dX9_product_61 : decode cX9_product 61 = .ok (.iconst 3, 1) := by decide +kernel
theorem dX9_product_62 : decode cX9_product 62 = .ok (.iload_n 1, 1) := by decide +kernel
theorem dX9_product_63 : decode cX9_product 63 = .ok (.invokevirtual 75, 3) := by decide +kernel
theorem dX9_product_66 : decode cX9_product 66 = .ok (.goto (-57), 3) := by decide +kernel
theorem dX9_product_69 : decode cX9_product 69 = .ok (.iconst 1, 1) := by decide +kernel
theorem dX9_product_70 : decode cX9_product 70 = .ok (.ireturn, 1) := by decide +kernel
theorem dX9_opens_0 : decode cX9_opens 0 = .ok (.aload_n 0, 1) := by decide +kernel
theorem dX9_opens_1 : decode cX9_opens 1 = .ok (.getfield 91, 3) := by decide +kernel
theorem dX9_opens_4 : decode cX9_opens 4 = .ok (.iconst 5, 1) := by decide +kernel
theorem dX9_opens_5 : decode cX9_opens 5 = .ok (.if_icmp .ne 5, 3) := by decide +kernel
theorem dX9_opens_8 : decode cX9_opens 8 = .ok (.iconst 0, 1) := by decide +kernel
theorem dX9_opens_9 : decode cX9_opens 9 = .ok (.ireturn, 1) := by decide +kernel
theorem dX9_opens_10 : decode cX9_opens 10 = .ok (.aload_n 0, 1) := by decide +kernel
theorem dX9_opens_11 : decode cX9_opens 11 = .ok (.dup, 1) := by decide +kernel
theorem dX9_opens_12 : decode cX9_opens 12 = .ok (.getfield 91, 3) := by decide +kernel
theorem dX9_opens_15 : decode cX9_opens 15 = .ok (.iconst 1, 1) := by decide +kernel
theorem dX9_opens_16 : decode cX9_opens 16 = .ok (.iadd, 1) := by decide +kernel
theorem dX9_opens_17 : decode cX9_opens 17 = .ok (.putfield 91, 3) := by decide +kernel
theorem dX9_opens_20 : decode cX9_opens 20 = .ok (.aload_n 0, 1) := by decide +kernel
theorem dX9_opens_21 : decode cX9_opens 21 = .ok (.dup, 1) := by decide +kernel
theorem dX9_opens_22 : decode cX9_opens 22 = .ok (.getfield 57, 3) := by decide +kernel
theorem dX9_opens_25 : decode cX9_opens 25 = .ok (.iconst 1, 1) := by decide +kernel
theorem dX9_opens_26 : decode cX9_opens 26 = .ok (.iadd, 1) := by decide +kernel
theorem dX9_opens_27 : decode cX9_opens 27 = .ok (.putfield 57, 3) := by decide +kernel
theorem dX9_opens_30 : decode cX9_opens 30 = .ok (.iconst 1, 1) := by decide +kernel
theorem dX9_opens_31 : decode cX9_opens 31 = .ok (.ireturn, 1) := by decide +kernel
theorem dX9_one_0 : decode cX9_one 0 = .ok (.aload_n 0, 1) := by decide +kernel
theorem dX9_one_1 : decode cX9_one 1 = .ok (.invokevirtual 71, 3) := by decide +kernel
theorem dX9_one_4 : decode cX9_one 4 = .ok (.istore_n 1, 1) := by decide +kernel
theorem dX9_one_5 : decode cX9_one 5 = .ok (.aload_n 0, 1) := by decide +kernel
theorem dX9_one_6 : decode cX9_one 6 = .ok (.iload_n 1, 1) := by decide +kernel
theorem dX9_one_7 : decode cX9_one 7 = .ok (.invokevirtual 94, 3) := by decide +kernel
theorem dX9_one_10 : decode cX9_one 10 = .ok (.ifCond .eq 21, 3) := by decide +kernel
theorem dX9_one_13 : decode cX9_one 13 = .ok (.aload_n 0, 1) := by decide +kernel
theorem dX9_one_14 : decode cX9_one 14 = .ok (.dup, 1) := by decide +kernel
theorem dX9_one_15 : decode cX9_one 15 = .ok (.getfield 57, 3) := by decide +kernel
theorem dX9_one_18 : decode cX9_one 18 = .ok (.iconst 1, 1) := by decide +kernel
theorem dX9_one_19 : decode cX9_one 19 = .ok (.iadd, 1) := by decide +kernel
theorem dX9_one_20 : decode cX9_one 20 = .ok (.putfield 57, 3) := by decide +kernel
theorem dX9_one_23 : decode cX9_one 23 = .ok (.aload_n 0, 1) := by decide +kernel
theorem dX9_one_24 : decode cX9_one 24 = .ok (.iconst 1, 1) := by decide +kernel
theorem dX9_one_25 : decode cX9_one 25 = .ok (.iload_n 1, 1) := by decide +kernel
theorem dX9_one_26 : decode cX9_one 26 = .ok (.invokevirtual 75, 3) := by decide +kernel
theorem dX9_one_29 : decode cX9_one 29 = .ok (.iconst 1, 1) := by decide +kernel
theorem dX9_one_30 : decode cX9_one 30 = .ok (.ireturn, 1) := by decide +kernel
theorem dX9_one_31 : decode cX9_one 31 = .ok (.iload_n 1, 1) := by decide +kernel
theorem dX9_one_32 : decode cX9_one 32 = .ok (.bipush 48, 2) := by decide +kernel
theorem dX9_one_34 : decode cX9_one 34 = .ok (.bipush 57, 2) := by decide +kernel
theorem dX9_one_36 : decode cX9_one 36 = .ok (.invokestatic 47, 3) := by decide +kernel
theorem dX9_one_39 : decode cX9_one 39 = .ok (.ifCond .eq 63, 3) := by decide +kernel
theorem dX9_one_42 : decode cX9_one 42 = .ok (.iconst 0, 1) := by decide +kernel
theorem dX9_one_43 : decode cX9_one 43 = .ok (.istore_n 2, 1) := by decide +kernel
theorem dX9_one_44 : decode cX9_one 44 = .ok (.iconst 0, 1) := by decide +kernel
theorem dX9_one_45 : decode cX9_one 45 = .ok (.istore_n 3, 1) := by decide +kernel
theorem dX9_one_46 : decode cX9_one 46 = .ok (.iload_n 3, 1) := by decide +kernel
theorem dX9_one_47 : decode cX9_one 47 = .ok (.iconst 4, 1) := by decide +kernel
theorem dX9_one_48 : decode cX9_one 48 = .ok (.if_icmp .ge 46, 3) := by decide +kernel
theorem dX9_one_51 : decode cX9_one 51 = .ok (.aload_n 0, 1) := by decide +kernel
theorem dX9_one_52 : decode cX9_one 52 = .ok (.invokevirtual 71, 3) := by decide +kernel
theorem dX9_one_55 : decode cX9_one 55 = .ok (.bipush 48, 2) := by decide +kernel
theorem dX9_one_57 : decode cX9_one 57 = .ok (.bipush 57, 2) := by decide +kernel
theorem dX9_one_59 : decode cX9_one 59 = .ok (.invokestatic 47, 3) := by decide +kernel
theorem dX9_one_62 : decode cX9_one 62 = .ok (.ifCond .eq 32, 3) := by decide +kernel
theorem dX9_one_65 : decode cX9_one 65 = .ok (.bipush 10, 2) := by decide +kernel
theorem dX9_one_67 : decode cX9_one 67 = .ok (.iload_n 2, 1) := by decide +kernel
theorem dX9_one_68 : decode cX9_one 68 = .ok (.imul, 1) := by decide +kernel
theorem dX9_one_69 : decode cX9_one 69 = .ok (.aload_n 0, 1) := by decide +kernel
theorem dX9_one_70 : decode cX9_one 70 = .ok (.invokevirtual 71, 3) := by decide +kernel
theorem dX9_one_73 : decode cX9_one 73 = .ok (.iadd, 1) := by decide +kernel
theorem dX9_one_74 : decode cX9_one 74 = .ok (.bipush 48, 2) := by decide +kernel
theorem dX9_one_76 : decode cX9_one 76 = .ok (.isub, 1) := by decide +kernel
theorem dX9_one_77 : decode cX9_one 77 = .ok (.istore_n 2, 1) := by decide +kernel
theorem dX9_one_78 : decode cX9_one 78 = .ok (.aload_n 0, 1) := by decide +kernel
theorem dX9_one_79 : decode cX9_one 79 = .ok (.dup, 1) := by decide +kernel
theorem dX9_one_80 : decode cX9_one 80 = .ok (.getfield 57, 3) := by decide +kernel
theorem dX9_one_83 : decode cX9_one 83 = .ok (.iconst 1, 1) := by decide +kernel
theorem dX9_one_84 : decode cX9_one 84 = .ok (.iadd, 1) := by decide +kernel
theorem dX9_one_85 : decode cX9_one 85 = .ok (.putfield 57, 3) := by decide +kernel
theorem dX9_one_88 : decode cX9_one 88 = .ok (.iinc 3 1, 3) := by decide +kernel
theorem dX9_one_91 : decode cX9_one 91 = .ok (.goto (-45), 3) := by decide +kernel
theorem dX9_one_94 : decode cX9_one 94 = .ok (.aload_n 0, 1) := by decide +kernel
theorem dX9_one_95 : decode cX9_one 95 = .ok (.iconst 0, 1) := by decide +kernel
theorem dX9_one_96 : decode cX9_one 96 = .ok (.iload_n 2, 1) := by decide +kernel
theorem dX9_one_97 : decode cX9_one 97 = .ok (.invokevirtual 75, 3) := by decide +kernel
theorem dX9_one_100 : decode cX9_one 100 = .ok (.iconst 1, 1) := by decide +kernel
theorem dX9_one_101 : decode cX9_one 101 = .ok (.ireturn, 1) := by decide +kernel
theorem dX9_one_102 : decode cX9_one 102 = .ok (.iload_n 1, 1) := by decide +kernel
theorem dX9_one_103 : decode cX9_one 103 = .ok (.bipush 33, 2) := by decide +kernel
theorem dX9_one_105 : decode cX9_one 105 = .ok (.if_icmp .ne 37, 3) := by decide +kernel
theorem dX9_one_108 : decode cX9_one 108 = .ok (.aload_n 0, 1) := by decide +kernel
theorem dX9_one_109 : decode cX9_one 109 = .ok (.invokevirtual 98, 3) := by decide +kernel
theorem dX9_one_112 : decode cX9_one 112 = .ok (.ifCond .eq 10, 3) := by decide +kernel
theorem dX9_one_115 : decode cX9_one 115 = .ok (.aload_n 0, 1) := by decide +kernel
theorem dX9_one_116 : decode cX9_one 116 = .ok (.invokevirtual 88, 3) := by decide +kernel
theorem dX9_one_119 : decode cX9_one 119 = .ok (.ifCond .ne 5, 3) := by decide +kernel
theorem dX9_one_122 : decode cX9_one 122 = .ok (.iconst 0, 1) := by decide +kernel
theorem dX9_one_123 : decode cX9_one 123 = .ok (.ireturn, 1) := by decide +kernel
theorem dX9_one_124 : decode cX9_one 124 = .ok (.aload_n 0, 1) := by decide +kernel
theorem dX9_one_125 : decode cX9_one 125 = .ok (.dup, 1) := by decide +kernel
theorem dX9_one_126 : decode cX9_one 126 = .ok (.getfield 91, 3) := by decide +kernel
theorem dX9_one_129 : decode cX9_one 129 = .ok (.iconst 1, 1) := by decide +kernel
theorem dX9_one_130 : decode cX9_one 130 = .ok (.isub, 1) := by decide +kernel
theorem dX9_one_131 : decode cX9_one 131 = .ok (.putfield 91, 3) := by decide +kernel
theorem dX9_one_134 : decode cX9_one 134 = .ok (.aload_n 0, 1) := by decide +kernel
theorem dX9_one_135 : decode cX9_one 135 = .ok (.iconst 2, 1) := by decide +kernel
theorem dX9_one_136 : decode cX9_one 136 = .ok (.iconst 0, 1) := by decide +kernel
theorem dX9_one_137 : decode cX9_one 137 = .ok (.invokevirtual 75, 3) := by decide +kernel
theorem dX9_one_140 : decode cX9_one 140 = .ok (.iconst 1, 1) := by decide +kernel
theorem dX9_one_141 : decode cX9_one 141 = .ok (.ireturn, 1) := by decide +kernel
theorem dX9_one_142 : decode cX9_one 142 = .ok (.iload_n 1, 1) := by decide +kernel
theorem dX9_one_143 : decode cX9_one 143 = .ok (.bipush 40, 2) := by decide +kernel
theorem dX9_one_145 : decode cX9_one 145 = .ok (.if_icmp .ne 26, 3) := by decide +kernel
theorem dX9_one_148 : decode cX9_one 148 = .ok (.aload_n 0, 1) := by decide +kernel
theorem dX9_one_149 : decode cX9_one 149 = .ok (.invokevirtual 98, 3) := by decide +kernel
theorem dX9_one_152 : decode cX9_one 152 = .ok (.ifCond .eq 19, 3) := by decide +kernel
theorem dX9_one_155 : decode cX9_one 155 = .ok (.aload_n 0, 1) := by decide +kernel
theorem dX9_one_156 : decode cX9_one 156 = .ok (.invokevirtual 101, 3) := by decide +kernel
theorem dX9_one_159 : decode cX9_one 159 = .ok (.ifCond .eq 12, 3) := by decide +kernel
theorem dX9_one_162 : decode cX9_one 162 = .ok (.aload_n 0, 1) := by decide +kernel
theorem dX9_one_163 : decode cX9_one 163 = .ok (.invokevirtual 71, 3) := by decide +kernel
theorem dX9_one_166 : decode cX9_one 166 = .ok (.bipush 41, 2) := by decide +kernel
theorem dX9_one_168 : decode cX9_one 168 = .ok (.if_icmp .eq 5, 3) := by decide +kernel
theorem dX9_one_171 : decode cX9_one 171 = .ok (.iconst 0, 1) := by decide +kernel
theorem dX9_one_172 : decode cX9_one 172 = .ok (.ireturn, 1) := by decide +kernel
theorem dX9_one_173 : decode cX9_one 173 = .ok (.aload_n 0, 1) := by decide +kernel
theorem dX9_one_174 : decode cX9_one 174 = .ok (.dup, 1) := by decide +kernel
theorem dX9_one_175 : decode cX9_one 175 = .ok (.getfield 57, 3) := by decide +kernel
theorem dX9_one_178 : decode cX9_one 178 = .ok (.iconst 1, 1) := by decide +kernel
theorem dX9_one_179 : decode cX9_one 179 = .ok (.iadd, 1) := by decide +kernel
theorem dX9_one_180 : decode cX9_one 180 = .ok (.putfield 57, 3) := by decide +kernel
theorem dX9_one_183 : decode cX9_one 183 = .ok (.aload_n 0, 1) := by decide +kernel
theorem dX9_one_184 : decode cX9_one 184 = .ok (.dup, 1) := by decide +kernel
theorem dX9_one_185 : decode cX9_one 185 = .ok (.getfield 91, 3) := by decide +kernel
theorem dX9_one_188 : decode cX9_one 188 = .ok (.iconst 1, 1) := by decide +kernel
theorem dX9_one_189 : decode cX9_one 189 = .ok (.isub, 1) := by decide +kernel
theorem dX9_one_190 : decode cX9_one 190 = .ok (.putfield 91, 3) := by decide +kernel
theorem dX9_one_193 : decode cX9_one 193 = .ok (.iconst 1, 1) := by decide +kernel
theorem dX9_one_194 : decode cX9_one 194 = .ok (.ireturn, 1) := by decide +kernel
theorem dX9_hasText_0 : decode cX9_hasText 0 = .ok (.aload_n 0, 1) := by decide +kernel
theorem dX9_hasText_1 : decode cX9_hasText 1 = .ok (.getfield 7, 3) := by decide +kernel
theorem dX9_hasText_4 : decode cX9_hasText 4 = .ok (.bipush 49, 2) := by decide +kernel
theorem dX9_hasText_6 : decode cX9_hasText 6 = .ok (.bipush 125, 2) := by decide +kernel
theorem dX9_hasText_8 : decode cX9_hasText 8 = .ok (.iload_n 1, 1) := by decide +kernel
theorem dX9_hasText_9 : decode cX9_hasText 9 = .ok (.imul, 1) := by decide +kernel
theorem dX9_hasText_10 : decode cX9_hasText 10 = .ok (.iadd, 1) := by decide +kernel
theorem dX9_hasText_11 : decode cX9_hasText 11 = .ok (.iaload, 1) := by decide +kernel
theorem dX9_hasText_12 : decode cX9_hasText 12 = .ok (.ifCond .le 7, 3) := by decide +kernel
theorem dX9_hasText_15 : decode cX9_hasText 15 = .ok (.iconst 1, 1) := by decide +kernel
theorem dX9_hasText_16 : decode cX9_hasText 16 = .ok (.goto 4, 3) := by decide +kernel
theorem dX9_hasText_19 : decode cX9_hasText 19 = .ok (.iconst 0, 1) := by decide +kernel
theorem dX9_hasText_20 : decode cX9_hasText 20 = .ok (.ireturn, 1) := by decide +kernel
theorem dX9_text_0 : decode cX9_text 0 = .ok (.iload_n 1, 1) := by decide +kernel
theorem dX9_text_1 : decode cX9_text 1 = .ok (.iconst 0, 1) := by decide +kernel
theorem dX9_text_2 : decode cX9_text 2 = .ok (.iconst 1, 1) := by decide +kernel
theorem dX9_text_3 : decode cX9_text 3 = .ok (.invokestatic 47, 3) := by decide +kernel
theorem dX9_text_6 : decode cX9_text 6 = .ok (.ifCond .ne 9, 3) := by decide +kernel
theorem dX9_text_9 : decode cX9_text 9 = .ok (.aload_n 0, 1) := by decide +kernel
theorem dX9_text_10 : decode cX9_text 10 = .ok (.iconst 1, 1) := by decide +kernel
theorem dX9_text_11 : decode cX9_text 11 = .ok (.invokevirtual 51, 3) := by decide +kernel
theorem dX9_text_14 : decode cX9_text 14 = .ok (.ireturn, 1) := by decide +kernel
theorem dX9_text_15 : decode cX9_text 15 = .ok (.aload_n 0, 1) := by decide +kernel
theorem dX9_text_16 : decode cX9_text 16 = .ok (.iload_n 1, 1) := by decide +kernel
theorem dX9_text_17 : decode cX9_text 17 = .ok (.putfield 61, 3) := by decide +kernel
theorem dX9_text_20 : decode cX9_text 20 = .ok (.aload_n 0, 1) := by decide +kernel
theorem dX9_text_21 : decode cX9_text 21 = .ok (.iconst 0, 1) := by decide +kernel
theorem dX9_text_22 : decode cX9_text 22 = .ok (.putfield 57, 3) := by decide +kernel
theorem dX9_text_25 : decode cX9_text 25 = .ok (.aload_n 0, 1) := by decide +kernel
theorem dX9_text_26 : decode cX9_text 26 = .ok (.iconst 0, 1) := by decide +kernel
theorem dX9_text_27 : decode cX9_text 27 = .ok (.putfield 91, 3) := by decide +kernel
theorem dX9_text_30 : decode cX9_text 30 = .ok (.aload_n 0, 1) := by decide +kernel
theorem dX9_text_31 : decode cX9_text 31 = .ok (.iconst 0, 1) := by decide +kernel
theorem dX9_text_32 : decode cX9_text 32 = .ok (.putfield 64, 3) := by decide +kernel
theorem dX9_text_35 : decode cX9_text 35 = .ok (.aload_n 0, 1) := by decide +kernel
theorem dX9_text_36 : decode cX9_text 36 = .ok (.invokevirtual 101, 3) := by decide +kernel
theorem dX9_text_39 : decode cX9_text 39 = .ok (.ifCond .eq 21, 3) := by decide +kernel
theorem dX9_text_42 : decode cX9_text 42 = .ok (.aload_n 0, 1) := by decide +kernel
theorem dX9_text_43 : decode cX9_text 43 = .ok (.getfield 57, 3) := by decide +kernel
theorem dX9_text_46 : decode cX9_text 46 = .ok (.aload_n 0, 1) := by decide +kernel
theorem dX9_text_47 : decode cX9_text 47 = .ok (.getfield 7, 3) := by decide +kernel
theorem dX9_text_50 : decode cX9_text 50 = .ok (.bipush 6, 2) := by decide +kernel
theorem dX9_text_52 : decode cX9_text 52 = .ok (.iaload, 1) := by decide +kernel
theorem dX9_text_53 : decode cX9_text 53 = .ok (.if_icmp .ne 7, 3) := by decide +kernel
theorem dX9_text_56 : decode cX9_text 56 = .ok (.iconst 1, 1) := by decide +kernel
theorem dX9_text_57 : decode cX9_text 57 = .ok (.goto 4, 3) := by decide +kernel
theorem dX9_text_60 : decode cX9_text 60 = .ok (.iconst 0, 1) := by decide +kernel
theorem dX9_text_61 : decode cX9_text 61 = .ok (.istore_n 2, 1) := by decide +kernel
theorem dX9_text_62 : decode cX9_text 62 = .ok (.aload_n 0, 1) := by decide +kernel
theorem dX9_text_63 : decode cX9_text 63 = .ok (.getfield 7, 3) := by decide +kernel
theorem dX9_text_66 : decode cX9_text 66 = .ok (.bipush 6, 2) := by decide +kernel
theorem dX9_text_68 : decode cX9_text 68 = .ok (.iconst 0, 1) := by decide +kernel
theorem dX9_text_69 : decode cX9_text 69 = .ok (.iastore, 1) := by decide +kernel
theorem dX9_text_70 : decode cX9_text 70 = .ok (.iload_n 2, 1) := by decide +kernel
theorem dX9_text_71 : decode cX9_text 71 = .ok (.ifCond .ne 11, 3) := by decide +kernel
theorem dX9_text_74 : decode cX9_text 74 = .ok (.bipush (-10), 2) := by decide +kernel
theorem dX9_text_76 : decode cX9_text 76 = .ok (.aload_n 0, 1) := by decide +kernel
theorem dX9_text_77 : decode cX9_text 77 = .ok (.getfield 57, 3) := by decide +kernel
theorem dX9_text_80 : decode cX9_text 80 = .ok (.isub, 1) := by decide +kernel
theorem dX9_text_81 : decode cX9_text 81 = .ok (.ireturn, 1) := by decide +kernel
theorem dX9_text_82 : decode cX9_text 82 = .ok (.bipush 49, 2) := by decide +kernel
theorem dX9_text_84 : decode cX9_text 84 = .ok (.bipush 125, 2) := by decide +kernel
theorem dX9_text_86 : decode cX9_text 86 = .ok (.iload_n 1, 1) := by decide +kernel
theorem dX9_text_87 : decode cX9_text 87 = .ok (.imul, 1) := by decide +kernel
theorem dX9_text_88 : decode cX9_text 88 = .ok (.iadd, 1) := by decide +kernel
theorem dX9_text_89 : decode cX9_text 89 = .ok (.istore_n 3, 1) := by decide +kernel
theorem dX9_text_90 : decode cX9_text 90 = .ok (.aload_n 0, 1) := by decide +kernel
theorem dX9_text_91 : decode cX9_text 91 = .ok (.getfield 7, 3) := by decide +kernel
theorem dX9_text_94 : decode cX9_text 94 = .ok (.iload_n 3, 1) := by decide +kernel
theorem dX9_text_95 : decode cX9_text 95 = .ok (.aload_n 0, 1) := by decide +kernel
theorem dX9_text_96 : decode cX9_text 96 = .ok (.getfield 64, 3) := by decide +kernel
theorem dX9_text_99 : decode cX9_text 99 = .ok (.iastore, 1) := by decide +kernel
theorem dX9_text_100 : decode cX9_text 100 = .ok (.iconst 0, 1) := by decide +kernel
theorem dX9_text_101 : decode cX9_text 101 = .ok (.istore 4, 2) := by decide +kernel
theorem dX9_text_103 : decode cX9_text 103 = .ok (.iload 4, 2) := by decide +kernel
theorem dX9_text_105 : decode cX9_text 105 = .ok (.iconst 2, 1) := by decide +kernel
theorem dX9_text_106 : decode cX9_text 106 = .ok (.aload_n 0, 1) := by decide +kernel
theorem dX9_text_107 : decode cX9_text 107 = .ok (.getfield 64, 3) := by decide +kernel
theorem dX9_text_110 : decode cX9_text 110 = .ok (.imul, 1) := by decide +kernel
theorem dX9_text_111 : decode cX9_text 111 = .ok (.if_icmp .ge 27, 3) := by decide +kernel
theorem dX9_text_114 : decode cX9_text 114 = .ok (.aload_n 0, 1) := by decide +kernel
theorem dX9_text_115 : decode cX9_text 115 = .ok (.getfield 7, 3) := by decide +kernel
theorem dX9_text_118 : decode cX9_text 118 = .ok (.iload_n 3, 1) := by decide +kernel
theorem dX9_text_119 : decode cX9_text 119 = .ok (.iconst 1, 1) := by decide +kernel
theorem dX9_text_120 : decode cX9_text 120 = .ok (.iadd, 1) := by decide +kernel
theorem dX9_text_121 : decode cX9_text 121 = .ok (.iload 4, 2) := by decide +kernel
theorem dX9_text_123 : decode cX9_text 123 = .ok (.iadd, 1) := by decide +kernel
theorem dX9_text_124 : decode cX9_text 124 = .ok (.aload_n 0, 1) := by decide +kernel
theorem dX9_text_125 : decode cX9_text 125 = .ok (.getfield 22, 3) := by decide +kernel
theorem dX9_text_128 : decode cX9_text 128 = .ok (.iload 4, 2) := by decide +kernel
theorem dX9_text_130 : decode cX9_text 130 = .ok (.iaload, 1) := by decide +kernel
theorem dX9_text_131 : decode cX9_text 131 = .ok (.iastore, 1) := by decide +kernel
theorem dX9_text_132 : decode cX9_text 132 = .ok (.iinc 4 1, 3) := by decide +kernel
theorem dX9_text_135 : decode cX9_text 135 = .ok (.goto (-32), 3) := by decide +kernel
theorem dX9_text_138 : decode cX9_text 138 = .ok (.iconst 1, 1) := by decide +kernel
theorem dX9_text_139 : decode cX9_text 139 = .ok (.ireturn, 1) := by decide +kernel
theorem dX9_untell_0 : decode cX9_untell 0 = .ok (.iload_n 1, 1) := by decide +kernel
theorem dX9_untell_1 : decode cX9_untell 1 = .ok (.iconst 0, 1) := by decide +kernel
theorem dX9_untell_2 : decode cX9_untell 2 = .ok (.iconst 1, 1) := by decide +kernel
theorem dX9_untell_3 : decode cX9_untell 3 = .ok (.invokestatic 47, 3) := by decide +kernel
theorem dX9_untell_6 : decode cX9_untell 6 = .ok (.ifCond .ne 9, 3) := by decide +kernel
theorem dX9_untell_9 : decode cX9_untell 9 = .ok (.aload_n 0, 1) := by decide +kernel
theorem dX9_untell_10 : decode cX9_untell 10 = .ok (.iconst 1, 1) := by decide +kernel
theorem dX9_untell_11 : decode cX9_untell 11 = .ok (.invokevirtual 51, 3) := by decide +kernel
theorem dX9_untell_14 : decode cX9_untell 14 = .ok (.ireturn, 1) := by decide +kernel
theorem dX9_untell_15 : decode cX9_untell 15 = .ok (.aload_n 0, 1) := by decide +kernel
theorem dX9_untell_16 : decode cX9_untell 16 = .ok (.iload_n 1, 1) := by decide +kernel
theorem dX9_untell_17 : decode cX9_untell 17 = .ok (.invokevirtual 104, 3) := by decide +kernel
theorem dX9_untell_20 : decode cX9_untell 20 = .ok (.ifCond .eq 7, 3) := by decide +kernel
theorem dX9_untell_23 : decode cX9_untell 23 = .ok (.iconst 1, 1) := by decide +kernel
theorem dX9_untell_24 : decode cX9_untell 24 = .ok (.goto 4, 3) := by decide +kernel
theorem dX9_untell_27 : decode cX9_untell 27 = .ok (.iconst 0, 1) := by decide +kernel
theorem dX9_untell_28 : decode cX9_untell 28 = .ok (.istore_n 2, 1) := by decide +kernel
theorem dX9_untell_29 : decode cX9_untell 29 = .ok (.aload_n 0, 1) := by decide +kernel
theorem dX9_untell_30 : decode cX9_untell 30 = .ok (.getfield 7, 3) := by decide +kernel
theorem dX9_untell_33 : decode cX9_untell 33 = .ok (.bipush 49, 2) := by decide +kernel
theorem dX9_untell_35 : decode cX9_untell 35 = .ok (.bipush 125, 2) := by decide +kernel
theorem dX9_untell_37 : decode cX9_untell 37 = .ok (.iload_n 1, 1) := by decide +kernel
theorem dX9_untell_38 : decode cX9_untell 38 = .ok (.imul, 1) := by decide +kernel
theorem dX9_untell_39 : decode cX9_untell 39 = .ok (.iadd, 1) := by decide +kernel
theorem dX9_untell_40 : decode cX9_untell 40 = .ok (.iconst 0, 1) := by decide +kernel
theorem dX9_untell_41 : decode cX9_untell 41 = .ok (.iastore, 1) := by decide +kernel
theorem dX9_untell_42 : decode cX9_untell 42 = .ok (.iload_n 2, 1) := by decide +kernel
theorem dX9_untell_43 : decode cX9_untell 43 = .ok (.ireturn, 1) := by decide +kernel
theorem dX9_joined_0 : decode cX9_joined 0 = .ok (.iload_n 0, 1) := by decide +kernel
theorem dX9_joined_1 : decode cX9_joined 1 = .ok (.tableswitch 217 37 62 #[153, 203, 217, 217, 217, 127, 119, 217, 123, 217, 131, 217, 217, 217, 217, 217, 217, 217, 217, 217, 217, 217, 217, 170, 192, 181], 119) := by decide +kernel
theorem dX9_joined_120 : decode cX9_joined 120 = .ok (.iload_n 1, 1) := by decide +kernel
theorem dX9_joined_121 : decode cX9_joined 121 = .ok (.iload_n 2, 1) := by decide +kernel
theorem dX9_joined_122 : decode cX9_joined 122 = .ok (.iadd, 1) := by decide +kernel
theorem dX9_joined_123 : decode cX9_joined 123 = .ok (.ireturn, 1) := by decide +kernel
theorem dX9_joined_124 : decode cX9_joined 124 = .ok (.iload_n 1, 1) := by decide +kernel
theorem dX9_joined_125 : decode cX9_joined 125 = .ok (.iload_n 2, 1) := by decide +kernel
theorem dX9_joined_126 : decode cX9_joined 126 = .ok (.isub, 1) := by decide +kernel
theorem dX9_joined_127 : decode cX9_joined 127 = .ok (.ireturn, 1) := by decide +kernel
theorem dX9_joined_128 : decode cX9_joined 128 = .ok (.iload_n 1, 1) := by decide +kernel
theorem dX9_joined_129 : decode cX9_joined 129 = .ok (.iload_n 2, 1) := by decide +kernel
theorem dX9_joined_130 : decode cX9_joined 130 = .ok (.imul, 1) := by decide +kernel
theorem dX9_joined_131 : decode cX9_joined 131 = .ok (.ireturn, 1) := by decide +kernel
theorem dX9_joined_132 : decode cX9_joined 132 = .ok (.iload_n 2, 1) := by decide +kernel
theorem dX9_joined_133 : decode cX9_joined 133 = .ok (.ifCond .ne 7, 3) := by decide +kernel
theorem dX9_joined_136 : decode cX9_joined 136 = .ok (.iconst 0, 1) := by decide +kernel
theorem dX9_joined_137 : decode cX9_joined 137 = .ok (.goto 16, 3) := by decide +kernel
theorem dX9_joined_140 : decode cX9_joined 140 = .ok (.iload_n 2, 1) := by decide +kernel
theorem dX9_joined_141 : decode cX9_joined 141 = .ok (.iconst (-1), 1) := by decide +kernel
theorem dX9_joined_142 : decode cX9_joined 142 = .ok (.if_icmp .ne 8, 3) := by decide +kernel
theorem dX9_joined_145 : decode cX9_joined 145 = .ok (.iload_n 1, 1) := by decide +kernel
theorem dX9_joined_146 : decode cX9_joined 146 = .ok (.ineg, 1) := by decide +kernel
theorem dX9_joined_147 : decode cX9_joined 147 = .ok (.goto 6, 3) := by decide +kernel
theorem dX9_joined_150 : decode cX9_joined 150 = .ok (.iload_n 1, 1) := by decide +kernel
theorem dX9_joined_151 : decode cX9_joined 151 = .ok (.iload_n 2, 1) := by decide +kernel
theorem dX9_joined_152 : decode cX9_joined 152 = .ok (.idiv, 1) := by decide +kernel
theorem dX9_joined_153 : decode cX9_joined 153 = .ok (.ireturn, 1) := by decide +kernel
theorem dX9_joined_154 : decode cX9_joined 154 = .ok (.iload_n 2, 1) := by decide +kernel
theorem dX9_joined_155 : decode cX9_joined 155 = .ok (.ifCond .eq 8, 3) := by decide +kernel
theorem dX9_joined_158 : decode cX9_joined 158 = .ok (.iload_n 2, 1) := by decide +kernel
theorem dX9_joined_159 : decode cX9_joined 159 = .ok (.iconst (-1), 1) := by decide +kernel
theorem dX9_joined_160 : decode cX9_joined 160 = .ok (.if_icmp .ne 7, 3) := by decide +kernel
theorem dX9_joined_163 : decode cX9_joined 163 = .ok (.iconst 0, 1) := by decide +kernel
theorem dX9_joined_164 : decode cX9_joined 164 = .ok (.goto 6, 3) := by decide +kernel
theorem dX9_joined_167 : decode cX9_joined 167 = .ok (.iload_n 1, 1) := by decide +kernel
theorem dX9_joined_168 : decode cX9_joined 168 = .ok (.iload_n 2, 1) := by decide +kernel
theorem dX9_joined_169 : decode cX9_joined 169 = .ok (.irem, 1) := by decide +kernel
theorem dX9_joined_170 : decode cX9_joined 170 = .ok (.ireturn, 1) := by decide +kernel
theorem dX9_joined_171 : decode cX9_joined 171 = .ok (.iload_n 1, 1) := by decide +kernel
theorem dX9_joined_172 : decode cX9_joined 172 = .ok (.iload_n 2, 1) := by decide +kernel
theorem dX9_joined_173 : decode cX9_joined 173 = .ok (.if_icmp .ge 7, 3) := by decide +kernel
theorem dX9_joined_176 : decode cX9_joined 176 = .ok (.iconst 1, 1) := by decide +kernel
theorem dX9_joined_177 : decode cX9_joined 177 = .ok (.goto 4, 3) := by decide +kernel
theorem dX9_joined_180 : decode cX9_joined 180 = .ok (.iconst 0, 1) := by decide +kernel
theorem dX9_joined_181 : decode cX9_joined 181 = .ok (.ireturn, 1) := by decide +kernel
theorem dX9_joined_182 : decode cX9_joined 182 = .ok (.iload_n 1, 1) := by decide +kernel
theorem dX9_joined_183 : decode cX9_joined 183 = .ok (.iload_n 2, 1) := by decide +kernel
theorem dX9_joined_184 : decode cX9_joined 184 = .ok (.if_icmp .le 7, 3) := by decide +kernel
theorem dX9_joined_187 : decode cX9_joined 187 = .ok (.iconst 1, 1) := by decide +kernel
theorem dX9_joined_188 : decode cX9_joined 188 = .ok (.goto 4, 3) := by decide +kernel
theorem dX9_joined_191 : decode cX9_joined 191 = .ok (.iconst 0, 1) := by decide +kernel
theorem dX9_joined_192 : decode cX9_joined 192 = .ok (.ireturn, 1) := by decide +kernel
theorem dX9_joined_193 : decode cX9_joined 193 = .ok (.iload_n 1, 1) := by decide +kernel
theorem dX9_joined_194 : decode cX9_joined 194 = .ok (.iload_n 2, 1) := by decide +kernel
theorem dX9_joined_195 : decode cX9_joined 195 = .ok (.if_icmp .ne 7, 3) := by decide +kernel
theorem dX9_joined_198 : decode cX9_joined 198 = .ok (.iconst 1, 1) := by decide +kernel
theorem dX9_joined_199 : decode cX9_joined 199 = .ok (.goto 4, 3) := by decide +kernel
theorem dX9_joined_202 : decode cX9_joined 202 = .ok (.iconst 0, 1) := by decide +kernel
theorem dX9_joined_203 : decode cX9_joined 203 = .ok (.ireturn, 1) := by decide +kernel
theorem dX9_joined_204 : decode cX9_joined 204 = .ok (.iload_n 1, 1) := by decide +kernel
theorem dX9_joined_205 : decode cX9_joined 205 = .ok (.ifCond .eq 11, 3) := by decide +kernel
theorem dX9_joined_208 : decode cX9_joined 208 = .ok (.iload_n 2, 1) := by decide +kernel
theorem dX9_joined_209 : decode cX9_joined 209 = .ok (.ifCond .eq 7, 3) := by decide +kernel
theorem dX9_joined_212 : decode cX9_joined 212 = .ok (.iconst 1, 1) := by decide +kernel
theorem dX9_joined_213 : decode cX9_joined 213 = .ok (.goto 4, 3) := by decide +kernel
theorem dX9_joined_216 : decode cX9_joined 216 = .ok (.iconst 0, 1) := by decide +kernel
theorem dX9_joined_217 : decode cX9_joined 217 = .ok (.ireturn, 1) := by decide +kernel
theorem dX9_joined_218 : decode cX9_joined 218 = .ok (.iload_n 1, 1) := by decide +kernel
theorem dX9_joined_219 : decode cX9_joined 219 = .ok (.ifCond .ne 7, 3) := by decide +kernel
theorem dX9_joined_222 : decode cX9_joined 222 = .ok (.iload_n 2, 1) := by decide +kernel
theorem dX9_joined_223 : decode cX9_joined 223 = .ok (.ifCond .eq 7, 3) := by decide +kernel
theorem dX9_joined_226 : decode cX9_joined 226 = .ok (.iconst 1, 1) := by decide +kernel
theorem dX9_joined_227 : decode cX9_joined 227 = .ok (.goto 4, 3) := by decide +kernel
theorem dX9_joined_230 : decode cX9_joined 230 = .ok (.iconst 0, 1) := by decide +kernel
theorem dX9_joined_231 : decode cX9_joined 231 = .ok (.ireturn, 1) := by decide +kernel
theorem dX9_worked_0 : decode cX9_worked 0 = .ok (.bipush 49, 2) := by decide +kernel
theorem dX9_worked_2 : decode cX9_worked 2 = .ok (.bipush 125, 2) := by decide +kernel
theorem dX9_worked_4 : decode cX9_worked 4 = .ok (.iload_n 1, 1) := by decide +kernel
theorem dX9_worked_5 : decode cX9_worked 5 = .ok (.imul, 1) := by decide +kernel
theorem dX9_worked_6 : decode cX9_worked 6 = .ok (.iadd, 1) := by decide +kernel
theorem dX9_worked_7 : decode cX9_worked 7 = .ok (.istore_n 2, 1) := by decide +kernel
theorem dX9_worked_8 : decode cX9_worked 8 = .ok (.iconst 0, 1) := by decide +kernel
theorem dX9_worked_9 : decode cX9_worked 9 = .ok (.istore_n 3, 1) := by decide +kernel
theorem dX9_worked_10 : decode cX9_worked 10 = .ok (.iconst 0, 1) := by decide +kernel
theorem dX9_worked_11 : decode cX9_worked 11 = .ok (.istore 4, 2) := by decide +kernel
theorem dX9_worked_13 : decode cX9_worked 13 = .ok (.iload 4, 2) := by decide +kernel
theorem dX9_worked_15 : decode cX9_worked 15 = .ok (.aload_n 0, 1) := by decide +kernel
theorem dX9_worked_16 : decode cX9_worked 16 = .ok (.getfield 7, 3) := by decide +kernel
theorem dX9_worked_19 : decode cX9_worked 19 = .ok (.iload_n 2, 1) := by decide +kernel
theorem dX9_worked_20 : decode cX9_worked 20 = .ok (.iaload, 1) := by decide +kernel
theorem dX9_worked_21 : decode cX9_worked 21 = .ok (.if_icmp .ge 142, 3) := by decide +kernel
theorem dX9_worked_24 : decode cX9_worked 24 = .ok (.aload_n 0, 1) := by decide +kernel
theorem dX9_worked_25 : decode cX9_worked 25 = .ok (.getfield 7, 3) := by decide +kernel
theorem dX9_worked_28 : decode cX9_worked 28 = .ok (.iload_n 2, 1) := by decide +kernel
theorem dX9_worked_29 : decode cX9_worked 29 = .ok (.iconst 1, 1) := by decide +kernel
theorem dX9_worked_30 : decode cX9_worked 30 = .ok (.iadd, 1) := by decide +kernel
theorem dX9_worked_31 : decode cX9_worked 31 = .ok (.iconst 2, 1) := by decide +kernel
theorem dX9_worked_32 : decode cX9_worked 32 = .ok (.iload 4, 2) := by decide +kernel
theorem dX9_worked_34 : decode cX9_worked 34 = .ok (.imul, 1) := by decide +kernel
theorem dX9_worked_35 : decode cX9_worked 35 = .ok (.iadd, 1) := by decide +kernel
theorem dX9_worked_36 : decode cX9_worked 36 = .ok (.iaload, 1) := by decide +kernel
theorem dX9_worked_37 : decode cX9_worked 37 = .ok (.istore 5, 2) := by decide +kernel
theorem dX9_worked_39 : decode cX9_worked 39 = .ok (.aload_n 0, 1) := by decide +kernel
theorem dX9_worked_40 : decode cX9_worked 40 = .ok (.getfield 7, 3) := by decide +kernel
theorem dX9_worked_43 : decode cX9_worked 43 = .ok (.iload_n 2, 1) := by decide +kernel
theorem dX9_worked_44 : decode cX9_worked 44 = .ok (.iconst 2, 1) := by decide +kernel
theorem dX9_worked_45 : decode cX9_worked 45 = .ok (.iadd, 1) := by decide +kernel
theorem dX9_worked_46 : decode cX9_worked 46 = .ok (.iconst 2, 1) := by decide +kernel
theorem dX9_worked_47 : decode cX9_worked 47 = .ok (.iload 4, 2) := by decide +kernel
theorem dX9_worked_49 : decode cX9_worked 49 = .ok (.imul, 1) := by decide +kernel
theorem dX9_worked_50 : decode cX9_worked 50 = .ok (.iadd, 1) := by decide +kernel
theorem dX9_worked_51 : decode cX9_worked 51 = .ok (.iaload, 1) := by decide +kernel
theorem dX9_worked_52 : decode cX9_worked 52 = .ok (.istore 6, 2) := by decide +kernel
theorem dX9_worked_54 : decode cX9_worked 54 = .ok (.iload 5, 2) := by decide +kernel
theorem dX9_worked_56 : decode cX9_worked 56 = .ok (.ifCond .eq 9, 3) := by decide +kernel
theorem dX9_worked_59 : decode cX9_worked 59 = .ok (.iload 5, 2) := by decide +kernel
theorem dX9_worked_61 : decode cX9_worked 61 = .ok (.iconst 1, 1) := by decide +kernel
theorem dX9_worked_62 : decode cX9_worked 62 = .ok (.if_icmp .ne 32, 3) := by decide +kernel
theorem dX9_worked_65 : decode cX9_worked 65 = .ok (.aload_n 0, 1) := by decide +kernel
theorem dX9_worked_66 : decode cX9_worked 66 = .ok (.getfield 28, 3) := by decide +kernel
theorem dX9_worked_69 : decode cX9_worked 69 = .ok (.iload_n 3, 1) := by decide +kernel
theorem dX9_worked_70 : decode cX9_worked 70 = .ok (.iload 5, 2) := by decide +kernel
theorem dX9_worked_72 : decode cX9_worked 72 = .ok (.ifCond .ne 8, 3) := by decide +kernel
theorem dX9_worked_75 : decode cX9_worked 75 = .ok (.iload 6, 2) := by decide +kernel
theorem dX9_worked_77 : decode cX9_worked 77 = .ok (.goto 10, 3) := by decide +kernel
theorem dX9_worked_80 : decode cX9_worked 80 = .ok (.aload_n 0, 1) := by decide +kernel
theorem dX9_worked_81 : decode cX9_worked 81 = .ok (.getfield 25, 3) := by decide +kernel
theorem dX9_worked_84 : decode cX9_worked 84 = .ok (.iload 6, 2) := by decide +kernel
theorem dX9_worked_86 : decode cX9_worked 86 = .ok (.iaload, 1) := by decide +kernel
theorem dX9_worked_87 : decode cX9_worked 87 = .ok (.iastore, 1) := by decide +kernel
theorem dX9_worked_88 : decode cX9_worked 88 = .ok (.iinc 3 1, 3) := by decide +kernel
theorem dX9_worked_91 : decode cX9_worked 91 = .ok (.goto 66, 3) := by decide +kernel
theorem dX9_worked_94 : decode cX9_worked 94 = .ok (.iload 5, 2) := by decide +kernel
theorem dX9_worked_96 : decode cX9_worked 96 = .ok (.iconst 2, 1) := by decide +kernel
theorem dX9_worked_97 : decode cX9_worked 97 = .ok (.if_icmp .ne 30, 3) := by decide +kernel
theorem dX9_worked_100 : decode cX9_worked 100 = .ok (.aload_n 0, 1) := by decide +kernel
theorem dX9_worked_101 : decode cX9_worked 101 = .ok (.getfield 28, 3) := by decide +kernel
theorem dX9_worked_104 : decode cX9_worked 104 = .ok (.iload_n 3, 1) := by decide +kernel
theorem dX9_worked_105 : decode cX9_worked 105 = .ok (.iconst 1, 1) := by decide +kernel
theorem dX9_worked_106 : decode cX9_worked 106 = .ok (.isub, 1) := by decide +kernel
theorem dX9_worked_107 : decode cX9_worked 107 = .ok (.aload_n 0, 1) := by decide +kernel
theorem dX9_worked_108 : decode cX9_worked 108 = .ok (.getfield 28, 3) := by decide +kernel
theorem dX9_worked_111 : decode cX9_worked 111 = .ok (.iload_n 3, 1) := by decide +kernel
theorem dX9_worked_112 : decode cX9_worked 112 = .ok (.iconst 1, 1) := by decide +kernel
theorem dX9_worked_113 : decode cX9_worked 113 = .ok (.isub, 1) := by decide +kernel
theorem dX9_worked_114 : decode cX9_worked 114 = .ok (.iaload, 1) := by decide +kernel
theorem dX9_worked_115 : decode cX9_worked 115 = .ok (.ifCond .ne 7, 3) := by decide +kernel
theorem dX9_worked_118 : decode cX9_worked 118 = .ok (.iconst 1, 1) := by decide +kernel
theorem dX9_worked_119 : decode cX9_worked 119 = .ok (.goto 4, 3) := by decide +kernel
theorem dX9_worked_122 : decode cX9_worked 122 = .ok (.iconst 0, 1) := by decide +kernel
theorem dX9_worked_123 : decode cX9_worked 123 = .ok (.iastore, 1) := by decide +kernel
theorem dX9_worked_124 : decode cX9_worked 124 = .ok (.goto 33, 3) := by decide +kernel
theorem dX9_worked_127 : decode cX9_worked 127 = .ok (.iinc 3 (-1), 3) := by decide +kernel
theorem dX9_worked_130 : decode cX9_worked 130 = .ok (.aload_n 0, 1) := by decide +kernel
theorem dX9_worked_131 : decode cX9_worked 131 = .ok (.getfield 28, 3) := by decide +kernel
theorem dX9_worked_134 : decode cX9_worked 134 = .ok (.iload_n 3, 1) := by decide +kernel
theorem dX9_worked_135 : decode cX9_worked 135 = .ok (.iconst 1, 1) := by decide +kernel
theorem dX9_worked_136 : decode cX9_worked 136 = .ok (.isub, 1) := by decide +kernel
theorem dX9_worked_137 : decode cX9_worked 137 = .ok (.iload 6, 2) := by decide +kernel
theorem dX9_worked_139 : decode cX9_worked 139 = .ok (.aload_n 0, 1) := by decide +kernel
theorem dX9_worked_140 : decode cX9_worked 140 = .ok (.getfield 28, 3) := by decide +kernel
theorem dX9_worked_143 : decode cX9_worked 143 = .ok (.iload_n 3, 1) := by decide +kernel
theorem dX9_worked_144 : decode cX9_worked 144 = .ok (.iconst 1, 1) := by decide +kernel
theorem dX9_worked_145 : decode cX9_worked 145 = .ok (.isub, 1) := by decide +kernel
theorem dX9_worked_146 : decode cX9_worked 146 = .ok (.iaload, 1) := by decide +kernel
theorem dX9_worked_147 : decode cX9_worked 147 = .ok (.aload_n 0, 1) := by decide +kernel
theorem dX9_worked_148 : decode cX9_worked 148 = .ok (.getfield 28, 3) := by decide +kernel
theorem dX9_worked_151 : decode cX9_worked 151 = .ok (.iload_n 3, 1) := by decide +kernel
theorem dX9_worked_152 : decode cX9_worked 152 = .ok (.iaload, 1) := by decide +kernel
theorem dX9_worked_153 : decode cX9_worked 153 = .ok (.invokestatic 107, 3) := by decide +kernel
theorem dX9_worked_156 : decode cX9_worked 156 = .ok (.iastore, 1) := by decide +kernel
theorem dX9_worked_157 : decode cX9_worked 157 = .ok (.iinc 4 1, 3) := by decide +kernel
theorem dX9_worked_160 : decode cX9_worked 160 = .ok (.goto (-147), 3) := by decide +kernel
theorem dX9_worked_163 : decode cX9_worked 163 = .ok (.aload_n 0, 1) := by decide +kernel
theorem dX9_worked_164 : decode cX9_worked 164 = .ok (.getfield 28, 3) := by decide +kernel
theorem dX9_worked_167 : decode cX9_worked 167 = .ok (.iconst 0, 1) := by decide +kernel
theorem dX9_worked_168 : decode cX9_worked 168 = .ok (.iaload, 1) := by decide +kernel
theorem dX9_worked_169 : decode cX9_worked 169 = .ok (.ireturn, 1) := by decide +kernel
theorem dX9_tellsOf_0 : decode cX9_tellsOf 0 = .ok (.aload_n 0, 1) := by decide +kernel
theorem dX9_tellsOf_1 : decode cX9_tellsOf 1 = .ok (.getfield 7, 3) := by decide +kernel
theorem dX9_tellsOf_4 : decode cX9_tellsOf 4 = .ok (.iconst 1, 1) := by decide +kernel
theorem dX9_tellsOf_5 : decode cX9_tellsOf 5 = .ok (.iaload, 1) := by decide +kernel
theorem dX9_tellsOf_6 : decode cX9_tellsOf 6 = .ok (.istore_n 2, 1) := by decide +kernel
theorem dX9_tellsOf_7 : decode cX9_tellsOf 7 = .ok (.iload_n 2, 1) := by decide +kernel
theorem dX9_tellsOf_8 : decode cX9_tellsOf 8 = .ok (.aload_n 0, 1) := by decide +kernel
theorem dX9_tellsOf_9 : decode cX9_tellsOf 9 = .ok (.getfield 7, 3) := by decide +kernel
theorem dX9_tellsOf_12 : decode cX9_tellsOf 12 = .ok (.iconst 2, 1) := by decide +kernel
theorem dX9_tellsOf_13 : decode cX9_tellsOf 13 = .ok (.iaload, 1) := by decide +kernel
theorem dX9_tellsOf_14 : decode cX9_tellsOf 14 = .ok (.iconst 1, 1) := by decide +kernel
theorem dX9_tellsOf_15 : decode cX9_tellsOf 15 = .ok (.iadd, 1) := by decide +kernel
theorem dX9_tellsOf_16 : decode cX9_tellsOf 16 = .ok (.imul, 1) := by decide +kernel
theorem dX9_tellsOf_17 : decode cX9_tellsOf 17 = .ok (.bipush 100, 2) := by decide +kernel
theorem dX9_tellsOf_19 : decode cX9_tellsOf 19 = .ok (.idiv, 1) := by decide +kernel
theorem dX9_tellsOf_20 : decode cX9_tellsOf 20 = .ok (.istore_n 3, 1) := by decide +kernel
theorem dX9_tellsOf_21 : decode cX9_tellsOf 21 = .ok (.aload_n 0, 1) := by decide +kernel
theorem dX9_tellsOf_22 : decode cX9_tellsOf 22 = .ok (.iload_n 1, 1) := by decide +kernel
theorem dX9_tellsOf_23 : decode cX9_tellsOf 23 = .ok (.iconst 0, 1) := by decide +kernel
theorem dX9_tellsOf_24 : decode cX9_tellsOf 24 = .ok (.invokevirtual 111, 3) := by decide +kernel
theorem dX9_tellsOf_27 : decode cX9_tellsOf 27 = .ok (.tableswitch 75 1 6 #[37, 42, 44, 57, 69, 73], 37) := by decide +kernel
theorem dX9_tellsOf_64 : decode cX9_tellsOf 64 = .ok (.iload_n 2, 1) := by decide +kernel
theorem dX9_tellsOf_65 : decode cX9_tellsOf 65 = .ok (.bipush 10, 2) := by decide +kernel
theorem dX9_tellsOf_67 : decode cX9_tellsOf 67 = .ok (.iadd, 1) := by decide +kernel
theorem dX9_tellsOf_68 : decode cX9_tellsOf 68 = .ok (.ireturn, 1) := by decide +kernel
theorem dX9_tellsOf_69 : decode cX9_tellsOf 69 = .ok (.iload_n 3, 1) := by decide +kernel
theorem dX9_tellsOf_70 : decode cX9_tellsOf 70 = .ok (.ireturn, 1) := by decide +kernel
theorem dX9_tellsOf_71 : decode cX9_tellsOf 71 = .ok (.iload_n 2, 1) := by decide +kernel
theorem dX9_tellsOf_72 : decode cX9_tellsOf 72 = .ok (.bipush 50, 2) := by decide +kernel
theorem dX9_tellsOf_74 : decode cX9_tellsOf 74 = .ok (.if_icmp .le 8, 3) := by decide +kernel
theorem dX9_tellsOf_77 : decode cX9_tellsOf 77 = .ok (.bipush 77, 2) := by decide +kernel
theorem dX9_tellsOf_79 : decode cX9_tellsOf 79 = .ok (.goto 4, 3) := by decide +kernel
theorem dX9_tellsOf_82 : decode cX9_tellsOf 82 = .ok (.iload_n 2, 1) := by decide +kernel
theorem dX9_tellsOf_83 : decode cX9_tellsOf 83 = .ok (.ireturn, 1) := by decide +kernel
theorem dX9_tellsOf_84 : decode cX9_tellsOf 84 = .ok (.iload_n 2, 1) := by decide +kernel
theorem dX9_tellsOf_85 : decode cX9_tellsOf 85 = .ok (.bipush 10, 2) := by decide +kernel
theorem dX9_tellsOf_87 : decode cX9_tellsOf 87 = .ok (.iadd, 1) := by decide +kernel
theorem dX9_tellsOf_88 : decode cX9_tellsOf 88 = .ok (.aload_n 0, 1) := by decide +kernel
theorem dX9_tellsOf_89 : decode cX9_tellsOf 89 = .ok (.iload_n 1, 1) := by decide +kernel
theorem dX9_tellsOf_90 : decode cX9_tellsOf 90 = .ok (.iconst 1, 1) := by decide +kernel
theorem dX9_tellsOf_91 : decode cX9_tellsOf 91 = .ok (.invokevirtual 111, 3) := by decide +kernel
theorem dX9_tellsOf_94 : decode cX9_tellsOf 94 = .ok (.isub, 1) := by decide +kernel
theorem dX9_tellsOf_95 : decode cX9_tellsOf 95 = .ok (.ireturn, 1) := by decide +kernel
theorem dX9_tellsOf_96 : decode cX9_tellsOf 96 = .ok (.iconst 2, 1) := by decide +kernel
theorem dX9_tellsOf_97 : decode cX9_tellsOf 97 = .ok (.iload_n 3, 1) := by decide +kernel
theorem dX9_tellsOf_98 : decode cX9_tellsOf 98 = .ok (.imul, 1) := by decide +kernel
theorem dX9_tellsOf_99 : decode cX9_tellsOf 99 = .ok (.ireturn, 1) := by decide +kernel
theorem dX9_tellsOf_100 : decode cX9_tellsOf 100 = .ok (.iconst 0, 1) := by decide +kernel
theorem dX9_tellsOf_101 : decode cX9_tellsOf 101 = .ok (.ireturn, 1) := by decide +kernel
theorem dX9_tellsOf_102 : decode cX9_tellsOf 102 = .ok (.iload_n 2, 1) := by decide +kernel
theorem dX9_tellsOf_103 : decode cX9_tellsOf 103 = .ok (.ireturn, 1) := by decide +kernel
theorem dX9_leavesOf_0 : decode cX9_leavesOf 0 = .ok (.aload_n 0, 1) := by decide +kernel
theorem dX9_leavesOf_1 : decode cX9_leavesOf 1 = .ok (.iload_n 1, 1) := by decide +kernel
theorem dX9_leavesOf_2 : decode cX9_leavesOf 2 = .ok (.iconst 1, 1) := by decide +kernel
theorem dX9_leavesOf_3 : decode cX9_leavesOf 3 = .ok (.invokevirtual 111, 3) := by decide +kernel
theorem dX9_leavesOf_6 : decode cX9_leavesOf 6 = .ok (.istore_n 2, 1) := by decide +kernel
theorem dX9_leavesOf_7 : decode cX9_leavesOf 7 = .ok (.aload_n 0, 1) := by decide +kernel
theorem dX9_leavesOf_8 : decode cX9_leavesOf 8 = .ok (.getfield 7, 3) := by decide +kernel
theorem dX9_leavesOf_11 : decode cX9_leavesOf 11 = .ok (.iconst 1, 1) := by decide +kernel
theorem dX9_leavesOf_12 : decode cX9_leavesOf 12 = .ok (.iaload, 1) := by decide +kernel
theorem dX9_leavesOf_13 : decode cX9_leavesOf 13 = .ok (.iload_n 2, 1) := by decide +kernel
theorem dX9_leavesOf_14 : decode cX9_leavesOf 14 = .ok (.iadd, 1) := by decide +kernel
theorem dX9_leavesOf_15 : decode cX9_leavesOf 15 = .ok (.istore_n 3, 1) := by decide +kernel
theorem dX9_leavesOf_16 : decode cX9_leavesOf 16 = .ok (.iload_n 3, 1) := by decide +kernel
theorem dX9_leavesOf_17 : decode cX9_leavesOf 17 = .ok (.iconst 2, 1) := by decide +kernel
theorem dX9_leavesOf_18 : decode cX9_leavesOf 18 = .ok (.idiv, 1) := by decide +kernel
theorem dX9_leavesOf_19 : decode cX9_leavesOf 19 = .ok (.iconst 5, 1) := by decide +kernel
theorem dX9_leavesOf_20 : decode cX9_leavesOf 20 = .ok (.iload_n 2, 1) := by decide +kernel
theorem dX9_leavesOf_21 : decode cX9_leavesOf 21 = .ok (.imul, 1) := by decide +kernel
theorem dX9_leavesOf_22 : decode cX9_leavesOf 22 = .ok (.iadd, 1) := by decide +kernel
theorem dX9_leavesOf_23 : decode cX9_leavesOf 23 = .ok (.istore 4, 2) := by decide +kernel
theorem dX9_leavesOf_25 : decode cX9_leavesOf 25 = .ok (.iload_n 3, 1) := by decide +kernel
theorem dX9_leavesOf_26 : decode cX9_leavesOf 26 = .ok (.aload_n 0, 1) := by decide +kernel
theorem dX9_leavesOf_27 : decode cX9_leavesOf 27 = .ok (.getfield 7, 3) := by decide +kernel
theorem dX9_leavesOf_30 : decode cX9_leavesOf 30 = .ok (.bipush 8, 2) := by decide +kernel
theorem dX9_leavesOf_32 : decode cX9_leavesOf 32 = .ok (.iaload, 1) := by decide +kernel
theorem dX9_leavesOf_33 : decode cX9_leavesOf 33 = .ok (.iadd, 1) := by decide +kernel
theorem dX9_leavesOf_34 : decode cX9_leavesOf 34 = .ok (.istore 5, 2) := by decide +kernel
theorem dX9_leavesOf_36 : decode cX9_leavesOf 36 = .ok (.aload_n 0, 1) := by decide +kernel
theorem dX9_leavesOf_37 : decode cX9_leavesOf 37 = .ok (.iload_n 1, 1) := by decide +kernel
theorem dX9_leavesOf_38 : decode cX9_leavesOf 38 = .ok (.iconst 0, 1) := by decide +kernel
theorem dX9_leavesOf_39 : decode cX9_leavesOf 39 = .ok (.invokevirtual 111, 3) := by decide +kernel
theorem dX9_leavesOf_42 : decode cX9_leavesOf 42 = .ok (.tableswitch 83 1 6 #[38, 41, 44, 62, 68, 81], 38) := by decide +kernel
theorem dX9_leavesOf_80 : decode cX9_leavesOf 80 = .ok (.iload 4, 2) := by decide +kernel
theorem dX9_leavesOf_82 : decode cX9_leavesOf 82 = .ok (.ireturn, 1) := by decide +kernel
theorem dX9_leavesOf_83 : decode cX9_leavesOf 83 = .ok (.iload 5, 2) := by decide +kernel
theorem dX9_leavesOf_85 : decode cX9_leavesOf 85 = .ok (.ireturn, 1) := by decide +kernel
theorem dX9_leavesOf_86 : decode cX9_leavesOf 86 = .ok (.aload_n 0, 1) := by decide +kernel
theorem dX9_leavesOf_87 : decode cX9_leavesOf 87 = .ok (.getfield 7, 3) := by decide +kernel
theorem dX9_leavesOf_90 : decode cX9_leavesOf 90 = .ok (.iconst 0, 1) := by decide +kernel
theorem dX9_leavesOf_91 : decode cX9_leavesOf 91 = .ok (.iaload, 1) := by decide +kernel
theorem dX9_leavesOf_92 : decode cX9_leavesOf 92 = .ok (.iconst 2, 1) := by decide +kernel
theorem dX9_leavesOf_93 : decode cX9_leavesOf 93 = .ok (.irem, 1) := by decide +kernel
theorem dX9_leavesOf_94 : decode cX9_leavesOf 94 = .ok (.ifCond .ne 8, 3) := by decide +kernel
theorem dX9_leavesOf_97 : decode cX9_leavesOf 97 = .ok (.bipush 77, 2) := by decide +kernel
theorem dX9_leavesOf_99 : decode cX9_leavesOf 99 = .ok (.goto 4, 3) := by decide +kernel
theorem dX9_leavesOf_102 : decode cX9_leavesOf 102 = .ok (.iload_n 3, 1) := by decide +kernel
theorem dX9_leavesOf_103 : decode cX9_leavesOf 103 = .ok (.ireturn, 1) := by decide +kernel
theorem dX9_leavesOf_104 : decode cX9_leavesOf 104 = .ok (.bipush 99, 2) := by decide +kernel
theorem dX9_leavesOf_106 : decode cX9_leavesOf 106 = .ok (.iload 4, 2) := by decide +kernel
theorem dX9_leavesOf_108 : decode cX9_leavesOf 108 = .ok (.isub, 1) := by decide +kernel
theorem dX9_leavesOf_109 : decode cX9_leavesOf 109 = .ok (.ireturn, 1) := by decide +kernel
theorem dX9_leavesOf_110 : decode cX9_leavesOf 110 = .ok (.iload 5, 2) := by decide +kernel
theorem dX9_leavesOf_112 : decode cX9_leavesOf 112 = .ok (.aload_n 0, 1) := by decide +kernel
theorem dX9_leavesOf_113 : decode cX9_leavesOf 113 = .ok (.getfield 7, 3) := by decide +kernel
theorem dX9_leavesOf_116 : decode cX9_leavesOf 116 = .ok (.iconst 2, 1) := by decide +kernel
theorem dX9_leavesOf_117 : decode cX9_leavesOf 117 = .ok (.iaload, 1) := by decide +kernel
theorem dX9_leavesOf_118 : decode cX9_leavesOf 118 = .ok (.bipush 10, 2) := by decide +kernel
theorem dX9_leavesOf_120 : decode cX9_leavesOf 120 = .ok (.idiv, 1) := by decide +kernel
theorem dX9_leavesOf_121 : decode cX9_leavesOf 121 = .ok (.iadd, 1) := by decide +kernel
theorem dX9_leavesOf_122 : decode cX9_leavesOf 122 = .ok (.ireturn, 1) := by decide +kernel
theorem dX9_leavesOf_123 : decode cX9_leavesOf 123 = .ok (.iconst 0, 1) := by decide +kernel
theorem dX9_leavesOf_124 : decode cX9_leavesOf 124 = .ok (.ireturn, 1) := by decide +kernel
theorem dX9_leavesOf_125 : decode cX9_leavesOf 125 = .ok (.iload_n 3, 1) := by decide +kernel
theorem dX9_leavesOf_126 : decode cX9_leavesOf 126 = .ok (.ireturn, 1) := by decide +kernel
theorem dX9_bluntsOf_0 : decode cX9_bluntsOf 0 = .ok (.aload_n 0, 1) := by decide +kernel
theorem dX9_bluntsOf_1 : decode cX9_bluntsOf 1 = .ok (.iload_n 1, 1) := by decide +kernel
theorem dX9_bluntsOf_2 : decode cX9_bluntsOf 2 = .ok (.iconst 1, 1) := by decide +kernel
theorem dX9_bluntsOf_3 : decode cX9_bluntsOf 3 = .ok (.invokevirtual 111, 3) := by decide +kernel
theorem dX9_bluntsOf_6 : decode cX9_bluntsOf 6 = .ok (.istore_n 2, 1) := by decide +kernel
theorem dX9_bluntsOf_7 : decode cX9_bluntsOf 7 = .ok (.aload_n 0, 1) := by decide +kernel
theorem dX9_bluntsOf_8 : decode cX9_bluntsOf 8 = .ok (.iload_n 1, 1) := by decide +kernel
theorem dX9_bluntsOf_9 : decode cX9_bluntsOf 9 = .ok (.iconst 0, 1) := by decide +kernel
theorem dX9_bluntsOf_10 : decode cX9_bluntsOf 10 = .ok (.invokevirtual 111, 3) := by decide +kernel
theorem dX9_bluntsOf_13 : decode cX9_bluntsOf 13 = .ok (.tableswitch 67 1 6 #[39, 67, 45, 47, 53, 56], 39) := by decide +kernel
theorem dX9_bluntsOf_52 : decode cX9_bluntsOf 52 = .ok (.iconst 3, 1) := by decide +kernel
theorem dX9_bluntsOf_53 : decode cX9_bluntsOf 53 = .ok (.iload_n 2, 1) := by decide +kernel
theorem dX9_bluntsOf_54 : decode cX9_bluntsOf 54 = .ok (.iconst 2, 1) := by decide +kernel
theorem dX9_bluntsOf_55 : decode cX9_bluntsOf 55 = .ok (.idiv, 1) := by decide +kernel
theorem dX9_bluntsOf_56 : decode cX9_bluntsOf 56 = .ok (.iadd, 1) := by decide +kernel
theorem dX9_bluntsOf_57 : decode cX9_bluntsOf 57 = .ok (.ireturn, 1) := by decide +kernel
theorem dX9_bluntsOf_58 : decode cX9_bluntsOf 58 = .ok (.iconst 5, 1) := by decide +kernel
theorem dX9_bluntsOf_59 : decode cX9_bluntsOf 59 = .ok (.ireturn, 1) := by decide +kernel
theorem dX9_bluntsOf_60 : decode cX9_bluntsOf 60 = .ok (.iconst 1, 1) := by decide +kernel
theorem dX9_bluntsOf_61 : decode cX9_bluntsOf 61 = .ok (.iload_n 2, 1) := by decide +kernel
theorem dX9_bluntsOf_62 : decode cX9_bluntsOf 62 = .ok (.iconst 2, 1) := by decide +kernel
theorem dX9_bluntsOf_63 : decode cX9_bluntsOf 63 = .ok (.idiv, 1) := by decide +kernel
theorem dX9_bluntsOf_64 : decode cX9_bluntsOf 64 = .ok (.iadd, 1) := by decide +kernel
theorem dX9_bluntsOf_65 : decode cX9_bluntsOf 65 = .ok (.ireturn, 1) := by decide +kernel
theorem dX9_bluntsOf_66 : decode cX9_bluntsOf 66 = .ok (.bipush 6, 2) := by decide +kernel
theorem dX9_bluntsOf_68 : decode cX9_bluntsOf 68 = .ok (.ireturn, 1) := by decide +kernel
theorem dX9_bluntsOf_69 : decode cX9_bluntsOf 69 = .ok (.iload_n 2, 1) := by decide +kernel
theorem dX9_bluntsOf_70 : decode cX9_bluntsOf 70 = .ok (.iconst 4, 1) := by decide +kernel
theorem dX9_bluntsOf_71 : decode cX9_bluntsOf 71 = .ok (.if_icmp .le 7, 3) := by decide +kernel
theorem dX9_bluntsOf_74 : decode cX9_bluntsOf 74 = .ok (.iconst 3, 1) := by decide +kernel
theorem dX9_bluntsOf_75 : decode cX9_bluntsOf 75 = .ok (.goto 4, 3) := by decide +kernel
theorem dX9_bluntsOf_78 : decode cX9_bluntsOf 78 = .ok (.iconst 0, 1) := by decide +kernel
theorem dX9_bluntsOf_79 : decode cX9_bluntsOf 79 = .ok (.ireturn, 1) := by decide +kernel
theorem dX9_bluntsOf_80 : decode cX9_bluntsOf 80 = .ok (.iconst 3, 1) := by decide +kernel
theorem dX9_bluntsOf_81 : decode cX9_bluntsOf 81 = .ok (.ireturn, 1) := by decide +kernel
theorem dX9_restOf_0 : decode cX9_restOf 0 = .ok (.iload_n 0, 1) := by decide +kernel
theorem dX9_restOf_1 : decode cX9_restOf 1 = .ok (.bipush 100, 2) := by decide +kernel
theorem dX9_restOf_3 : decode cX9_restOf 3 = .ok (.irem, 1) := by decide +kernel
theorem dX9_restOf_4 : decode cX9_restOf 4 = .ok (.istore_n 1, 1) := by decide +kernel
theorem dX9_restOf_5 : decode cX9_restOf 5 = .ok (.iload_n 1, 1) := by decide +kernel
theorem dX9_restOf_6 : decode cX9_restOf 6 = .ok (.ifCond .ge 10, 3) := by decide +kernel
theorem dX9_restOf_9 : decode cX9_restOf 9 = .ok (.iload_n 1, 1) := by decide +kernel
theorem dX9_restOf_10 : decode cX9_restOf 10 = .ok (.bipush 100, 2) := by decide +kernel
theorem dX9_restOf_12 : decode cX9_restOf 12 = .ok (.iadd, 1) := by decide +kernel
theorem dX9_restOf_13 : decode cX9_restOf 13 = .ok (.goto 4, 3) := by decide +kernel
theorem dX9_restOf_16 : decode cX9_restOf 16 = .ok (.iload_n 1, 1) := by decide +kernel
theorem dX9_restOf_17 : decode cX9_restOf 17 = .ok (.ireturn, 1) := by decide +kernel
theorem dX9_givenBy_0 : decode cX9_givenBy 0 = .ok (.aload_n 0, 1) := by decide +kernel
theorem dX9_givenBy_1 : decode cX9_givenBy 1 = .ok (.getfield 25, 3) := by decide +kernel
theorem dX9_givenBy_4 : decode cX9_givenBy 4 = .ok (.iload_n 1, 1) := by decide +kernel
theorem dX9_givenBy_5 : decode cX9_givenBy 5 = .ok (.ifCond .ne 8, 3) := by decide +kernel
theorem dX9_givenBy_8 : decode cX9_givenBy 8 = .ok (.bipush 115, 2) := by decide +kernel
theorem dX9_givenBy_10 : decode cX9_givenBy 10 = .ok (.goto 5, 3) := by decide +kernel
theorem dX9_givenBy_13 : decode cX9_givenBy 13 = .ok (.bipush 108, 2) := by decide +kernel
theorem dX9_givenBy_15 : decode cX9_givenBy 15 = .ok (.iload_n 2, 1) := by decide +kernel
theorem dX9_givenBy_16 : decode cX9_givenBy 16 = .ok (.iastore, 1) := by decide +kernel
theorem dX9_givenBy_17 : decode cX9_givenBy 17 = .ok (.aload_n 0, 1) := by decide +kernel
theorem dX9_givenBy_18 : decode cX9_givenBy 18 = .ok (.getfield 25, 3) := by decide +kernel
theorem dX9_givenBy_21 : decode cX9_givenBy 21 = .ok (.iload_n 1, 1) := by decide +kernel
theorem dX9_givenBy_22 : decode cX9_givenBy 22 = .ok (.ifCond .ne 8, 3) := by decide +kernel
theorem dX9_givenBy_25 : decode cX9_givenBy 25 = .ok (.bipush 118, 2) := by decide +kernel
theorem dX9_givenBy_27 : decode cX9_givenBy 27 = .ok (.goto 5, 3) := by decide +kernel
theorem dX9_givenBy_30 : decode cX9_givenBy 30 = .ok (.bipush 115, 2) := by decide +kernel
theorem dX9_givenBy_32 : decode cX9_givenBy 32 = .ok (.iload_n 3, 1) := by decide +kernel
theorem dX9_givenBy_33 : decode cX9_givenBy 33 = .ok (.iastore, 1) := by decide +kernel
theorem dX9_givenBy_34 : decode cX9_givenBy 34 = .ok (.aload_n 0, 1) := by decide +kernel
theorem dX9_givenBy_35 : decode cX9_givenBy 35 = .ok (.getfield 25, 3) := by decide +kernel
theorem dX9_givenBy_38 : decode cX9_givenBy 38 = .ok (.bipush 100, 2) := by decide +kernel
theorem dX9_givenBy_40 : decode cX9_givenBy 40 = .ok (.iload 4, 2) := by decide +kernel
theorem dX9_givenBy_42 : decode cX9_givenBy 42 = .ok (.iastore, 1) := by decide +kernel
theorem dX9_givenBy_43 : decode cX9_givenBy 43 = .ok (.aload_n 0, 1) := by decide +kernel
theorem dX9_givenBy_44 : decode cX9_givenBy 44 = .ok (.iload_n 1, 1) := by decide +kernel
theorem dX9_givenBy_45 : decode cX9_givenBy 45 = .ok (.invokevirtual 104, 3) := by decide +kernel
theorem dX9_givenBy_48 : decode cX9_givenBy 48 = .ok (.ifCond .eq 11, 3) := by decide +kernel
theorem dX9_givenBy_51 : decode cX9_givenBy 51 = .ok (.aload_n 0, 1) := by decide +kernel
theorem dX9_givenBy_52 : decode cX9_givenBy 52 = .ok (.iload_n 1, 1) := by decide +kernel
theorem dX9_givenBy_53 : decode cX9_givenBy 53 = .ok (.invokevirtual 115, 3) := by decide +kernel
theorem dX9_givenBy_56 : decode cX9_givenBy 56 = .ok (.goto 4, 3) := by decide +kernel
theorem dX9_givenBy_59 : decode cX9_givenBy 59 = .ok (.iload_n 2, 1) := by decide +kernel
theorem dX9_givenBy_60 : decode cX9_givenBy 60 = .ok (.istore 5, 2) := by decide +kernel
theorem dX9_givenBy_62 : decode cX9_givenBy 62 = .ok (.iload_n 1, 1) := by decide +kernel
theorem dX9_givenBy_63 : decode cX9_givenBy 63 = .ok (.ifCond .ne 14, 3) := by decide +kernel
theorem dX9_givenBy_66 : decode cX9_givenBy 66 = .ok (.iload 5, 2) := by decide +kernel
theorem dX9_givenBy_68 : decode cX9_givenBy 68 = .ok (.iconst 0, 1) := by decide +kernel
theorem dX9_givenBy_69 : decode cX9_givenBy 69 = .ok (.bipush 99, 2) := by decide +kernel
theorem dX9_givenBy_71 : decode cX9_givenBy 71 = .ok (.invokestatic 118, 3) := by decide +kernel
theorem dX9_givenBy_74 : decode cX9_givenBy 74 = .ok (.goto 8, 3) := by decide +kernel
theorem dX9_givenBy_77 : decode cX9_givenBy 77 = .ok (.iload 5, 2) := by decide +kernel
theorem dX9_givenBy_79 : decode cX9_givenBy 79 = .ok (.invokestatic 121, 3) := by decide +kernel
theorem dX9_givenBy_82 : decode cX9_givenBy 82 = .ok (.ireturn, 1) := by decide +kernel
theorem dX9_saidAt_0 : decode cX9_saidAt 0 = .ok (.aload_n 0, 1) := by decide +kernel
theorem dX9_saidAt_1 : decode cX9_saidAt 1 = .ok (.iconst 0, 1) := by decide +kernel
theorem dX9_saidAt_2 : decode cX9_saidAt 2 = .ok (.aload_n 0, 1) := by decide +kernel
theorem dX9_saidAt_3 : decode cX9_saidAt 3 = .ok (.iload_n 1, 1) := by decide +kernel
theorem dX9_saidAt_4 : decode cX9_saidAt 4 = .ok (.invokevirtual 124, 3) := by decide +kernel
theorem dX9_saidAt_7 : decode cX9_saidAt 7 = .ok (.aload_n 0, 1) := by decide +kernel
theorem dX9_saidAt_8 : decode cX9_saidAt 8 = .ok (.getfield 7, 3) := by decide +kernel
theorem dX9_saidAt_11 : decode cX9_saidAt 11 = .ok (.iconst 1, 1) := by decide +kernel
theorem dX9_saidAt_12 : decode cX9_saidAt 12 = .ok (.iaload, 1) := by decide +kernel
theorem dX9_saidAt_13 : decode cX9_saidAt 13 = .ok (.bipush 10, 2) := by decide +kernel
theorem dX9_saidAt_15 : decode cX9_saidAt 15 = .ok (.idiv, 1) := by decide +kernel
theorem dX9_saidAt_16 : decode cX9_saidAt 16 = .ok (.aload_n 0, 1) := by decide +kernel
theorem dX9_saidAt_17 : decode cX9_saidAt 17 = .ok (.getfield 7, 3) := by decide +kernel
theorem dX9_saidAt_20 : decode cX9_saidAt 20 = .ok (.iconst 0, 1) := by decide +kernel
theorem dX9_saidAt_21 : decode cX9_saidAt 21 = .ok (.iaload, 1) := by decide +kernel
theorem dX9_saidAt_22 : decode cX9_saidAt 22 = .ok (.bipush 8, 2) := by decide +kernel
theorem dX9_saidAt_24 : decode cX9_saidAt 24 = .ok (.irem, 1) := by decide +kernel
theorem dX9_saidAt_25 : decode cX9_saidAt 25 = .ok (.invokevirtual 127, 3) := by decide +kernel
theorem dX9_saidAt_28 : decode cX9_saidAt 28 = .ok (.ireturn, 1) := by decide +kernel
theorem dX9_behindAt_0 : decode cX9_behindAt 0 = .ok (.aload_n 0, 1) := by decide +kernel
theorem dX9_behindAt_1 : decode cX9_behindAt 1 = .ok (.iconst 1, 1) := by decide +kernel
theorem dX9_behindAt_2 : decode cX9_behindAt 2 = .ok (.aload_n 0, 1) := by decide +kernel
theorem dX9_behindAt_3 : decode cX9_behindAt 3 = .ok (.iload_n 1, 1) := by decide +kernel
theorem dX9_behindAt_4 : decode cX9_behindAt 4 = .ok (.invokevirtual 131, 3) := by decide +kernel
theorem dX9_behindAt_7 : decode cX9_behindAt 7 = .ok (.aload_n 0, 1) := by decide +kernel
theorem dX9_behindAt_8 : decode cX9_behindAt 8 = .ok (.getfield 7, 3) := by decide +kernel
theorem dX9_behindAt_11 : decode cX9_behindAt 11 = .ok (.iconst 2, 1) := by decide +kernel
theorem dX9_behindAt_12 : decode cX9_behindAt 12 = .ok (.iaload, 1) := by decide +kernel
theorem dX9_behindAt_13 : decode cX9_behindAt 13 = .ok (.bipush 10, 2) := by decide +kernel
theorem dX9_behindAt_15 : decode cX9_behindAt 15 = .ok (.idiv, 1) := by decide +kernel
theorem dX9_behindAt_16 : decode cX9_behindAt 16 = .ok (.aload_n 0, 1) := by decide +kernel
theorem dX9_behindAt_17 : decode cX9_behindAt 17 = .ok (.getfield 7, 3) := by decide +kernel
theorem dX9_behindAt_20 : decode cX9_behindAt 20 = .ok (.iconst 0, 1) := by decide +kernel
theorem dX9_behindAt_21 : decode cX9_behindAt 21 = .ok (.iaload, 1) := by decide +kernel
theorem dX9_behindAt_22 : decode cX9_behindAt 22 = .ok (.bipush 8, 2) := by decide +kernel
theorem dX9_behindAt_24 : decode cX9_behindAt 24 = .ok (.irem, 1) := by decide +kernel
theorem dX9_behindAt_25 : decode cX9_behindAt 25 = .ok (.invokevirtual 127, 3) := by decide +kernel
theorem dX9_behindAt_28 : decode cX9_behindAt 28 = .ok (.ireturn, 1) := by decide +kernel
theorem dX9_nextOne_0 : decode cX9_nextOne 0 = .ok (.iconst 1, 1) := by decide +kernel
theorem dX9_nextOne_1 : decode cX9_nextOne 1 = .ok (.istore_n 1, 1) := by decide +kernel
theorem dX9_nextOne_2 : decode cX9_nextOne 2 = .ok (.iload_n 1, 1) := by decide +kernel
theorem dX9_nextOne_3 : decode cX9_nextOne 3 = .ok (.aload_n 0, 1) := by decide +kernel
theorem dX9_nextOne_4 : decode cX9_nextOne 4 = .ok (.getfield 7, 3) := by decide +kernel
theorem dX9_nextOne_7 : decode cX9_nextOne 7 = .ok (.bipush 8, 2) := by decide +kernel
theorem dX9_nextOne_9 : decode cX9_nextOne 9 = .ok (.iaload, 1) := by decide +kernel
theorem dX9_nextOne_10 : decode cX9_nextOne 10 = .ok (.if_icmp .ge 37, 3) := by decide +kernel
theorem dX9_nextOne_13 : decode cX9_nextOne 13 = .ok (.aload_n 0, 1) := by decide +kernel
theorem dX9_nextOne_14 : decode cX9_nextOne 14 = .ok (.getfield 7, 3) := by decide +kernel
theorem dX9_nextOne_17 : decode cX9_nextOne 17 = .ok (.iconst 4, 1) := by decide +kernel
theorem dX9_nextOne_18 : decode cX9_nextOne 18 = .ok (.iaload, 1) := by decide +kernel
theorem dX9_nextOne_19 : decode cX9_nextOne 19 = .ok (.iload_n 1, 1) := by decide +kernel
theorem dX9_nextOne_20 : decode cX9_nextOne 20 = .ok (.iadd, 1) := by decide +kernel
theorem dX9_nextOne_21 : decode cX9_nextOne 21 = .ok (.aload_n 0, 1) := by decide +kernel
theorem dX9_nextOne_22 : decode cX9_nextOne 22 = .ok (.getfield 7, 3) := by decide +kernel
theorem dX9_nextOne_25 : decode cX9_nextOne 25 = .ok (.bipush 8, 2) := by decide +kernel
theorem dX9_nextOne_27 : decode cX9_nextOne 27 = .ok (.iaload, 1) := by decide +kernel
theorem dX9_nextOne_28 : decode cX9_nextOne 28 = .ok (.irem, 1) := by decide +kernel
theorem dX9_nextOne_29 : decode cX9_nextOne 29 = .ok (.istore_n 2, 1) := by decide +kernel
theorem dX9_nextOne_30 : decode cX9_nextOne 30 = .ok (.aload_n 0, 1) := by decide +kernel
theorem dX9_nextOne_31 : decode cX9_nextOne 31 = .ok (.iload_n 2, 1) := by decide +kernel
theorem dX9_nextOne_32 : decode cX9_nextOne 32 = .ok (.iconst 4, 1) := by decide +kernel
theorem dX9_nextOne_33 : decode cX9_nextOne 33 = .ok (.invokevirtual 111, 3) := by decide +kernel
theorem dX9_nextOne_36 : decode cX9_nextOne 36 = .ok (.ifCond .ne 5, 3) := by decide +kernel
theorem dX9_nextOne_39 : decode cX9_nextOne 39 = .ok (.iload_n 2, 1) := by decide +kernel
theorem dX9_nextOne_40 : decode cX9_nextOne 40 = .ok (.ireturn, 1) := by decide +kernel
theorem dX9_nextOne_41 : decode cX9_nextOne 41 = .ok (.iinc 1 1, 3) := by decide +kernel
theorem dX9_nextOne_44 : decode cX9_nextOne 44 = .ok (.goto (-42), 3) := by decide +kernel
theorem dX9_nextOne_47 : decode cX9_nextOne 47 = .ok (.aload_n 0, 1) := by decide +kernel
theorem dX9_nextOne_48 : decode cX9_nextOne 48 = .ok (.getfield 7, 3) := by decide +kernel
theorem dX9_nextOne_51 : decode cX9_nextOne 51 = .ok (.iconst 4, 1) := by decide +kernel
theorem dX9_nextOne_52 : decode cX9_nextOne 52 = .ok (.iaload, 1) := by decide +kernel
theorem dX9_nextOne_53 : decode cX9_nextOne 53 = .ok (.ireturn, 1) := by decide +kernel
theorem dX9_day1_0 : decode cX9_day1 0 = .ok (.aload_n 0, 1) := by decide +kernel
theorem dX9_day1_1 : decode cX9_day1 1 = .ok (.getfield 7, 3) := by decide +kernel
theorem dX9_day1_4 : decode cX9_day1 4 = .ok (.bipush 8, 2) := by decide +kernel
theorem dX9_day1_6 : decode cX9_day1 6 = .ok (.iaload, 1) := by decide +kernel
theorem dX9_day1_7 : decode cX9_day1 7 = .ok (.ifCond .le 109, 3) := by decide +kernel
theorem dX9_day1_10 : decode cX9_day1 10 = .ok (.aload_n 0, 1) := by decide +kernel
theorem dX9_day1_11 : decode cX9_day1 11 = .ok (.getfield 7, 3) := by decide +kernel
theorem dX9_day1_14 : decode cX9_day1 14 = .ok (.iconst 4, 1) := by decide +kernel
theorem dX9_day1_15 : decode cX9_day1 15 = .ok (.iaload, 1) := by decide +kernel
theorem dX9_day1_16 : decode cX9_day1 16 = .ok (.istore_n 1, 1) := by decide +kernel
theorem dX9_day1_17 : decode cX9_day1 17 = .ok (.aload_n 0, 1) := by decide +kernel
theorem dX9_day1_18 : decode cX9_day1 18 = .ok (.iload_n 1, 1) := by decide +kernel
theorem dX9_day1_19 : decode cX9_day1 19 = .ok (.invokevirtual 134, 3) := by decide +kernel
theorem dX9_day1_22 : decode cX9_day1 22 = .ok (.istore_n 2, 1) := by decide +kernel
theorem dX9_day1_23 : decode cX9_day1 23 = .ok (.aload_n 0, 1) := by decide +kernel
theorem dX9_day1_24 : decode cX9_day1 24 = .ok (.iload_n 1, 1) := by decide +kernel
theorem dX9_day1_25 : decode cX9_day1 25 = .ok (.invokevirtual 137, 3) := by decide +kernel
theorem dX9_day1_28 : decode cX9_day1 28 = .ok (.istore_n 3, 1) := by decide +kernel
theorem dX9_day1_29 : decode cX9_day1 29 = .ok (.aload_n 0, 1) := by decide +kernel
theorem dX9_day1_30 : decode cX9_day1 30 = .ok (.iload_n 1, 1) := by decide +kernel
theorem dX9_day1_31 : decode cX9_day1 31 = .ok (.invokevirtual 140, 3) := by decide +kernel
theorem dX9_day1_34 : decode cX9_day1 34 = .ok (.istore 4, 2) := by decide +kernel
theorem dX9_day1_36 : decode cX9_day1 36 = .ok (.aload_n 0, 1) := by decide +kernel
theorem dX9_day1_37 : decode cX9_day1 37 = .ok (.iload_n 1, 1) := by decide +kernel
theorem dX9_day1_38 : decode cX9_day1 38 = .ok (.iconst 2, 1) := by decide +kernel
theorem dX9_day1_39 : decode cX9_day1 39 = .ok (.aload_n 0, 1) := by decide +kernel
theorem dX9_day1_40 : decode cX9_day1 40 = .ok (.iload_n 1, 1) := by decide +kernel
theorem dX9_day1_41 : decode cX9_day1 41 = .ok (.iconst 2, 1) := by decide +kernel
theorem dX9_day1_42 : decode cX9_day1 42 = .ok (.invokevirtual 111, 3) := by decide +kernel
theorem dX9_day1_45 : decode cX9_day1 45 = .ok (.iload_n 2, 1) := by decide +kernel
theorem dX9_day1_46 : decode cX9_day1 46 = .ok (.iadd, 1) := by decide +kernel
theorem dX9_day1_47 : decode cX9_day1 47 = .ok (.iconst 0, 1) := by decide +kernel
theorem dX9_day1_48 : decode cX9_day1 48 = .ok (.sipush 9999, 3) := by decide +kernel
theorem dX9_day1_51 : decode cX9_day1 51 = .ok (.invokestatic 118, 3) := by decide +kernel
theorem dX9_day1_54 : decode cX9_day1 54 = .ok (.invokevirtual 143, 3) := by decide +kernel
theorem dX9_day1_57 : decode cX9_day1 57 = .ok (.aload_n 0, 1) := by decide +kernel
theorem dX9_day1_58 : decode cX9_day1 58 = .ok (.iload_n 1, 1) := by decide +kernel
theorem dX9_day1_59 : decode cX9_day1 59 = .ok (.iconst 3, 1) := by decide +kernel
theorem dX9_day1_60 : decode cX9_day1 60 = .ok (.aload_n 0, 1) := by decide +kernel
theorem dX9_day1_61 : decode cX9_day1 61 = .ok (.iload_n 1, 1) := by decide +kernel
theorem dX9_day1_62 : decode cX9_day1 62 = .ok (.iconst 3, 1) := by decide +kernel
theorem dX9_day1_63 : decode cX9_day1 63 = .ok (.invokevirtual 111, 3) := by decide +kernel
theorem dX9_day1_66 : decode cX9_day1 66 = .ok (.iconst 1, 1) := by decide +kernel
theorem dX9_day1_67 : decode cX9_day1 67 = .ok (.iadd, 1) := by decide +kernel
theorem dX9_day1_68 : decode cX9_day1 68 = .ok (.iconst 0, 1) := by decide +kernel
theorem dX9_day1_69 : decode cX9_day1 69 = .ok (.sipush 9999, 3) := by decide +kernel
theorem dX9_day1_72 : decode cX9_day1 72 = .ok (.invokestatic 118, 3) := by decide +kernel
theorem dX9_day1_75 : decode cX9_day1 75 = .ok (.invokevirtual 143, 3) := by decide +kernel
theorem dX9_day1_78 : decode cX9_day1 78 = .ok (.aload_n 0, 1) := by decide +kernel
theorem dX9_day1_79 : decode cX9_day1 79 = .ok (.getfield 7, 3) := by decide +kernel
theorem dX9_day1_82 : decode cX9_day1 82 = .ok (.iconst 1, 1) := by decide +kernel
theorem dX9_day1_83 : decode cX9_day1 83 = .ok (.iload_n 3, 1) := by decide +kernel
theorem dX9_day1_84 : decode cX9_day1 84 = .ok (.iastore, 1) := by decide +kernel
theorem dX9_day1_85 : decode cX9_day1 85 = .ok (.aload_n 0, 1) := by decide +kernel
theorem dX9_day1_86 : decode cX9_day1 86 = .ok (.getfield 7, 3) := by decide +kernel
theorem dX9_day1_89 : decode cX9_day1 89 = .ok (.iconst 2, 1) := by decide +kernel
theorem dX9_day1_90 : decode cX9_day1 90 = .ok (.aload_n 0, 1) := by decide +kernel
theorem dX9_day1_91 : decode cX9_day1 91 = .ok (.getfield 7, 3) := by decide +kernel
theorem dX9_day1_94 : decode cX9_day1 94 = .ok (.iconst 2, 1) := by decide +kernel
theorem dX9_day1_95 : decode cX9_day1 95 = .ok (.iaload, 1) := by decide +kernel
theorem dX9_day1_96 : decode cX9_day1 96 = .ok (.iload 4, 2) := by decide +kernel
theorem dX9_day1_98 : decode cX9_day1 98 = .ok (.isub, 1) := by decide +kernel
theorem dX9_day1_99 : decode cX9_day1 99 = .ok (.iconst 0, 1) := by decide +kernel
theorem dX9_day1_100 : decode cX9_day1 100 = .ok (.bipush 99, 2) := by decide +kernel
theorem dX9_day1_102 : decode cX9_day1 102 = .ok (.invokestatic 118, 3) := by decide +kernel
theorem dX9_day1_105 : decode cX9_day1 105 = .ok (.iastore, 1) := by decide +kernel
theorem dX9_day1_106 : decode cX9_day1 106 = .ok (.aload_n 0, 1) := by decide +kernel
theorem dX9_day1_107 : decode cX9_day1 107 = .ok (.getfield 7, 3) := by decide +kernel
theorem dX9_day1_110 : decode cX9_day1 110 = .ok (.iconst 4, 1) := by decide +kernel
theorem dX9_day1_111 : decode cX9_day1 111 = .ok (.aload_n 0, 1) := by decide +kernel
theorem dX9_day1_112 : decode cX9_day1 112 = .ok (.invokevirtual 147, 3) := by decide +kernel
theorem dX9_day1_115 : decode cX9_day1 115 = .ok (.iastore, 1) := by decide +kernel
theorem dX9_day1_116 : decode cX9_day1 116 = .ok (.aload_n 0, 1) := by decide +kernel
theorem dX9_day1_117 : decode cX9_day1 117 = .ok (.getfield 7, 3) := by decide +kernel
theorem dX9_day1_120 : decode cX9_day1 120 = .ok (.iconst 0, 1) := by decide +kernel
theorem dX9_day1_121 : decode cX9_day1 121 = .ok (.dup2, 1) := by decide +kernel
theorem dX9_day1_122 : decode cX9_day1 122 = .ok (.iaload, 1) := by decide +kernel
theorem dX9_day1_123 : decode cX9_day1 123 = .ok (.iconst 1, 1) := by decide +kernel
theorem dX9_day1_124 : decode cX9_day1 124 = .ok (.iadd, 1) := by decide +kernel
theorem dX9_day1_125 : decode cX9_day1 125 = .ok (.iastore, 1) := by decide +kernel
theorem dX9_day1_126 : decode cX9_day1 126 = .ok (.aload_n 0, 1) := by decide +kernel
theorem dX9_day1_127 : decode cX9_day1 127 = .ok (.getfield 7, 3) := by decide +kernel
theorem dX9_day1_130 : decode cX9_day1 130 = .ok (.iconst 0, 1) := by decide +kernel
theorem dX9_day1_131 : decode cX9_day1 131 = .ok (.iaload, 1) := by decide +kernel
theorem dX9_day1_132 : decode cX9_day1 132 = .ok (.aload_n 0, 1) := by decide +kernel
theorem dX9_day1_133 : decode cX9_day1 133 = .ok (.getfield 7, 3) := by decide +kernel
theorem dX9_day1_136 : decode cX9_day1 136 = .ok (.iconst 3, 1) := by decide +kernel
theorem dX9_day1_137 : decode cX9_day1 137 = .ok (.iaload, 1) := by decide +kernel
theorem dX9_day1_138 : decode cX9_day1 138 = .ok (.irem, 1) := by decide +kernel
theorem dX9_day1_139 : decode cX9_day1 139 = .ok (.ifCond .ne 11, 3) := by decide +kernel
theorem dX9_day1_142 : decode cX9_day1 142 = .ok (.aload_n 0, 1) := by decide +kernel
theorem dX9_day1_143 : decode cX9_day1 143 = .ok (.getfield 7, 3) := by decide +kernel
theorem dX9_day1_146 : decode cX9_day1 146 = .ok (.iconst 2, 1) := by decide +kernel
theorem dX9_day1_147 : decode cX9_day1 147 = .ok (.bipush 99, 2) := by decide +kernel
theorem dX9_day1_149 : decode cX9_day1 149 = .ok (.iastore, 1) := by decide +kernel
theorem dX9_day1_150 : decode cX9_day1 150 = .ok (.return_, 1) := by decide +kernel
theorem dX9_goesOn_0 : decode cX9_goesOn 0 = .ok (.iconst 0, 1) := by decide +kernel
theorem dX9_goesOn_1 : decode cX9_goesOn 1 = .ok (.istore_n 2, 1) := by decide +kernel
theorem dX9_goesOn_2 : decode cX9_goesOn 2 = .ok (.iload_n 2, 1) := by decide +kernel
theorem dX9_goesOn_3 : decode cX9_goesOn 3 = .ok (.iload_n 1, 1) := by decide +kernel
theorem dX9_goesOn_4 : decode cX9_goesOn 4 = .ok (.if_icmp .ge 13, 3) := by decide +kernel
theorem dX9_goesOn_7 : decode cX9_goesOn 7 = .ok (.aload_n 0, 1) := by decide +kernel
theorem dX9_goesOn_8 : decode cX9_goesOn 8 = .ok (.invokevirtual 150, 3) := by decide +kernel
theorem dX9_goesOn_11 : decode cX9_goesOn 11 = .ok (.iinc 2 1, 3) := by decide +kernel
theorem dX9_goesOn_14 : decode cX9_goesOn 14 = .ok (.goto (-12), 3) := by decide +kernel
theorem dX9_goesOn_17 : decode cX9_goesOn 17 = .ok (.return_, 1) := by decide +kernel
theorem dX9_heardAll_0 : decode cX9_heardAll 0 = .ok (.iconst 0, 1) := by decide +kernel
theorem dX9_heardAll_1 : decode cX9_heardAll 1 = .ok (.istore_n 1, 1) := by decide +kernel
theorem dX9_heardAll_2 : decode cX9_heardAll 2 = .ok (.iconst 0, 1) := by decide +kernel
theorem dX9_heardAll_3 : decode cX9_heardAll 3 = .ok (.istore_n 2, 1) := by decide +kernel
theorem dX9_heardAll_4 : decode cX9_heardAll 4 = .ok (.iload_n 2, 1) := by decide +kernel
theorem dX9_heardAll_5 : decode cX9_heardAll 5 = .ok (.aload_n 0, 1) := by decide +kernel
theorem dX9_heardAll_6 : decode cX9_heardAll 6 = .ok (.getfield 7, 3) := by decide +kernel
theorem dX9_heardAll_9 : decode cX9_heardAll 9 = .ok (.bipush 8, 2) := by decide +kernel
theorem dX9_heardAll_11 : decode cX9_heardAll 11 = .ok (.iaload, 1) := by decide +kernel
theorem dX9_heardAll_12 : decode cX9_heardAll 12 = .ok (.if_icmp .ge 18, 3) := by decide +kernel
theorem dX9_heardAll_15 : decode cX9_heardAll 15 = .ok (.iload_n 1, 1) := by decide +kernel
theorem dX9_heardAll_16 : decode cX9_heardAll 16 = .ok (.aload_n 0, 1) := by decide +kernel
theorem dX9_heardAll_17 : decode cX9_heardAll 17 = .ok (.iload_n 2, 1) := by decide +kernel
theorem dX9_heardAll_18 : decode cX9_heardAll 18 = .ok (.iconst 2, 1) := by decide +kernel
theorem dX9_heardAll_19 : decode cX9_heardAll 19 = .ok (.invokevirtual 111, 3) := by decide +kernel
theorem dX9_heardAll_22 : decode cX9_heardAll 22 = .ok (.iadd, 1) := by decide +kernel
theorem dX9_heardAll_23 : decode cX9_heardAll 23 = .ok (.istore_n 1, 1) := by decide +kernel
theorem dX9_heardAll_24 : decode cX9_heardAll 24 = .ok (.iinc 2 1, 3) := by decide +kernel
theorem dX9_heardAll_27 : decode cX9_heardAll 27 = .ok (.goto (-23), 3) := by decide +kernel
theorem dX9_heardAll_30 : decode cX9_heardAll 30 = .ok (.iload_n 1, 1) := by decide +kernel
theorem dX9_heardAll_31 : decode cX9_heardAll 31 = .ok (.ireturn, 1) := by decide +kernel
theorem dX9_isKm_0 : decode cX9_isKm 0 = .ok (.iload_n 0, 1) := by decide +kernel
theorem dX9_isKm_1 : decode cX9_isKm 1 = .ok (.iconst 0, 1) := by decide +kernel
theorem dX9_isKm_2 : decode cX9_isKm 2 = .ok (.bipush 69, 2) := by decide +kernel
theorem dX9_isKm_4 : decode cX9_isKm 4 = .ok (.invokestatic 47, 3) := by decide +kernel
theorem dX9_isKm_7 : decode cX9_isKm 7 = .ok (.ireturn, 1) := by decide +kernel
theorem dX9_home_0 : decode cX9_home 0 = .ok (.iload_n 1, 1) := by decide +kernel
theorem dX9_home_1 : decode cX9_home 1 = .ok (.invokestatic 153, 3) := by decide +kernel
theorem dX9_home_4 : decode cX9_home 4 = .ok (.ifCond .ne 9, 3) := by decide +kernel
theorem dX9_home_7 : decode cX9_home 7 = .ok (.aload_n 0, 1) := by decide +kernel
theorem dX9_home_8 : decode cX9_home 8 = .ok (.iconst 1, 1) := by decide +kernel
theorem dX9_home_9 : decode cX9_home 9 = .ok (.invokevirtual 51, 3) := by decide +kernel
theorem dX9_home_12 : decode cX9_home 12 = .ok (.ireturn, 1) := by decide +kernel
theorem dX9_home_13 : decode cX9_home 13 = .ok (.aload_n 0, 1) := by decide +kernel
theorem dX9_home_14 : decode cX9_home 14 = .ok (.getfield 7, 3) := by decide +kernel
theorem dX9_home_17 : decode cX9_home 17 = .ok (.bipush 8, 2) := by decide +kernel
theorem dX9_home_19 : decode cX9_home 19 = .ok (.iaload, 1) := by decide +kernel
theorem dX9_home_20 : decode cX9_home 20 = .ok (.bipush 8, 2) := by decide +kernel
theorem dX9_home_22 : decode cX9_home 22 = .ok (.if_icmp .ne 9, 3) := by decide +kernel
theorem dX9_home_25 : decode cX9_home 25 = .ok (.aload_n 0, 1) := by decide +kernel
theorem dX9_home_26 : decode cX9_home 26 = .ok (.iconst 4, 1) := by decide +kernel
theorem dX9_home_27 : decode cX9_home 27 = .ok (.invokevirtual 51, 3) := by decide +kernel
theorem dX9_home_30 : decode cX9_home 30 = .ok (.ireturn, 1) := by decide +kernel
theorem dX9_home_31 : decode cX9_home 31 = .ok (.aload_n 0, 1) := by decide +kernel
theorem dX9_home_32 : decode cX9_home 32 = .ok (.getfield 7, 3) := by decide +kernel
theorem dX9_home_35 : decode cX9_home 35 = .ok (.bipush 8, 2) := by decide +kernel
theorem dX9_home_37 : decode cX9_home 37 = .ok (.iaload, 1) := by decide +kernel
theorem dX9_home_38 : decode cX9_home 38 = .ok (.istore_n 2, 1) := by decide +kernel
theorem dX9_home_39 : decode cX9_home 39 = .ok (.aload_n 0, 1) := by decide +kernel
theorem dX9_home_40 : decode cX9_home 40 = .ok (.iload_n 2, 1) := by decide +kernel
theorem dX9_home_41 : decode cX9_home 41 = .ok (.iconst 0, 1) := by decide +kernel
theorem dX9_home_42 : decode cX9_home 42 = .ok (.iload_n 1, 1) := by decide +kernel
theorem dX9_home_43 : decode cX9_home 43 = .ok (.bipush 10, 2) := by decide +kernel
theorem dX9_home_45 : decode cX9_home 45 = .ok (.idiv, 1) := by decide +kernel
theorem dX9_home_46 : decode cX9_home 46 = .ok (.invokevirtual 143, 3) := by decide +kernel
theorem dX9_home_49 : decode cX9_home 49 = .ok (.aload_n 0, 1) := by decide +kernel
theorem dX9_home_50 : decode cX9_home 50 = .ok (.iload_n 2, 1) := by decide +kernel
theorem dX9_home_51 : decode cX9_home 51 = .ok (.iconst 1, 1) := by decide +kernel
theorem dX9_home_52 : decode cX9_home 52 = .ok (.iload_n 1, 1) := by decide +kernel
theorem dX9_home_53 : decode cX9_home 53 = .ok (.bipush 10, 2) := by decide +kernel
theorem dX9_home_55 : decode cX9_home 55 = .ok (.irem, 1) := by decide +kernel
theorem dX9_home_56 : decode cX9_home 56 = .ok (.invokevirtual 143, 3) := by decide +kernel
theorem dX9_home_59 : decode cX9_home 59 = .ok (.aload_n 0, 1) := by decide +kernel
theorem dX9_home_60 : decode cX9_home 60 = .ok (.iload_n 2, 1) := by decide +kernel
theorem dX9_home_61 : decode cX9_home 61 = .ok (.iconst 2, 1) := by decide +kernel
theorem dX9_home_62 : decode cX9_home 62 = .ok (.iconst 0, 1) := by decide +kernel
theorem dX9_home_63 : decode cX9_home 63 = .ok (.invokevirtual 143, 3) := by decide +kernel
theorem dX9_home_66 : decode cX9_home 66 = .ok (.aload_n 0, 1) := by decide +kernel
theorem dX9_home_67 : decode cX9_home 67 = .ok (.iload_n 2, 1) := by decide +kernel
theorem dX9_home_68 : decode cX9_home 68 = .ok (.iconst 3, 1) := by decide +kernel
theorem dX9_home_69 : decode cX9_home 69 = .ok (.iconst 0, 1) := by decide +kernel
theorem dX9_home_70 : decode cX9_home 70 = .ok (.invokevirtual 143, 3) := by decide +kernel
theorem dX9_home_73 : decode cX9_home 73 = .ok (.aload_n 0, 1) := by decide +kernel
theorem dX9_home_74 : decode cX9_home 74 = .ok (.iload_n 2, 1) := by decide +kernel
theorem dX9_home_75 : decode cX9_home 75 = .ok (.iconst 4, 1) := by decide +kernel
theorem dX9_home_76 : decode cX9_home 76 = .ok (.iconst 0, 1) := by decide +kernel
theorem dX9_home_77 : decode cX9_home 77 = .ok (.invokevirtual 143, 3) := by decide +kernel
theorem dX9_home_80 : decode cX9_home 80 = .ok (.aload_n 0, 1) := by decide +kernel
theorem dX9_home_81 : decode cX9_home 81 = .ok (.getfield 7, 3) := by decide +kernel
theorem dX9_home_84 : decode cX9_home 84 = .ok (.bipush 8, 2) := by decide +kernel
theorem dX9_home_86 : decode cX9_home 86 = .ok (.dup2, 1) := by decide +kernel
theorem dX9_home_87 : decode cX9_home 87 = .ok (.iaload, 1) := by decide +kernel
theorem dX9_home_88 : decode cX9_home 88 = .ok (.iconst 1, 1) := by decide +kernel
theorem dX9_home_89 : decode cX9_home 89 = .ok (.iadd, 1) := by decide +kernel
theorem dX9_home_90 : decode cX9_home 90 = .ok (.iastore, 1) := by decide +kernel
theorem dX9_home_91 : decode cX9_home 91 = .ok (.iload_n 2, 1) := by decide +kernel
theorem dX9_home_92 : decode cX9_home 92 = .ok (.ireturn, 1) := by decide +kernel
theorem dX9_homeIs_0 : decode cX9_homeIs 0 = .ok (.aload_n 0, 1) := by decide +kernel
theorem dX9_homeIs_1 : decode cX9_homeIs 1 = .ok (.iload_n 1, 1) := by decide +kernel
theorem dX9_homeIs_2 : decode cX9_homeIs 2 = .ok (.invokevirtual 156, 3) := by decide +kernel
theorem dX9_homeIs_5 : decode cX9_homeIs 5 = .ok (.ifCond .eq 13, 3) := by decide +kernel
theorem dX9_homeIs_8 : decode cX9_homeIs 8 = .ok (.iload_n 2, 1) := by decide +kernel
theorem dX9_homeIs_9 : decode cX9_homeIs 9 = .ok (.iconst 0, 1) := by decide +kernel
theorem dX9_homeIs_10 : decode cX9_homeIs 10 = .ok (.bipush 7, 2) := by decide +kernel
theorem dX9_homeIs_12 : decode cX9_homeIs 12 = .ok (.invokestatic 47, 3) := by decide +kernel
theorem dX9_homeIs_15 : decode cX9_homeIs 15 = .ok (.ifCond .ne 9, 3) := by decide +kernel
theorem dX9_homeIs_18 : decode cX9_homeIs 18 = .ok (.aload_n 0, 1) := by decide +kernel
theorem dX9_homeIs_19 : decode cX9_homeIs 19 = .ok (.iconst 1, 1) := by decide +kernel
theorem dX9_homeIs_20 : decode cX9_homeIs 20 = .ok (.invokevirtual 51, 3) := by decide +kernel
theorem dX9_homeIs_23 : decode cX9_homeIs 23 = .ok (.ireturn, 1) := by decide +kernel
theorem dX9_homeIs_24 : decode cX9_homeIs 24 = .ok (.iload_n 2, 1) := by decide +kernel
theorem dX9_homeIs_25 : decode cX9_homeIs 25 = .ok (.iconst 5, 1) := by decide +kernel
theorem dX9_homeIs_26 : decode cX9_homeIs 26 = .ok (.if_icmp .ne 11, 3) := by decide +kernel
theorem dX9_homeIs_29 : decode cX9_homeIs 29 = .ok (.aload_n 0, 1) := by decide +kernel
theorem dX9_homeIs_30 : decode cX9_homeIs 30 = .ok (.iload_n 1, 1) := by decide +kernel
theorem dX9_homeIs_31 : decode cX9_homeIs 31 = .ok (.invokevirtual 134, 3) := by decide +kernel
theorem dX9_homeIs_34 : decode cX9_homeIs 34 = .ok (.goto 37, 3) := by decide +kernel
theorem dX9_homeIs_37 : decode cX9_homeIs 37 = .ok (.iload_n 2, 1) := by decide +kernel
theorem dX9_homeIs_38 : decode cX9_homeIs 38 = .ok (.bipush 6, 2) := by decide +kernel
theorem dX9_homeIs_40 : decode cX9_homeIs 40 = .ok (.if_icmp .ne 11, 3) := by decide +kernel
theorem dX9_homeIs_43 : decode cX9_homeIs 43 = .ok (.aload_n 0, 1) := by decide +kernel
theorem dX9_homeIs_44 : decode cX9_homeIs 44 = .ok (.iload_n 1, 1) := by decide +kernel
theorem dX9_homeIs_45 : decode cX9_homeIs 45 = .ok (.invokevirtual 137, 3) := by decide +kernel
theorem dX9_homeIs_48 : decode cX9_homeIs 48 = .ok (.goto 23, 3) := by decide +kernel
theorem dX9_homeIs_51 : decode cX9_homeIs 51 = .ok (.iload_n 2, 1) := by decide +kernel
theorem dX9_homeIs_52 : decode cX9_homeIs 52 = .ok (.bipush 7, 2) := by decide +kernel
theorem dX9_homeIs_54 : decode cX9_homeIs 54 = .ok (.if_icmp .ne 11, 3) := by decide +kernel
theorem dX9_homeIs_57 : decode cX9_homeIs 57 = .ok (.aload_n 0, 1) := by decide +kernel
theorem dX9_homeIs_58 : decode cX9_homeIs 58 = .ok (.iload_n 1, 1) := by decide +kernel
theorem dX9_homeIs_59 : decode cX9_homeIs 59 = .ok (.invokevirtual 140, 3) := by decide +kernel
theorem dX9_homeIs_62 : decode cX9_homeIs 62 = .ok (.goto 9, 3) := by decide +kernel
theorem dX9_homeIs_65 : decode cX9_homeIs 65 = .ok (.aload_n 0, 1) := by decide +kernel
theorem dX9_homeIs_66 : decode cX9_homeIs 66 = .ok (.iload_n 1, 1) := by decide +kernel
theorem dX9_homeIs_67 : decode cX9_homeIs 67 = .ok (.iload_n 2, 1) := by decide +kernel
theorem dX9_homeIs_68 : decode cX9_homeIs 68 = .ok (.invokevirtual 111, 3) := by decide +kernel
theorem dX9_homeIs_71 : decode cX9_homeIs 71 = .ok (.ireturn, 1) := by decide +kernel
theorem dX9_become_0 : decode cX9_become 0 = .ok (.aload_n 0, 1) := by decide +kernel
theorem dX9_become_1 : decode cX9_become 1 = .ok (.iload_n 1, 1) := by decide +kernel
theorem dX9_become_2 : decode cX9_become 2 = .ok (.invokevirtual 156, 3) := by decide +kernel
theorem dX9_become_5 : decode cX9_become 5 = .ok (.ifCond .eq 10, 3) := by decide +kernel
theorem dX9_become_8 : decode cX9_become 8 = .ok (.iload_n 2, 1) := by decide +kernel
theorem dX9_become_9 : decode cX9_become 9 = .ok (.invokestatic 153, 3) := by decide +kernel
theorem dX9_become_12 : decode cX9_become 12 = .ok (.ifCond .ne 9, 3) := by decide +kernel
theorem dX9_become_15 : decode cX9_become 15 = .ok (.aload_n 0, 1) := by decide +kernel
theorem dX9_become_16 : decode cX9_become 16 = .ok (.iconst 1, 1) := by decide +kernel
theorem dX9_become_17 : decode cX9_become 17 = .ok (.invokevirtual 51, 3) := by decide +kernel
theorem dX9_become_20 : decode cX9_become 20 = .ok (.ireturn, 1) := by decide +kernel
theorem dX9_become_21 : decode cX9_become 21 = .ok (.aload_n 0, 1) := by decide +kernel
theorem dX9_become_22 : decode cX9_become 22 = .ok (.iload_n 1, 1) := by decide +kernel
theorem dX9_become_23 : decode cX9_become 23 = .ok (.iconst 0, 1) := by decide +kernel
theorem dX9_become_24 : decode cX9_become 24 = .ok (.invokevirtual 111, 3) := by decide +kernel
theorem dX9_become_27 : decode cX9_become 27 = .ok (.istore_n 3, 1) := by decide +kernel
theorem dX9_become_28 : decode cX9_become 28 = .ok (.aload_n 0, 1) := by decide +kernel
theorem dX9_become_29 : decode cX9_become 29 = .ok (.iload_n 1, 1) := by decide +kernel
theorem dX9_become_30 : decode cX9_become 30 = .ok (.iconst 0, 1) := by decide +kernel
theorem dX9_become_31 : decode cX9_become 31 = .ok (.iload_n 2, 1) := by decide +kernel
theorem dX9_become_32 : decode cX9_become 32 = .ok (.bipush 10, 2) := by decide +kernel
theorem dX9_become_34 : decode cX9_become 34 = .ok (.idiv, 1) := by decide +kernel
theorem dX9_become_35 : decode cX9_become 35 = .ok (.invokevirtual 143, 3) := by decide +kernel
theorem dX9_become_38 : decode cX9_become 38 = .ok (.aload_n 0, 1) := by decide +kernel
theorem dX9_become_39 : decode cX9_become 39 = .ok (.iload_n 1, 1) := by decide +kernel
theorem dX9_become_40 : decode cX9_become 40 = .ok (.iconst 1, 1) := by decide +kernel
theorem dX9_become_41 : decode cX9_become 41 = .ok (.iload_n 2, 1) := by decide +kernel
theorem dX9_become_42 : decode cX9_become 42 = .ok (.bipush 10, 2) := by decide +kernel
theorem dX9_become_44 : decode cX9_become 44 = .ok (.irem, 1) := by decide +kernel
theorem dX9_become_45 : decode cX9_become 45 = .ok (.invokevirtual 143, 3) := by decide +kernel
theorem dX9_become_48 : decode cX9_become 48 = .ok (.iload_n 3, 1) := by decide +kernel
theorem dX9_become_49 : decode cX9_become 49 = .ok (.ireturn, 1) := by decide +kernel
theorem dX9_as_0 : decode cX9_as 0 = .ok (.aload_n 0, 1) := by decide +kernel
theorem dX9_as_1 : decode cX9_as 1 = .ok (.iload_n 1, 1) := by decide +kernel
theorem dX9_as_2 : decode cX9_as 2 = .ok (.invokevirtual 156, 3) := by decide +kernel
theorem dX9_as_5 : decode cX9_as 5 = .ok (.ifCond .eq 13, 3) := by decide +kernel
theorem dX9_as_8 : decode cX9_as 8 = .ok (.iload_n 2, 1) := by decide +kernel
theorem dX9_as_9 : decode cX9_as 9 = .ok (.iconst 0, 1) := by decide +kernel
theorem dX9_as_10 : decode cX9_as 10 = .ok (.bipush 6, 2) := by decide +kernel
theorem dX9_as_12 : decode cX9_as 12 = .ok (.invokestatic 47, 3) := by decide +kernel
theorem dX9_as_15 : decode cX9_as 15 = .ok (.ifCond .ne 9, 3) := by decide +kernel
theorem dX9_as_18 : decode cX9_as 18 = .ok (.aload_n 0, 1) := by decide +kernel
theorem dX9_as_19 : decode cX9_as 19 = .ok (.iconst 1, 1) := by decide +kernel
theorem dX9_as_20 : decode cX9_as 20 = .ok (.invokevirtual 51, 3) := by decide +kernel
theorem dX9_as_23 : decode cX9_as 23 = .ok (.ireturn, 1) := by decide +kernel
theorem dX9_as_24 : decode cX9_as 24 = .ok (.aload_n 0, 1) := by decide +kernel
theorem dX9_as_25 : decode cX9_as 25 = .ok (.iload_n 1, 1) := by decide +kernel
theorem dX9_as_26 : decode cX9_as 26 = .ok (.iconst 0, 1) := by decide +kernel
theorem dX9_as_27 : decode cX9_as 27 = .ok (.invokevirtual 111, 3) := by decide +kernel
theorem dX9_as_30 : decode cX9_as 30 = .ok (.istore_n 3, 1) := by decide +kernel
theorem dX9_as_31 : decode cX9_as 31 = .ok (.iload_n 2, 1) := by decide +kernel
theorem dX9_as_32 : decode cX9_as 32 = .ok (.ifCond .eq 16, 3) := by decide +kernel
theorem dX9_as_35 : decode cX9_as 35 = .ok (.iload_n 3, 1) := by decide +kernel
theorem dX9_as_36 : decode cX9_as 36 = .ok (.iload_n 2, 1) := by decide +kernel
theorem dX9_as_37 : decode cX9_as 37 = .ok (.if_icmp .eq 11, 3) := by decide +kernel
theorem dX9_as_40 : decode cX9_as 40 = .ok (.iload_n 3, 1) := by decide +kernel
theorem dX9_as_41 : decode cX9_as 41 = .ok (.invokestatic 159, 3) := by decide +kernel
theorem dX9_as_44 : decode cX9_as 44 = .ok (.iload_n 2, 1) := by decide +kernel
theorem dX9_as_45 : decode cX9_as 45 = .ok (.if_icmp .ne 7, 3) := by decide +kernel
theorem dX9_as_48 : decode cX9_as 48 = .ok (.iconst 1, 1) := by decide +kernel
theorem dX9_as_49 : decode cX9_as 49 = .ok (.goto 4, 3) := by decide +kernel
theorem dX9_as_52 : decode cX9_as 52 = .ok (.iconst 0, 1) := by decide +kernel
theorem dX9_as_53 : decode cX9_as 53 = .ok (.istore 4, 2) := by decide +kernel
theorem dX9_as_55 : decode cX9_as 55 = .ok (.iload 4, 2) := by decide +kernel
theorem dX9_as_57 : decode cX9_as 57 = .ok (.ifCond .eq 12, 3) := by decide +kernel
theorem dX9_as_60 : decode cX9_as 60 = .ok (.aload_n 0, 1) := by decide +kernel
theorem dX9_as_61 : decode cX9_as 61 = .ok (.iload_n 1, 1) := by decide +kernel
theorem dX9_as_62 : decode cX9_as 62 = .ok (.iconst 1, 1) := by decide +kernel
theorem dX9_as_63 : decode cX9_as 63 = .ok (.invokevirtual 111, 3) := by decide +kernel
theorem dX9_as_66 : decode cX9_as 66 = .ok (.goto 8, 3) := by decide +kernel
theorem dX9_as_69 : decode cX9_as 69 = .ok (.aload_n 0, 1) := by decide +kernel
theorem dX9_as_70 : decode cX9_as 70 = .ok (.iconst 5, 1) := by decide +kernel
theorem dX9_as_71 : decode cX9_as 71 = .ok (.invokevirtual 51, 3) := by decide +kernel
theorem dX9_as_74 : decode cX9_as 74 = .ok (.ireturn, 1) := by decide +kernel
theorem dX9_past_0 : decode cX9_past 0 = .ok (.aload_n 0, 1) := by decide +kernel
theorem dX9_past_1 : decode cX9_past 1 = .ok (.iload_n 1, 1) := by decide +kernel
theorem dX9_past_2 : decode cX9_past 2 = .ok (.invokevirtual 156, 3) := by decide +kernel
theorem dX9_past_5 : decode cX9_past 5 = .ok (.ifCond .eq 28, 3) := by decide +kernel
theorem dX9_past_8 : decode cX9_past 8 = .ok (.iload_n 2, 1) := by decide +kernel
theorem dX9_past_9 : decode cX9_past 9 = .ok (.iconst 0, 1) := by decide +kernel
theorem dX9_past_10 : decode cX9_past 10 = .ok (.iconst 1, 1) := by decide +kernel
theorem dX9_past_11 : decode cX9_past 11 = .ok (.invokestatic 47, 3) := by decide +kernel
theorem dX9_past_14 : decode cX9_past 14 = .ok (.ifCond .eq 19, 3) := by decide +kernel
theorem dX9_past_17 : decode cX9_past 17 = .ok (.aload_n 0, 1) := by decide +kernel
theorem dX9_past_18 : decode cX9_past 18 = .ok (.bipush 9, 2) := by decide +kernel
theorem dX9_past_20 : decode cX9_past 20 = .ok (.iconst 5, 1) := by decide +kernel
theorem dX9_past_21 : decode cX9_past 21 = .ok (.iload_n 1, 1) := by decide +kernel
theorem dX9_past_22 : decode cX9_past 22 = .ok (.imul, 1) := by decide +kernel
theorem dX9_past_23 : decode cX9_past 23 = .ok (.iadd, 1) := by decide +kernel
theorem dX9_past_24 : decode cX9_past 24 = .ok (.iconst 4, 1) := by decide +kernel
theorem dX9_past_25 : decode cX9_past 25 = .ok (.iadd, 1) := by decide +kernel
theorem dX9_past_26 : decode cX9_past 26 = .ok (.iload_n 2, 1) := by decide +kernel
theorem dX9_past_27 : decode cX9_past 27 = .ok (.invokevirtual 162, 3) := by decide +kernel
theorem dX9_past_30 : decode cX9_past 30 = .ok (.goto 8, 3) := by decide +kernel
theorem dX9_past_33 : decode cX9_past 33 = .ok (.aload_n 0, 1) := by decide +kernel
theorem dX9_past_34 : decode cX9_past 34 = .ok (.iconst 1, 1) := by decide +kernel
theorem dX9_past_35 : decode cX9_past 35 = .ok (.invokevirtual 51, 3) := by decide +kernel
theorem dX9_past_38 : decode cX9_past 38 = .ok (.ireturn, 1) := by decide +kernel
theorem dX9_goes_0 : decode cX9_goes 0 = .ok (.aload_n 0, 1) := by decide +kernel
theorem dX9_goes_1 : decode cX9_goes 1 = .ok (.iload_n 1, 1) := by decide +kernel
theorem dX9_goes_2 : decode cX9_goes 2 = .ok (.invokevirtual 156, 3) := by decide +kernel
theorem dX9_goes_5 : decode cX9_goes 5 = .ok (.ifCond .eq 12, 3) := by decide +kernel
theorem dX9_goes_8 : decode cX9_goes 8 = .ok (.aload_n 0, 1) := by decide +kernel
theorem dX9_goes_9 : decode cX9_goes 9 = .ok (.iconst 4, 1) := by decide +kernel
theorem dX9_goes_10 : decode cX9_goes 10 = .ok (.iload_n 1, 1) := by decide +kernel
theorem dX9_goes_11 : decode cX9_goes 11 = .ok (.invokevirtual 162, 3) := by decide +kernel
theorem dX9_goes_14 : decode cX9_goes 14 = .ok (.goto 8, 3) := by decide +kernel
theorem dX9_goes_17 : decode cX9_goes 17 = .ok (.aload_n 0, 1) := by decide +kernel
theorem dX9_goes_18 : decode cX9_goes 18 = .ok (.iconst 1, 1) := by decide +kernel
theorem dX9_goes_19 : decode cX9_goes 19 = .ok (.invokevirtual 51, 3) := by decide +kernel
theorem dX9_goes_22 : decode cX9_goes 22 = .ok (.ireturn, 1) := by decide +kernel
theorem dX9_set_0 : decode cX9_set 0 = .ok (.iload_n 1, 1) := by decide +kernel
theorem dX9_set_1 : decode cX9_set 1 = .ok (.iconst 0, 1) := by decide +kernel
theorem dX9_set_2 : decode cX9_set 2 = .ok (.iconst 2, 1) := by decide +kernel
theorem dX9_set_3 : decode cX9_set 3 = .ok (.invokestatic 47, 3) := by decide +kernel
theorem dX9_set_6 : decode cX9_set 6 = .ok (.ifCond .eq 36, 3) := by decide +kernel
theorem dX9_set_9 : decode cX9_set 9 = .ok (.iload_n 2, 1) := by decide +kernel
theorem dX9_set_10 : decode cX9_set 10 = .ok (.iload_n 1, 1) := by decide +kernel
theorem dX9_set_11 : decode cX9_set 11 = .ok (.iconst 2, 1) := by decide +kernel
theorem dX9_set_12 : decode cX9_set 12 = .ok (.if_icmp .ne 7, 3) := by decide +kernel
theorem dX9_set_15 : decode cX9_set 15 = .ok (.iconst 1, 1) := by decide +kernel
theorem dX9_set_16 : decode cX9_set 16 = .ok (.goto 4, 3) := by decide +kernel
theorem dX9_set_19 : decode cX9_set 19 = .ok (.iconst 0, 1) := by decide +kernel
theorem dX9_set_20 : decode cX9_set 20 = .ok (.iload_n 1, 1) := by decide +kernel
theorem dX9_set_21 : decode cX9_set 21 = .ok (.iconst 2, 1) := by decide +kernel
theorem dX9_set_22 : decode cX9_set 22 = .ok (.if_icmp .ne 8, 3) := by decide +kernel
theorem dX9_set_25 : decode cX9_set 25 = .ok (.bipush 40, 2) := by decide +kernel
theorem dX9_set_27 : decode cX9_set 27 = .ok (.goto 5, 3) := by decide +kernel
theorem dX9_set_30 : decode cX9_set 30 = .ok (.bipush 99, 2) := by decide +kernel
theorem dX9_set_32 : decode cX9_set 32 = .ok (.invokestatic 47, 3) := by decide +kernel
theorem dX9_set_35 : decode cX9_set 35 = .ok (.ifCond .eq 7, 3) := by decide +kernel
theorem dX9_set_38 : decode cX9_set 38 = .ok (.iconst 1, 1) := by decide +kernel
theorem dX9_set_39 : decode cX9_set 39 = .ok (.goto 4, 3) := by decide +kernel
theorem dX9_set_42 : decode cX9_set 42 = .ok (.iconst 0, 1) := by decide +kernel
theorem dX9_set_43 : decode cX9_set 43 = .ok (.istore_n 3, 1) := by decide +kernel
theorem dX9_set_44 : decode cX9_set 44 = .ok (.iload_n 3, 1) := by decide +kernel
theorem dX9_set_45 : decode cX9_set 45 = .ok (.ifCond .eq 14, 3) := by decide +kernel
theorem dX9_set_48 : decode cX9_set 48 = .ok (.aload_n 0, 1) := by decide +kernel
theorem dX9_set_49 : decode cX9_set 49 = .ok (.iconst 1, 1) := by decide +kernel
theorem dX9_set_50 : decode cX9_set 50 = .ok (.iload_n 1, 1) := by decide +kernel
theorem dX9_set_51 : decode cX9_set 51 = .ok (.iadd, 1) := by decide +kernel
theorem dX9_set_52 : decode cX9_set 52 = .ok (.iload_n 2, 1) := by decide +kernel
theorem dX9_set_53 : decode cX9_set 53 = .ok (.invokevirtual 162, 3) := by decide +kernel
theorem dX9_set_56 : decode cX9_set 56 = .ok (.goto 8, 3) := by decide +kernel
theorem dX9_set_59 : decode cX9_set 59 = .ok (.aload_n 0, 1) := by decide +kernel
theorem dX9_set_60 : decode cX9_set 60 = .ok (.iconst 1, 1) := by decide +kernel
theorem dX9_set_61 : decode cX9_set 61 = .ok (.invokevirtual 51, 3) := by decide +kernel
theorem dX9_set_64 : decode cX9_set 64 = .ok (.ireturn, 1) := by decide +kernel
theorem dX9_hears_0 : decode cX9_hears 0 = .ok (.aload_n 0, 1) := by decide +kernel
theorem dX9_hears_1 : decode cX9_hears 1 = .ok (.iload_n 1, 1) := by decide +kernel
theorem dX9_hears_2 : decode cX9_hears 2 = .ok (.invokevirtual 156, 3) := by decide +kernel
theorem dX9_hears_5 : decode cX9_hears 5 = .ok (.ifCond .eq 30, 3) := by decide +kernel
theorem dX9_hears_8 : decode cX9_hears 8 = .ok (.iload_n 2, 1) := by decide +kernel
theorem dX9_hears_9 : decode cX9_hears 9 = .ok (.iconst 0, 1) := by decide +kernel
theorem dX9_hears_10 : decode cX9_hears 10 = .ok (.sipush 9999, 3) := by decide +kernel
theorem dX9_hears_13 : decode cX9_hears 13 = .ok (.invokestatic 47, 3) := by decide +kernel
theorem dX9_hears_16 : decode cX9_hears 16 = .ok (.ifCond .eq 19, 3) := by decide +kernel
theorem dX9_hears_19 : decode cX9_hears 19 = .ok (.aload_n 0, 1) := by decide +kernel
theorem dX9_hears_20 : decode cX9_hears 20 = .ok (.bipush 9, 2) := by decide +kernel
theorem dX9_hears_22 : decode cX9_hears 22 = .ok (.iconst 5, 1) := by decide +kernel
theorem dX9_hears_23 : decode cX9_hears 23 = .ok (.iload_n 1, 1) := by decide +kernel
theorem dX9_hears_24 : decode cX9_hears 24 = .ok (.imul, 1) := by decide +kernel
theorem dX9_hears_25 : decode cX9_hears 25 = .ok (.iadd, 1) := by decide +kernel
theorem dX9_hears_26 : decode cX9_hears 26 = .ok (.iconst 2, 1) := by decide +kernel
theorem dX9_hears_27 : decode cX9_hears 27 = .ok (.iadd, 1) := by decide +kernel
theorem dX9_hears_28 : decode cX9_hears 28 = .ok (.iload_n 2, 1) := by decide +kernel
theorem dX9_hears_29 : decode cX9_hears 29 = .ok (.invokevirtual 162, 3) := by decide +kernel
theorem dX9_hears_32 : decode cX9_hears 32 = .ok (.goto 8, 3) := by decide +kernel
theorem dX9_hears_35 : decode cX9_hears 35 = .ok (.aload_n 0, 1) := by decide +kernel
theorem dX9_hears_36 : decode cX9_hears 36 = .ok (.iconst 1, 1) := by decide +kernel
theorem dX9_hears_37 : decode cX9_hears 37 = .ok (.invokevirtual 51, 3) := by decide +kernel
theorem dX9_hears_40 : decode cX9_hears 40 = .ok (.ireturn, 1) := by decide +kernel
theorem dX9_law_0 : decode cX9_law 0 = .ok (.iload_n 1, 1) := by decide +kernel
theorem dX9_law_1 : decode cX9_law 1 = .ok (.iconst 0, 1) := by decide +kernel
theorem dX9_law_2 : decode cX9_law 2 = .ok (.iconst 1, 1) := by decide +kernel
theorem dX9_law_3 : decode cX9_law 3 = .ok (.invokestatic 47, 3) := by decide +kernel
theorem dX9_law_6 : decode cX9_law 6 = .ok (.ifCond .eq 15, 3) := by decide +kernel
theorem dX9_law_9 : decode cX9_law 9 = .ok (.aload_n 0, 1) := by decide +kernel
theorem dX9_law_10 : decode cX9_law 10 = .ok (.iload_n 1, 1) := by decide +kernel
theorem dX9_law_11 : decode cX9_law 11 = .ok (.iload_n 2, 1) := by decide +kernel
theorem dX9_law_12 : decode cX9_law 12 = .ok (.iload_n 3, 1) := by decide +kernel
theorem dX9_law_13 : decode cX9_law 13 = .ok (.iload 4, 2) := by decide +kernel
theorem dX9_law_15 : decode cX9_law 15 = .ok (.invokevirtual 127, 3) := by decide +kernel
theorem dX9_law_18 : decode cX9_law 18 = .ok (.goto 8, 3) := by decide +kernel
theorem dX9_law_21 : decode cX9_law 21 = .ok (.aload_n 0, 1) := by decide +kernel
theorem dX9_law_22 : decode cX9_law 22 = .ok (.iconst 1, 1) := by decide +kernel
theorem dX9_law_23 : decode cX9_law 23 = .ok (.invokevirtual 51, 3) := by decide +kernel
theorem dX9_law_26 : decode cX9_law 26 = .ok (.ireturn, 1) := by decide +kernel
theorem dX9_days_0 : decode cX9_days 0 = .ok (.iload_n 1, 1) := by decide +kernel
theorem dX9_days_1 : decode cX9_days 1 = .ok (.iconst 1, 1) := by decide +kernel
theorem dX9_days_2 : decode cX9_days 2 = .ok (.bipush 60, 2) := by decide +kernel
theorem dX9_days_4 : decode cX9_days 4 = .ok (.invokestatic 47, 3) := by decide +kernel
theorem dX9_days_7 : decode cX9_days 7 = .ok (.ifCond .ne 9, 3) := by decide +kernel
theorem dX9_days_10 : decode cX9_days 10 = .ok (.aload_n 0, 1) := by decide +kernel
theorem dX9_days_11 : decode cX9_days 11 = .ok (.iconst 1, 1) := by decide +kernel
theorem dX9_days_12 : decode cX9_days 12 = .ok (.invokevirtual 51, 3) := by decide +kernel
theorem dX9_days_15 : decode cX9_days 15 = .ok (.ireturn, 1) := by decide +kernel
theorem dX9_days_16 : decode cX9_days 16 = .ok (.aload_n 0, 1) := by decide +kernel
theorem dX9_days_17 : decode cX9_days 17 = .ok (.getfield 7, 3) := by decide +kernel
theorem dX9_days_20 : decode cX9_days 20 = .ok (.iconst 0, 1) := by decide +kernel
theorem dX9_days_21 : decode cX9_days 21 = .ok (.iaload, 1) := by decide +kernel
theorem dX9_days_22 : decode cX9_days 22 = .ok (.iload_n 1, 1) := by decide +kernel
theorem dX9_days_23 : decode cX9_days 23 = .ok (.iadd, 1) := by decide +kernel
theorem dX9_days_24 : decode cX9_days 24 = .ok (.sipush 9999, 3) := by decide +kernel
theorem dX9_days_27 : decode cX9_days 27 = .ok (.if_icmp .le 9, 3) := by decide +kernel
theorem dX9_days_30 : decode cX9_days 30 = .ok (.aload_n 0, 1) := by decide +kernel
theorem dX9_days_31 : decode cX9_days 31 = .ok (.iconst 3, 1) := by decide +kernel
theorem dX9_days_32 : decode cX9_days 32 = .ok (.invokevirtual 51, 3) := by decide +kernel
theorem dX9_days_35 : decode cX9_days 35 = .ok (.ireturn, 1) := by decide +kernel
theorem dX9_days_36 : decode cX9_days 36 = .ok (.aload_n 0, 1) := by decide +kernel
theorem dX9_days_37 : decode cX9_days 37 = .ok (.iload_n 1, 1) := by decide +kernel
theorem dX9_days_38 : decode cX9_days 38 = .ok (.invokevirtual 165, 3) := by decide +kernel
theorem dX9_days_41 : decode cX9_days 41 = .ok (.aload_n 0, 1) := by decide +kernel
theorem dX9_days_42 : decode cX9_days 42 = .ok (.getfield 7, 3) := by decide +kernel
theorem dX9_days_45 : decode cX9_days 45 = .ok (.iconst 1, 1) := by decide +kernel
theorem dX9_days_46 : decode cX9_days 46 = .ok (.iaload, 1) := by decide +kernel
theorem dX9_days_47 : decode cX9_days 47 = .ok (.ireturn, 1) := by decide +kernel
theorem dX9_loose_0 : decode cX9_loose 0 = .ok (.iload_n 1, 1) := by decide +kernel
theorem dX9_loose_1 : decode cX9_loose 1 = .ok (.iconst 1, 1) := by decide +kernel
theorem dX9_loose_2 : decode cX9_loose 2 = .ok (.bipush 30, 2) := by decide +kernel
theorem dX9_loose_4 : decode cX9_loose 4 = .ok (.invokestatic 47, 3) := by decide +kernel
theorem dX9_loose_7 : decode cX9_loose 7 = .ok (.ifCond .ne 9, 3) := by decide +kernel
theorem dX9_loose_10 : decode cX9_loose 10 = .ok (.aload_n 0, 1) := by decide +kernel
theorem dX9_loose_11 : decode cX9_loose 11 = .ok (.iconst 1, 1) := by decide +kernel
theorem dX9_loose_12 : decode cX9_loose 12 = .ok (.invokevirtual 51, 3) := by decide +kernel
theorem dX9_loose_15 : decode cX9_loose 15 = .ok (.ireturn, 1) := by decide +kernel
theorem dX9_loose_16 : decode cX9_loose 16 = .ok (.aload_n 0, 1) := by decide +kernel
theorem dX9_loose_17 : decode cX9_loose 17 = .ok (.getfield 7, 3) := by decide +kernel
theorem dX9_loose_20 : decode cX9_loose 20 = .ok (.iconst 0, 1) := by decide +kernel
theorem dX9_loose_21 : decode cX9_loose 21 = .ok (.iaload, 1) := by decide +kernel
theorem dX9_loose_22 : decode cX9_loose 22 = .ok (.iload_n 1, 1) := by decide +kernel
theorem dX9_loose_23 : decode cX9_loose 23 = .ok (.iadd, 1) := by decide +kernel
theorem dX9_loose_24 : decode cX9_loose 24 = .ok (.sipush 9999, 3) := by decide +kernel
theorem dX9_loose_27 : decode cX9_loose 27 = .ok (.if_icmp .le 9, 3) := by decide +kernel
theorem dX9_loose_30 : decode cX9_loose 30 = .ok (.aload_n 0, 1) := by decide +kernel
theorem dX9_loose_31 : decode cX9_loose 31 = .ok (.iconst 3, 1) := by decide +kernel
theorem dX9_loose_32 : decode cX9_loose 32 = .ok (.invokevirtual 51, 3) := by decide +kernel
theorem dX9_loose_35 : decode cX9_loose 35 = .ok (.ireturn, 1) := by decide +kernel
theorem dX9_loose_36 : decode cX9_loose 36 = .ok (.iconst 0, 1) := by decide +kernel
theorem dX9_loose_37 : decode cX9_loose 37 = .ok (.istore_n 2, 1) := by decide +kernel
theorem dX9_loose_38 : decode cX9_loose 38 = .ok (.iload_n 2, 1) := by decide +kernel
theorem dX9_loose_39 : decode cX9_loose 39 = .ok (.iload_n 1, 1) := by decide +kernel
theorem dX9_loose_40 : decode cX9_loose 40 = .ok (.if_icmp .ge 65, 3) := by decide +kernel
theorem dX9_loose_43 : decode cX9_loose 43 = .ok (.aload_n 0, 1) := by decide +kernel
theorem dX9_loose_44 : decode cX9_loose 44 = .ok (.getfield 7, 3) := by decide +kernel
theorem dX9_loose_47 : decode cX9_loose 47 = .ok (.bipush 8, 2) := by decide +kernel
theorem dX9_loose_49 : decode cX9_loose 49 = .ok (.iaload, 1) := by decide +kernel
theorem dX9_loose_50 : decode cX9_loose 50 = .ok (.ifCond .le 45, 3) := by decide +kernel
theorem dX9_loose_53 : decode cX9_loose 53 = .ok (.aload_n 0, 1) := by decide +kernel
theorem dX9_loose_54 : decode cX9_loose 54 = .ok (.getfield 7, 3) := by decide +kernel
theorem dX9_loose_57 : decode cX9_loose 57 = .ok (.iconst 5, 1) := by decide +kernel
theorem dX9_loose_58 : decode cX9_loose 58 = .ok (.aload_n 0, 1) := by decide +kernel
theorem dX9_loose_59 : decode cX9_loose 59 = .ok (.getfield 7, 3) := by decide +kernel
theorem dX9_loose_62 : decode cX9_loose 62 = .ok (.iconst 5, 1) := by decide +kernel
theorem dX9_loose_63 : decode cX9_loose 63 = .ok (.iaload, 1) := by decide +kernel
theorem dX9_loose_64 : decode cX9_loose 64 = .ok (.ldc 169, 2) := by decide +kernel
theorem dX9_loose_66 : decode cX9_loose 66 = .ok (.imul, 1) := by decide +kernel
theorem dX9_loose_67 : decode cX9_loose 67 = .ok (.sipush 12345, 3) := by decide +kernel
theorem dX9_loose_70 : decode cX9_loose 70 = .ok (.iadd, 1) := by decide +kernel
theorem dX9_loose_71 : decode cX9_loose 71 = .ok (.iastore, 1) := by decide +kernel
theorem dX9_loose_72 : decode cX9_loose 72 = .ok (.aload_n 0, 1) := by decide +kernel
theorem dX9_loose_73 : decode cX9_loose 73 = .ok (.getfield 7, 3) := by decide +kernel
theorem dX9_loose_76 : decode cX9_loose 76 = .ok (.iconst 4, 1) := by decide +kernel
theorem dX9_loose_77 : decode cX9_loose 77 = .ok (.aload_n 0, 1) := by decide +kernel
theorem dX9_loose_78 : decode cX9_loose 78 = .ok (.getfield 7, 3) := by decide +kernel
theorem dX9_loose_81 : decode cX9_loose 81 = .ok (.iconst 5, 1) := by decide +kernel
theorem dX9_loose_82 : decode cX9_loose 82 = .ok (.iaload, 1) := by decide +kernel
theorem dX9_loose_83 : decode cX9_loose 83 = .ok (.bipush 8, 2) := by decide +kernel
theorem dX9_loose_85 : decode cX9_loose 85 = .ok (.iushr, 1) := by decide +kernel
theorem dX9_loose_86 : decode cX9_loose 86 = .ok (.aload_n 0, 1) := by decide +kernel
theorem dX9_loose_87 : decode cX9_loose 87 = .ok (.getfield 7, 3) := by decide +kernel
theorem dX9_loose_90 : decode cX9_loose 90 = .ok (.bipush 8, 2) := by decide +kernel
theorem dX9_loose_92 : decode cX9_loose 92 = .ok (.iaload, 1) := by decide +kernel
theorem dX9_loose_93 : decode cX9_loose 93 = .ok (.irem, 1) := by decide +kernel
theorem dX9_loose_94 : decode cX9_loose 94 = .ok (.iastore, 1) := by decide +kernel
theorem dX9_loose_95 : decode cX9_loose 95 = .ok (.aload_n 0, 1) := by decide +kernel
theorem dX9_loose_96 : decode cX9_loose 96 = .ok (.invokevirtual 150, 3) := by decide +kernel
theorem dX9_loose_99 : decode cX9_loose 99 = .ok (.iinc 2 1, 3) := by decide +kernel
theorem dX9_loose_102 : decode cX9_loose 102 = .ok (.goto (-64), 3) := by decide +kernel
theorem dX9_loose_105 : decode cX9_loose 105 = .ok (.aload_n 0, 1) := by decide +kernel
theorem dX9_loose_106 : decode cX9_loose 106 = .ok (.getfield 7, 3) := by decide +kernel
theorem dX9_loose_109 : decode cX9_loose 109 = .ok (.iconst 1, 1) := by decide +kernel
theorem dX9_loose_110 : decode cX9_loose 110 = .ok (.iaload, 1) := by decide +kernel
theorem dX9_loose_111 : decode cX9_loose 111 = .ok (.ireturn, 1) := by decide +kernel
theorem dX9_day_0 : decode cX9_day 0 = .ok (.iload_n 1, 1) := by decide +kernel
end
section
theorem dX9_day_1 : decode cX9_day 1 = .ok (.iconst 0, 1) := by decide +kernel
theorem dX9_day_2 : decode cX9_day 2 = .ok (.sipush 9999, 3) := by decide +kernel
theorem dX9_day_5 : decode cX9_day 5 = .ok (.invokestatic 47, 3) := by decide +kernel
theorem dX9_day_8 : decode cX9_day 8 = .ok (.ifCond .eq 12, 3) := by decide +kernel
theorem dX9_day_11 : decode cX9_day 11 = .ok (.aload_n 0, 1) := by decide +kernel
theorem dX9_day_12 : decode cX9_day 12 = .ok (.iconst 0, 1) := by decide +kernel
theorem dX9_day_13 : decode cX9_day 13 = .ok (.iload_n 1, 1) := by decide +kernel
theorem dX9_day_14 : decode cX9_day 14 = .ok (.invokevirtual 162, 3) := by decide +kernel
theorem dX9_day_17 : decode cX9_day 17 = .ok (.goto 8, 3) := by decide +kernel
theorem dX9_day_20 : decode cX9_day 20 = .ok (.aload_n 0, 1) := by decide +kernel
theorem dX9_day_21 : decode cX9_day 21 = .ok (.iconst 1, 1) := by decide +kernel
theorem dX9_day_22 : decode cX9_day 22 = .ok (.invokevirtual 51, 3) := by decide +kernel
theorem dX9_day_25 : decode cX9_day 25 = .ok (.ireturn, 1) := by decide +kernel
theorem dX9_seed_0 : decode cX9_seed 0 = .ok (.aload_n 0, 1) := by decide +kernel
theorem dX9_seed_1 : decode cX9_seed 1 = .ok (.iconst 5, 1) := by decide +kernel
theorem dX9_seed_2 : decode cX9_seed 2 = .ok (.iload_n 1, 1) := by decide +kernel
theorem dX9_seed_3 : decode cX9_seed 3 = .ok (.invokevirtual 162, 3) := by decide +kernel
theorem dX9_seed_6 : decode cX9_seed 6 = .ok (.ireturn, 1) := by decide +kernel
theorem dX9_then_0 : decode cX9_then 0 = .ok (.iload_n 1, 1) := by decide +kernel
theorem dX9_then_1 : decode cX9_then 1 = .ok (.iconst 0, 1) := by decide +kernel
theorem dX9_then_2 : decode cX9_then 2 = .ok (.bipush 60, 2) := by decide +kernel
theorem dX9_then_4 : decode cX9_then 4 = .ok (.invokestatic 47, 3) := by decide +kernel
theorem dX9_then_7 : decode cX9_then 7 = .ok (.ifCond .eq 12, 3) := by decide +kernel
theorem dX9_then_10 : decode cX9_then 10 = .ok (.iload_n 2, 1) := by decide +kernel
theorem dX9_then_11 : decode cX9_then 11 = .ok (.iconst 0, 1) := by decide +kernel
theorem dX9_then_12 : decode cX9_then 12 = .ok (.iconst 3, 1) := by decide +kernel
theorem dX9_then_13 : decode cX9_then 13 = .ok (.invokestatic 47, 3) := by decide +kernel
theorem dX9_then_16 : decode cX9_then 16 = .ok (.ifCond .ne 9, 3) := by decide +kernel
theorem dX9_then_19 : decode cX9_then 19 = .ok (.aload_n 0, 1) := by decide +kernel
theorem dX9_then_20 : decode cX9_then 20 = .ok (.iconst 1, 1) := by decide +kernel
theorem dX9_then_21 : decode cX9_then 21 = .ok (.invokevirtual 51, 3) := by decide +kernel
theorem dX9_then_24 : decode cX9_then 24 = .ok (.ireturn, 1) := by decide +kernel
theorem dX9_then_25 : decode cX9_then 25 = .ok (.aload_n 0, 1) := by decide +kernel
theorem dX9_then_26 : decode cX9_then 26 = .ok (.invokevirtual 170, 3) := by decide +kernel
theorem dX9_then_29 : decode cX9_then 29 = .ok (.aload_n 0, 1) := by decide +kernel
theorem dX9_then_30 : decode cX9_then 30 = .ok (.iload_n 1, 1) := by decide +kernel
theorem dX9_then_31 : decode cX9_then 31 = .ok (.invokevirtual 165, 3) := by decide +kernel
theorem dX9_then_34 : decode cX9_then 34 = .ok (.iload_n 2, 1) := by decide +kernel
theorem dX9_then_35 : decode cX9_then 35 = .ok (.ifCond .ne 12, 3) := by decide +kernel
theorem dX9_then_38 : decode cX9_then 38 = .ok (.aload_n 0, 1) := by decide +kernel
theorem dX9_then_39 : decode cX9_then 39 = .ok (.getfield 7, 3) := by decide +kernel
theorem dX9_then_42 : decode cX9_then 42 = .ok (.iconst 1, 1) := by decide +kernel
theorem dX9_then_43 : decode cX9_then 43 = .ok (.iaload, 1) := by decide +kernel
theorem dX9_then_44 : decode cX9_then 44 = .ok (.goto 35, 3) := by decide +kernel
theorem dX9_then_47 : decode cX9_then 47 = .ok (.iload_n 2, 1) := by decide +kernel
theorem dX9_then_48 : decode cX9_then 48 = .ok (.iconst 1, 1) := by decide +kernel
theorem dX9_then_49 : decode cX9_then 49 = .ok (.if_icmp .ne 12, 3) := by decide +kernel
theorem dX9_then_52 : decode cX9_then 52 = .ok (.aload_n 0, 1) := by decide +kernel
theorem dX9_then_53 : decode cX9_then 53 = .ok (.getfield 7, 3) := by decide +kernel
theorem dX9_then_56 : decode cX9_then 56 = .ok (.iconst 2, 1) := by decide +kernel
theorem dX9_then_57 : decode cX9_then 57 = .ok (.iaload, 1) := by decide +kernel
theorem dX9_then_58 : decode cX9_then 58 = .ok (.goto 21, 3) := by decide +kernel
theorem dX9_then_61 : decode cX9_then 61 = .ok (.iload_n 2, 1) := by decide +kernel
theorem dX9_then_62 : decode cX9_then 62 = .ok (.iconst 2, 1) := by decide +kernel
theorem dX9_then_63 : decode cX9_then 63 = .ok (.if_icmp .ne 12, 3) := by decide +kernel
theorem dX9_then_66 : decode cX9_then 66 = .ok (.aload_n 0, 1) := by decide +kernel
theorem dX9_then_67 : decode cX9_then 67 = .ok (.getfield 7, 3) := by decide +kernel
theorem dX9_then_70 : decode cX9_then 70 = .ok (.iconst 4, 1) := by decide +kernel
theorem dX9_then_71 : decode cX9_then 71 = .ok (.iaload, 1) := by decide +kernel
theorem dX9_then_72 : decode cX9_then 72 = .ok (.goto 7, 3) := by decide +kernel
theorem dX9_then_75 : decode cX9_then 75 = .ok (.aload_n 0, 1) := by decide +kernel
theorem dX9_then_76 : decode cX9_then 76 = .ok (.invokevirtual 173, 3) := by decide +kernel
theorem dX9_then_79 : decode cX9_then 79 = .ok (.istore_n 3, 1) := by decide +kernel
theorem dX9_then_80 : decode cX9_then 80 = .ok (.aload_n 0, 1) := by decide +kernel
theorem dX9_then_81 : decode cX9_then 81 = .ok (.invokevirtual 176, 3) := by decide +kernel
theorem dX9_then_84 : decode cX9_then 84 = .ok (.iload_n 3, 1) := by decide +kernel
theorem dX9_then_85 : decode cX9_then 85 = .ok (.ireturn, 1) := by decide +kernel
theorem dX9_soonest_0 : decode cX9_soonest 0 = .ok (.aload_n 0, 1) := by decide +kernel
theorem dX9_soonest_1 : decode cX9_soonest 1 = .ok (.iload_n 1, 1) := by decide +kernel
theorem dX9_soonest_2 : decode cX9_soonest 2 = .ok (.invokevirtual 156, 3) := by decide +kernel
theorem dX9_soonest_5 : decode cX9_soonest 5 = .ok (.ifCond .eq 14, 3) := by decide +kernel
theorem dX9_soonest_8 : decode cX9_soonest 8 = .ok (.iload_n 2, 1) := by decide +kernel
theorem dX9_soonest_9 : decode cX9_soonest 9 = .ok (.iconst 0, 1) := by decide +kernel
theorem dX9_soonest_10 : decode cX9_soonest 10 = .ok (.sipush 9999, 3) := by decide +kernel
theorem dX9_soonest_13 : decode cX9_soonest 13 = .ok (.invokestatic 47, 3) := by decide +kernel
theorem dX9_soonest_16 : decode cX9_soonest 16 = .ok (.ifCond .ne 9, 3) := by decide +kernel
theorem dX9_soonest_19 : decode cX9_soonest 19 = .ok (.aload_n 0, 1) := by decide +kernel
theorem dX9_soonest_20 : decode cX9_soonest 20 = .ok (.iconst 1, 1) := by decide +kernel
theorem dX9_soonest_21 : decode cX9_soonest 21 = .ok (.invokevirtual 51, 3) := by decide +kernel
theorem dX9_soonest_24 : decode cX9_soonest 24 = .ok (.ireturn, 1) := by decide +kernel
theorem dX9_soonest_25 : decode cX9_soonest 25 = .ok (.aload_n 0, 1) := by decide +kernel
theorem dX9_soonest_26 : decode cX9_soonest 26 = .ok (.invokevirtual 170, 3) := by decide +kernel
theorem dX9_soonest_29 : decode cX9_soonest 29 = .ok (.iconst 0, 1) := by decide +kernel
theorem dX9_soonest_30 : decode cX9_soonest 30 = .ok (.istore_n 3, 1) := by decide +kernel
theorem dX9_soonest_31 : decode cX9_soonest 31 = .ok (.iload_n 3, 1) := by decide +kernel
theorem dX9_soonest_32 : decode cX9_soonest 32 = .ok (.bipush 60, 2) := by decide +kernel
theorem dX9_soonest_34 : decode cX9_soonest 34 = .ok (.if_icmp .gt 23, 3) := by decide +kernel
theorem dX9_soonest_37 : decode cX9_soonest 37 = .ok (.aload_n 0, 1) := by decide +kernel
theorem dX9_soonest_38 : decode cX9_soonest 38 = .ok (.iload_n 1, 1) := by decide +kernel
theorem dX9_soonest_39 : decode cX9_soonest 39 = .ok (.iconst 2, 1) := by decide +kernel
theorem dX9_soonest_40 : decode cX9_soonest 40 = .ok (.invokevirtual 111, 3) := by decide +kernel
theorem dX9_soonest_43 : decode cX9_soonest 43 = .ok (.iload_n 2, 1) := by decide +kernel
theorem dX9_soonest_44 : decode cX9_soonest 44 = .ok (.if_icmp .ge 13, 3) := by decide +kernel
theorem dX9_soonest_47 : decode cX9_soonest 47 = .ok (.aload_n 0, 1) := by decide +kernel
theorem dX9_soonest_48 : decode cX9_soonest 48 = .ok (.invokevirtual 150, 3) := by decide +kernel
theorem dX9_soonest_51 : decode cX9_soonest 51 = .ok (.iinc 3 1, 3) := by decide +kernel
theorem dX9_soonest_54 : decode cX9_soonest 54 = .ok (.goto (-23), 3) := by decide +kernel
theorem dX9_soonest_57 : decode cX9_soonest 57 = .ok (.aload_n 0, 1) := by decide +kernel
theorem dX9_soonest_58 : decode cX9_soonest 58 = .ok (.invokevirtual 176, 3) := by decide +kernel
theorem dX9_soonest_61 : decode cX9_soonest 61 = .ok (.iload_n 3, 1) := by decide +kernel
theorem dX9_soonest_62 : decode cX9_soonest 62 = .ok (.bipush 60, 2) := by decide +kernel
theorem dX9_soonest_64 : decode cX9_soonest 64 = .ok (.if_icmp .le 11, 3) := by decide +kernel
theorem dX9_soonest_67 : decode cX9_soonest 67 = .ok (.aload_n 0, 1) := by decide +kernel
theorem dX9_soonest_68 : decode cX9_soonest 68 = .ok (.iconst 2, 1) := by decide +kernel
theorem dX9_soonest_69 : decode cX9_soonest 69 = .ok (.invokevirtual 51, 3) := by decide +kernel
theorem dX9_soonest_72 : decode cX9_soonest 72 = .ok (.goto 4, 3) := by decide +kernel
theorem dX9_soonest_75 : decode cX9_soonest 75 = .ok (.iload_n 3, 1) := by decide +kernel
theorem dX9_soonest_76 : decode cX9_soonest 76 = .ok (.ireturn, 1) := by decide +kernel
theorem dX9_isAsked_0 : decode cX9_isAsked 0 = .ok (.iload_n 0, 1) := by decide +kernel
theorem dX9_isAsked_1 : decode cX9_isAsked 1 = .ok (.iconst 0, 1) := by decide +kernel
theorem dX9_isAsked_2 : decode cX9_isAsked 2 = .ok (.bipush 40, 2) := by decide +kernel
theorem dX9_isAsked_4 : decode cX9_isAsked 4 = .ok (.invokestatic 47, 3) := by decide +kernel
theorem dX9_isAsked_7 : decode cX9_isAsked 7 = .ok (.ifCond .eq 16, 3) := by decide +kernel
theorem dX9_isAsked_10 : decode cX9_isAsked 10 = .ok (.iload_n 1, 1) := by decide +kernel
theorem dX9_isAsked_11 : decode cX9_isAsked 11 = .ok (.iconst 0, 1) := by decide +kernel
theorem dX9_isAsked_12 : decode cX9_isAsked 12 = .ok (.iconst 1, 1) := by decide +kernel
theorem dX9_isAsked_13 : decode cX9_isAsked 13 = .ok (.invokestatic 47, 3) := by decide +kernel
theorem dX9_isAsked_16 : decode cX9_isAsked 16 = .ok (.ifCond .eq 7, 3) := by decide +kernel
theorem dX9_isAsked_19 : decode cX9_isAsked 19 = .ok (.iconst 1, 1) := by decide +kernel
theorem dX9_isAsked_20 : decode cX9_isAsked 20 = .ok (.goto 4, 3) := by decide +kernel
theorem dX9_isAsked_23 : decode cX9_isAsked 23 = .ok (.iconst 0, 1) := by decide +kernel
theorem dX9_isAsked_24 : decode cX9_isAsked 24 = .ok (.ireturn, 1) := by decide +kernel
theorem dX9_startFor_0 : decode cX9_startFor 0 = .ok (.aload_n 0, 1) := by decide +kernel
theorem dX9_startFor_1 : decode cX9_startFor 1 = .ok (.iload_n 1, 1) := by decide +kernel
theorem dX9_startFor_2 : decode cX9_startFor 2 = .ok (.invokevirtual 156, 3) := by decide +kernel
theorem dX9_startFor_5 : decode cX9_startFor 5 = .ok (.ifCond .eq 11, 3) := by decide +kernel
theorem dX9_startFor_8 : decode cX9_startFor 8 = .ok (.iload_n 2, 1) := by decide +kernel
theorem dX9_startFor_9 : decode cX9_startFor 9 = .ok (.iload_n 3, 1) := by decide +kernel
theorem dX9_startFor_10 : decode cX9_startFor 10 = .ok (.invokestatic 179, 3) := by decide +kernel
theorem dX9_startFor_13 : decode cX9_startFor 13 = .ok (.ifCond .ne 9, 3) := by decide +kernel
theorem dX9_startFor_16 : decode cX9_startFor 16 = .ok (.aload_n 0, 1) := by decide +kernel
theorem dX9_startFor_17 : decode cX9_startFor 17 = .ok (.iconst 1, 1) := by decide +kernel
theorem dX9_startFor_18 : decode cX9_startFor 18 = .ok (.invokevirtual 51, 3) := by decide +kernel
theorem dX9_startFor_21 : decode cX9_startFor 21 = .ok (.ireturn, 1) := by decide +kernel
theorem dX9_startFor_22 : decode cX9_startFor 22 = .ok (.iconst 0, 1) := by decide +kernel
theorem dX9_startFor_23 : decode cX9_startFor 23 = .ok (.istore 4, 2) := by decide +kernel
theorem dX9_startFor_25 : decode cX9_startFor 25 = .ok (.iconst (-1), 1) := by decide +kernel
theorem dX9_startFor_26 : decode cX9_startFor 26 = .ok (.istore 5, 2) := by decide +kernel
theorem dX9_startFor_28 : decode cX9_startFor 28 = .ok (.aload_n 0, 1) := by decide +kernel
theorem dX9_startFor_29 : decode cX9_startFor 29 = .ok (.invokevirtual 170, 3) := by decide +kernel
theorem dX9_startFor_32 : decode cX9_startFor 32 = .ok (.iconst 0, 1) := by decide +kernel
theorem dX9_startFor_33 : decode cX9_startFor 33 = .ok (.istore 6, 2) := by decide +kernel
theorem dX9_startFor_35 : decode cX9_startFor 35 = .ok (.iload 6, 2) := by decide +kernel
theorem dX9_startFor_37 : decode cX9_startFor 37 = .ok (.aload_n 0, 1) := by decide +kernel
theorem dX9_startFor_38 : decode cX9_startFor 38 = .ok (.getfield 7, 3) := by decide +kernel
theorem dX9_startFor_41 : decode cX9_startFor 41 = .ok (.bipush 8, 2) := by decide +kernel
theorem dX9_startFor_43 : decode cX9_startFor 43 = .ok (.iaload, 1) := by decide +kernel
theorem dX9_startFor_44 : decode cX9_startFor 44 = .ok (.if_icmp .ge 66, 3) := by decide +kernel
theorem dX9_startFor_47 : decode cX9_startFor 47 = .ok (.aload_n 0, 1) := by decide +kernel
theorem dX9_startFor_48 : decode cX9_startFor 48 = .ok (.getfield 7, 3) := by decide +kernel
theorem dX9_startFor_51 : decode cX9_startFor 51 = .ok (.iconst 4, 1) := by decide +kernel
theorem dX9_startFor_52 : decode cX9_startFor 52 = .ok (.iload 6, 2) := by decide +kernel
theorem dX9_startFor_54 : decode cX9_startFor 54 = .ok (.iastore, 1) := by decide +kernel
theorem dX9_startFor_55 : decode cX9_startFor 55 = .ok (.aload_n 0, 1) := by decide +kernel
theorem dX9_startFor_56 : decode cX9_startFor 56 = .ok (.iload_n 2, 1) := by decide +kernel
theorem dX9_startFor_57 : decode cX9_startFor 57 = .ok (.invokevirtual 165, 3) := by decide +kernel
theorem dX9_startFor_60 : decode cX9_startFor 60 = .ok (.aload_n 0, 1) := by decide +kernel
theorem dX9_startFor_61 : decode cX9_startFor 61 = .ok (.iload_n 1, 1) := by decide +kernel
theorem dX9_startFor_62 : decode cX9_startFor 62 = .ok (.iconst 2, 1) := by decide +kernel
theorem dX9_startFor_63 : decode cX9_startFor 63 = .ok (.invokevirtual 111, 3) := by decide +kernel
theorem dX9_startFor_66 : decode cX9_startFor 66 = .ok (.istore 7, 2) := by decide +kernel
theorem dX9_startFor_68 : decode cX9_startFor 68 = .ok (.aload_n 0, 1) := by decide +kernel
theorem dX9_startFor_69 : decode cX9_startFor 69 = .ok (.invokevirtual 176, 3) := by decide +kernel
theorem dX9_startFor_72 : decode cX9_startFor 72 = .ok (.iload 7, 2) := by decide +kernel
theorem dX9_startFor_74 : decode cX9_startFor 74 = .ok (.iload 5, 2) := by decide +kernel
theorem dX9_startFor_76 : decode cX9_startFor 76 = .ok (.if_icmp .le 8, 3) := by decide +kernel
theorem dX9_startFor_79 : decode cX9_startFor 79 = .ok (.iload 6, 2) := by decide +kernel
theorem dX9_startFor_81 : decode cX9_startFor 81 = .ok (.goto 5, 3) := by decide +kernel
theorem dX9_startFor_84 : decode cX9_startFor 84 = .ok (.iload 4, 2) := by decide +kernel
theorem dX9_startFor_86 : decode cX9_startFor 86 = .ok (.istore 4, 2) := by decide +kernel
theorem dX9_startFor_88 : decode cX9_startFor 88 = .ok (.iload 7, 2) := by decide +kernel
theorem dX9_startFor_90 : decode cX9_startFor 90 = .ok (.iload 5, 2) := by decide +kernel
theorem dX9_startFor_92 : decode cX9_startFor 92 = .ok (.if_icmp .le 8, 3) := by decide +kernel
theorem dX9_startFor_95 : decode cX9_startFor 95 = .ok (.iload 7, 2) := by decide +kernel
theorem dX9_startFor_97 : decode cX9_startFor 97 = .ok (.goto 5, 3) := by decide +kernel
theorem dX9_startFor_100 : decode cX9_startFor 100 = .ok (.iload 5, 2) := by decide +kernel
theorem dX9_startFor_102 : decode cX9_startFor 102 = .ok (.istore 5, 2) := by decide +kernel
theorem dX9_startFor_104 : decode cX9_startFor 104 = .ok (.iinc 6 1, 3) := by decide +kernel
theorem dX9_startFor_107 : decode cX9_startFor 107 = .ok (.goto (-72), 3) := by decide +kernel
theorem dX9_startFor_110 : decode cX9_startFor 110 = .ok (.iload_n 3, 1) := by decide +kernel
theorem dX9_startFor_111 : decode cX9_startFor 111 = .ok (.ifCond .ne 8, 3) := by decide +kernel
theorem dX9_startFor_114 : decode cX9_startFor 114 = .ok (.iload 4, 2) := by decide +kernel
theorem dX9_startFor_116 : decode cX9_startFor 116 = .ok (.goto 5, 3) := by decide +kernel
theorem dX9_startFor_119 : decode cX9_startFor 119 = .ok (.iload 5, 2) := by decide +kernel
theorem dX9_startFor_121 : decode cX9_startFor 121 = .ok (.ireturn, 1) := by decide +kernel
theorem dX9_changePlaces_0 : decode cX9_changePlaces 0 = .ok (.iconst 0, 1) := by decide +kernel
theorem dX9_changePlaces_1 : decode cX9_changePlaces 1 = .ok (.istore_n 3, 1) := by decide +kernel
theorem dX9_changePlaces_2 : decode cX9_changePlaces 2 = .ok (.iload_n 3, 1) := by decide +kernel
theorem dX9_changePlaces_3 : decode cX9_changePlaces 3 = .ok (.iconst 5, 1) := by decide +kernel
theorem dX9_changePlaces_4 : decode cX9_changePlaces 4 = .ok (.if_icmp .ge 37, 3) := by decide +kernel
theorem dX9_changePlaces_7 : decode cX9_changePlaces 7 = .ok (.aload_n 0, 1) := by decide +kernel
theorem dX9_changePlaces_8 : decode cX9_changePlaces 8 = .ok (.iload_n 1, 1) := by decide +kernel
theorem dX9_changePlaces_9 : decode cX9_changePlaces 9 = .ok (.iload_n 3, 1) := by decide +kernel
theorem dX9_changePlaces_10 : decode cX9_changePlaces 10 = .ok (.invokevirtual 111, 3) := by decide +kernel
theorem dX9_changePlaces_13 : decode cX9_changePlaces 13 = .ok (.istore 4, 2) := by decide +kernel
theorem dX9_changePlaces_15 : decode cX9_changePlaces 15 = .ok (.aload_n 0, 1) := by decide +kernel
theorem dX9_changePlaces_16 : decode cX9_changePlaces 16 = .ok (.iload_n 1, 1) := by decide +kernel
theorem dX9_changePlaces_17 : decode cX9_changePlaces 17 = .ok (.iload_n 3, 1) := by decide +kernel
theorem dX9_changePlaces_18 : decode cX9_changePlaces 18 = .ok (.aload_n 0, 1) := by decide +kernel
theorem dX9_changePlaces_19 : decode cX9_changePlaces 19 = .ok (.iload_n 2, 1) := by decide +kernel
theorem dX9_changePlaces_20 : decode cX9_changePlaces 20 = .ok (.iload_n 3, 1) := by decide +kernel
theorem dX9_changePlaces_21 : decode cX9_changePlaces 21 = .ok (.invokevirtual 111, 3) := by decide +kernel
theorem dX9_changePlaces_24 : decode cX9_changePlaces 24 = .ok (.invokevirtual 143, 3) := by decide +kernel
theorem dX9_changePlaces_27 : decode cX9_changePlaces 27 = .ok (.aload_n 0, 1) := by decide +kernel
theorem dX9_changePlaces_28 : decode cX9_changePlaces 28 = .ok (.iload_n 2, 1) := by decide +kernel
theorem dX9_changePlaces_29 : decode cX9_changePlaces 29 = .ok (.iload_n 3, 1) := by decide +kernel
theorem dX9_changePlaces_30 : decode cX9_changePlaces 30 = .ok (.iload 4, 2) := by decide +kernel
theorem dX9_changePlaces_32 : decode cX9_changePlaces 32 = .ok (.invokevirtual 143, 3) := by decide +kernel
theorem dX9_changePlaces_35 : decode cX9_changePlaces 35 = .ok (.iinc 3 1, 3) := by decide +kernel
theorem dX9_changePlaces_38 : decode cX9_changePlaces 38 = .ok (.goto (-36), 3) := by decide +kernel
theorem dX9_changePlaces_41 : decode cX9_changePlaces 41 = .ok (.return_, 1) := by decide +kernel
theorem dX9_swapFor_0 : decode cX9_swapFor 0 = .ok (.iload_n 1, 1) := by decide +kernel
theorem dX9_swapFor_1 : decode cX9_swapFor 1 = .ok (.iload_n 2, 1) := by decide +kernel
theorem dX9_swapFor_2 : decode cX9_swapFor 2 = .ok (.invokestatic 179, 3) := by decide +kernel
theorem dX9_swapFor_5 : decode cX9_swapFor 5 = .ok (.ifCond .ne 9, 3) := by decide +kernel
theorem dX9_swapFor_8 : decode cX9_swapFor 8 = .ok (.aload_n 0, 1) := by decide +kernel
theorem dX9_swapFor_9 : decode cX9_swapFor 9 = .ok (.iconst 1, 1) := by decide +kernel
theorem dX9_swapFor_10 : decode cX9_swapFor 10 = .ok (.invokevirtual 51, 3) := by decide +kernel
theorem dX9_swapFor_13 : decode cX9_swapFor 13 = .ok (.ireturn, 1) := by decide +kernel
theorem dX9_swapFor_14 : decode cX9_swapFor 14 = .ok (.aload_n 0, 1) := by decide +kernel
theorem dX9_swapFor_15 : decode cX9_swapFor 15 = .ok (.invokevirtual 170, 3) := by decide +kernel
theorem dX9_swapFor_18 : decode cX9_swapFor 18 = .ok (.aload_n 0, 1) := by decide +kernel
theorem dX9_swapFor_19 : decode cX9_swapFor 19 = .ok (.iload_n 1, 1) := by decide +kernel
theorem dX9_swapFor_20 : decode cX9_swapFor 20 = .ok (.invokevirtual 165, 3) := by decide +kernel
theorem dX9_swapFor_23 : decode cX9_swapFor 23 = .ok (.aload_n 0, 1) := by decide +kernel
theorem dX9_swapFor_24 : decode cX9_swapFor 24 = .ok (.invokevirtual 173, 3) := by decide +kernel
theorem dX9_swapFor_27 : decode cX9_swapFor 27 = .ok (.istore_n 3, 1) := by decide +kernel
theorem dX9_swapFor_28 : decode cX9_swapFor 28 = .ok (.aload_n 0, 1) := by decide +kernel
theorem dX9_swapFor_29 : decode cX9_swapFor 29 = .ok (.invokevirtual 176, 3) := by decide +kernel
theorem dX9_swapFor_32 : decode cX9_swapFor 32 = .ok (.iconst (-1), 1) := by decide +kernel
theorem dX9_swapFor_33 : decode cX9_swapFor 33 = .ok (.istore 4, 2) := by decide +kernel
theorem dX9_swapFor_35 : decode cX9_swapFor 35 = .ok (.iconst 0, 1) := by decide +kernel
theorem dX9_swapFor_36 : decode cX9_swapFor 36 = .ok (.istore 5, 2) := by decide +kernel
theorem dX9_swapFor_38 : decode cX9_swapFor 38 = .ok (.iload 5, 2) := by decide +kernel
theorem dX9_swapFor_40 : decode cX9_swapFor 40 = .ok (.aload_n 0, 1) := by decide +kernel
theorem dX9_swapFor_41 : decode cX9_swapFor 41 = .ok (.getfield 7, 3) := by decide +kernel
theorem dX9_swapFor_44 : decode cX9_swapFor 44 = .ok (.bipush 8, 2) := by decide +kernel
theorem dX9_swapFor_46 : decode cX9_swapFor 46 = .ok (.iaload, 1) := by decide +kernel
theorem dX9_swapFor_47 : decode cX9_swapFor 47 = .ok (.if_icmp .ge 90, 3) := by decide +kernel
theorem dX9_swapFor_50 : decode cX9_swapFor 50 = .ok (.iload 5, 2) := by decide +kernel
theorem dX9_swapFor_52 : decode cX9_swapFor 52 = .ok (.iconst 1, 1) := by decide +kernel
theorem dX9_swapFor_53 : decode cX9_swapFor 53 = .ok (.iadd, 1) := by decide +kernel
theorem dX9_swapFor_54 : decode cX9_swapFor 54 = .ok (.istore 6, 2) := by decide +kernel
theorem dX9_swapFor_56 : decode cX9_swapFor 56 = .ok (.iload 6, 2) := by decide +kernel
theorem dX9_swapFor_58 : decode cX9_swapFor 58 = .ok (.aload_n 0, 1) := by decide +kernel
theorem dX9_swapFor_59 : decode cX9_swapFor 59 = .ok (.getfield 7, 3) := by decide +kernel
theorem dX9_swapFor_62 : decode cX9_swapFor 62 = .ok (.bipush 8, 2) := by decide +kernel
theorem dX9_swapFor_64 : decode cX9_swapFor 64 = .ok (.iaload, 1) := by decide +kernel
theorem dX9_swapFor_65 : decode cX9_swapFor 65 = .ok (.if_icmp .ge 66, 3) := by decide +kernel
theorem dX9_swapFor_68 : decode cX9_swapFor 68 = .ok (.aload_n 0, 1) := by decide +kernel
theorem dX9_swapFor_69 : decode cX9_swapFor 69 = .ok (.iload 5, 2) := by decide +kernel
theorem dX9_swapFor_71 : decode cX9_swapFor 71 = .ok (.iload 6, 2) := by decide +kernel
theorem dX9_swapFor_73 : decode cX9_swapFor 73 = .ok (.invokevirtual 183, 3) := by decide +kernel
theorem dX9_swapFor_76 : decode cX9_swapFor 76 = .ok (.aload_n 0, 1) := by decide +kernel
theorem dX9_swapFor_77 : decode cX9_swapFor 77 = .ok (.iload_n 1, 1) := by decide +kernel
theorem dX9_swapFor_78 : decode cX9_swapFor 78 = .ok (.invokevirtual 165, 3) := by decide +kernel
theorem dX9_swapFor_81 : decode cX9_swapFor 81 = .ok (.aload_n 0, 1) := by decide +kernel
theorem dX9_swapFor_82 : decode cX9_swapFor 82 = .ok (.invokevirtual 173, 3) := by decide +kernel
theorem dX9_swapFor_85 : decode cX9_swapFor 85 = .ok (.istore 7, 2) := by decide +kernel
theorem dX9_swapFor_87 : decode cX9_swapFor 87 = .ok (.aload_n 0, 1) := by decide +kernel
theorem dX9_swapFor_88 : decode cX9_swapFor 88 = .ok (.invokevirtual 176, 3) := by decide +kernel
theorem dX9_swapFor_91 : decode cX9_swapFor 91 = .ok (.iload 7, 2) := by decide +kernel
theorem dX9_swapFor_93 : decode cX9_swapFor 93 = .ok (.iload_n 3, 1) := by decide +kernel
theorem dX9_swapFor_94 : decode cX9_swapFor 94 = .ok (.if_icmp .ge 14, 3) := by decide +kernel
theorem dX9_swapFor_97 : decode cX9_swapFor 97 = .ok (.bipush 10, 2) := by decide +kernel
theorem dX9_swapFor_99 : decode cX9_swapFor 99 = .ok (.iload 5, 2) := by decide +kernel
theorem dX9_swapFor_101 : decode cX9_swapFor 101 = .ok (.imul, 1) := by decide +kernel
theorem dX9_swapFor_102 : decode cX9_swapFor 102 = .ok (.iload 6, 2) := by decide +kernel
theorem dX9_swapFor_104 : decode cX9_swapFor 104 = .ok (.iadd, 1) := by decide +kernel
theorem dX9_swapFor_105 : decode cX9_swapFor 105 = .ok (.goto 5, 3) := by decide +kernel
theorem dX9_swapFor_108 : decode cX9_swapFor 108 = .ok (.iload 4, 2) := by decide +kernel
theorem dX9_swapFor_110 : decode cX9_swapFor 110 = .ok (.istore 4, 2) := by decide +kernel
theorem dX9_swapFor_112 : decode cX9_swapFor 112 = .ok (.iload 7, 2) := by decide +kernel
theorem dX9_swapFor_114 : decode cX9_swapFor 114 = .ok (.iload_n 3, 1) := by decide +kernel
theorem dX9_swapFor_115 : decode cX9_swapFor 115 = .ok (.if_icmp .ge 8, 3) := by decide +kernel
theorem dX9_swapFor_118 : decode cX9_swapFor 118 = .ok (.iload 7, 2) := by decide +kernel
theorem dX9_swapFor_120 : decode cX9_swapFor 120 = .ok (.goto 4, 3) := by decide +kernel
theorem dX9_swapFor_123 : decode cX9_swapFor 123 = .ok (.iload_n 3, 1) := by decide +kernel
theorem dX9_swapFor_124 : decode cX9_swapFor 124 = .ok (.istore_n 3, 1) := by decide +kernel
theorem dX9_swapFor_125 : decode cX9_swapFor 125 = .ok (.iinc 6 1, 3) := by decide +kernel
theorem dX9_swapFor_128 : decode cX9_swapFor 128 = .ok (.goto (-72), 3) := by decide +kernel
theorem dX9_swapFor_131 : decode cX9_swapFor 131 = .ok (.iinc 5 1, 3) := by decide +kernel
theorem dX9_swapFor_134 : decode cX9_swapFor 134 = .ok (.goto (-96), 3) := by decide +kernel
theorem dX9_swapFor_137 : decode cX9_swapFor 137 = .ok (.iload 4, 2) := by decide +kernel
theorem dX9_swapFor_139 : decode cX9_swapFor 139 = .ok (.ifCond .ge 11, 3) := by decide +kernel
theorem dX9_swapFor_142 : decode cX9_swapFor 142 = .ok (.aload_n 0, 1) := by decide +kernel
theorem dX9_swapFor_143 : decode cX9_swapFor 143 = .ok (.iconst 2, 1) := by decide +kernel
theorem dX9_swapFor_144 : decode cX9_swapFor 144 = .ok (.invokevirtual 51, 3) := by decide +kernel
theorem dX9_swapFor_147 : decode cX9_swapFor 147 = .ok (.goto 13, 3) := by decide +kernel
theorem dX9_swapFor_150 : decode cX9_swapFor 150 = .ok (.iload_n 2, 1) := by decide +kernel
theorem dX9_swapFor_151 : decode cX9_swapFor 151 = .ok (.ifCond .ne 8, 3) := by decide +kernel
theorem dX9_swapFor_154 : decode cX9_swapFor 154 = .ok (.iload 4, 2) := by decide +kernel
theorem dX9_swapFor_156 : decode cX9_swapFor 156 = .ok (.goto 4, 3) := by decide +kernel
theorem dX9_swapFor_159 : decode cX9_swapFor 159 = .ok (.iload_n 3, 1) := by decide +kernel
theorem dX9_swapFor_160 : decode cX9_swapFor 160 = .ok (.ireturn, 1) := by decide +kernel
theorem dX9_ones_0 : decode cX9_ones 0 = .ok (.iconst 0, 1) := by decide +kernel
theorem dX9_ones_1 : decode cX9_ones 1 = .ok (.istore_n 1, 1) := by decide +kernel
theorem dX9_ones_2 : decode cX9_ones 2 = .ok (.iload_n 0, 1) := by decide +kernel
theorem dX9_ones_3 : decode cX9_ones 3 = .ok (.istore_n 2, 1) := by decide +kernel
theorem dX9_ones_4 : decode cX9_ones 4 = .ok (.iload_n 2, 1) := by decide +kernel
theorem dX9_ones_5 : decode cX9_ones 5 = .ok (.ifCond .eq 15, 3) := by decide +kernel
theorem dX9_ones_8 : decode cX9_ones 8 = .ok (.iinc 1 1, 3) := by decide +kernel
theorem dX9_ones_11 : decode cX9_ones 11 = .ok (.iload_n 2, 1) := by decide +kernel
theorem dX9_ones_12 : decode cX9_ones 12 = .ok (.iload_n 2, 1) := by decide +kernel
theorem dX9_ones_13 : decode cX9_ones 13 = .ok (.iconst 1, 1) := by decide +kernel
theorem dX9_ones_14 : decode cX9_ones 14 = .ok (.isub, 1) := by decide +kernel
theorem dX9_ones_15 : decode cX9_ones 15 = .ok (.iand, 1) := by decide +kernel
theorem dX9_ones_16 : decode cX9_ones 16 = .ok (.istore_n 2, 1) := by decide +kernel
theorem dX9_ones_17 : decode cX9_ones 17 = .ok (.goto (-13), 3) := by decide +kernel
theorem dX9_ones_20 : decode cX9_ones 20 = .ok (.iload_n 1, 1) := by decide +kernel
theorem dX9_ones_21 : decode cX9_ones 21 = .ok (.ireturn, 1) := by decide +kernel
theorem dX9_viewWith_0 : decode cX9_viewWith 0 = .ok (.iconst 0, 1) := by decide +kernel
theorem dX9_viewWith_1 : decode cX9_viewWith 1 = .ok (.istore_n 3, 1) := by decide +kernel
theorem dX9_viewWith_2 : decode cX9_viewWith 2 = .ok (.iload_n 3, 1) := by decide +kernel
theorem dX9_viewWith_3 : decode cX9_viewWith 3 = .ok (.aload_n 0, 1) := by decide +kernel
theorem dX9_viewWith_4 : decode cX9_viewWith 4 = .ok (.getfield 7, 3) := by decide +kernel
theorem dX9_viewWith_7 : decode cX9_viewWith 7 = .ok (.bipush 8, 2) := by decide +kernel
theorem dX9_viewWith_9 : decode cX9_viewWith 9 = .ok (.iaload, 1) := by decide +kernel
theorem dX9_viewWith_10 : decode cX9_viewWith 10 = .ok (.if_icmp .ge 34, 3) := by decide +kernel
theorem dX9_viewWith_13 : decode cX9_viewWith 13 = .ok (.aload_n 0, 1) := by decide +kernel
theorem dX9_viewWith_14 : decode cX9_viewWith 14 = .ok (.iload_n 3, 1) := by decide +kernel
theorem dX9_viewWith_15 : decode cX9_viewWith 15 = .ok (.iconst 4, 1) := by decide +kernel
theorem dX9_viewWith_16 : decode cX9_viewWith 16 = .ok (.iload_n 1, 1) := by decide +kernel
theorem dX9_viewWith_17 : decode cX9_viewWith 17 = .ok (.iload_n 3, 1) := by decide +kernel
theorem dX9_viewWith_18 : decode cX9_viewWith 18 = .ok (.ishr, 1) := by decide +kernel
theorem dX9_viewWith_19 : decode cX9_viewWith 19 = .ok (.iconst 1, 1) := by decide +kernel
theorem dX9_viewWith_20 : decode cX9_viewWith 20 = .ok (.iand, 1) := by decide +kernel
theorem dX9_viewWith_21 : decode cX9_viewWith 21 = .ok (.iconst 1, 1) := by decide +kernel
theorem dX9_viewWith_22 : decode cX9_viewWith 22 = .ok (.if_icmp .ne 7, 3) := by decide +kernel
theorem dX9_viewWith_25 : decode cX9_viewWith 25 = .ok (.iconst 1, 1) := by decide +kernel
theorem dX9_viewWith_26 : decode cX9_viewWith 26 = .ok (.goto 9, 3) := by decide +kernel
theorem dX9_viewWith_29 : decode cX9_viewWith 29 = .ok (.aload_n 0, 1) := by decide +kernel
theorem dX9_viewWith_30 : decode cX9_viewWith 30 = .ok (.iload_n 3, 1) := by decide +kernel
theorem dX9_viewWith_31 : decode cX9_viewWith 31 = .ok (.iconst 4, 1) := by decide +kernel
theorem dX9_viewWith_32 : decode cX9_viewWith 32 = .ok (.invokevirtual 111, 3) := by decide +kernel
theorem dX9_viewWith_35 : decode cX9_viewWith 35 = .ok (.invokevirtual 143, 3) := by decide +kernel
theorem dX9_viewWith_38 : decode cX9_viewWith 38 = .ok (.iinc 3 1, 3) := by decide +kernel
theorem dX9_viewWith_41 : decode cX9_viewWith 41 = .ok (.goto (-39), 3) := by decide +kernel
theorem dX9_viewWith_44 : decode cX9_viewWith 44 = .ok (.aload_n 0, 1) := by decide +kernel
theorem dX9_viewWith_45 : decode cX9_viewWith 45 = .ok (.iload_n 2, 1) := by decide +kernel
theorem dX9_viewWith_46 : decode cX9_viewWith 46 = .ok (.invokevirtual 165, 3) := by decide +kernel
theorem dX9_viewWith_49 : decode cX9_viewWith 49 = .ok (.aload_n 0, 1) := by decide +kernel
theorem dX9_viewWith_50 : decode cX9_viewWith 50 = .ok (.getfield 7, 3) := by decide +kernel
theorem dX9_viewWith_53 : decode cX9_viewWith 53 = .ok (.iconst 1, 1) := by decide +kernel
theorem dX9_viewWith_54 : decode cX9_viewWith 54 = .ok (.iaload, 1) := by decide +kernel
theorem dX9_viewWith_55 : decode cX9_viewWith 55 = .ok (.istore_n 3, 1) := by decide +kernel
theorem dX9_viewWith_56 : decode cX9_viewWith 56 = .ok (.aload_n 0, 1) := by decide +kernel
theorem dX9_viewWith_57 : decode cX9_viewWith 57 = .ok (.invokevirtual 176, 3) := by decide +kernel
theorem dX9_viewWith_60 : decode cX9_viewWith 60 = .ok (.iload_n 3, 1) := by decide +kernel
theorem dX9_viewWith_61 : decode cX9_viewWith 61 = .ok (.ireturn, 1) := by decide +kernel
theorem dX9_spare_0 : decode cX9_spare 0 = .ok (.iload_n 1, 1) := by decide +kernel
theorem dX9_spare_1 : decode cX9_spare 1 = .ok (.iconst 0, 1) := by decide +kernel
theorem dX9_spare_2 : decode cX9_spare 2 = .ok (.bipush 40, 2) := by decide +kernel
theorem dX9_spare_4 : decode cX9_spare 4 = .ok (.invokestatic 47, 3) := by decide +kernel
theorem dX9_spare_7 : decode cX9_spare 7 = .ok (.ifCond .eq 13, 3) := by decide +kernel
theorem dX9_spare_10 : decode cX9_spare 10 = .ok (.iload_n 2, 1) := by decide +kernel
theorem dX9_spare_11 : decode cX9_spare 11 = .ok (.iconst 0, 1) := by decide +kernel
theorem dX9_spare_12 : decode cX9_spare 12 = .ok (.bipush 99, 2) := by decide +kernel
theorem dX9_spare_14 : decode cX9_spare 14 = .ok (.invokestatic 47, 3) := by decide +kernel
theorem dX9_spare_17 : decode cX9_spare 17 = .ok (.ifCond .ne 9, 3) := by decide +kernel
theorem dX9_spare_20 : decode cX9_spare 20 = .ok (.aload_n 0, 1) := by decide +kernel
theorem dX9_spare_21 : decode cX9_spare 21 = .ok (.iconst 1, 1) := by decide +kernel
theorem dX9_spare_22 : decode cX9_spare 22 = .ok (.invokevirtual 51, 3) := by decide +kernel
theorem dX9_spare_25 : decode cX9_spare 25 = .ok (.ireturn, 1) := by decide +kernel
theorem dX9_spare_26 : decode cX9_spare 26 = .ok (.iconst (-1), 1) := by decide +kernel
theorem dX9_spare_27 : decode cX9_spare 27 = .ok (.istore_n 3, 1) := by decide +kernel
theorem dX9_spare_28 : decode cX9_spare 28 = .ok (.aload_n 0, 1) := by decide +kernel
theorem dX9_spare_29 : decode cX9_spare 29 = .ok (.invokevirtual 170, 3) := by decide +kernel
theorem dX9_spare_32 : decode cX9_spare 32 = .ok (.iconst 0, 1) := by decide +kernel
theorem dX9_spare_33 : decode cX9_spare 33 = .ok (.istore 4, 2) := by decide +kernel
theorem dX9_spare_35 : decode cX9_spare 35 = .ok (.iload 4, 2) := by decide +kernel
theorem dX9_spare_37 : decode cX9_spare 37 = .ok (.iconst 1, 1) := by decide +kernel
theorem dX9_spare_38 : decode cX9_spare 38 = .ok (.aload_n 0, 1) := by decide +kernel
theorem dX9_spare_39 : decode cX9_spare 39 = .ok (.getfield 7, 3) := by decide +kernel
theorem dX9_spare_42 : decode cX9_spare 42 = .ok (.bipush 8, 2) := by decide +kernel
theorem dX9_spare_44 : decode cX9_spare 44 = .ok (.iaload, 1) := by decide +kernel
theorem dX9_spare_45 : decode cX9_spare 45 = .ok (.ishl, 1) := by decide +kernel
theorem dX9_spare_46 : decode cX9_spare 46 = .ok (.if_icmp .ge 55, 3) := by decide +kernel
theorem dX9_spare_49 : decode cX9_spare 49 = .ok (.iload_n 3, 1) := by decide +kernel
theorem dX9_spare_50 : decode cX9_spare 50 = .ok (.ifCond .lt 15, 3) := by decide +kernel
theorem dX9_spare_53 : decode cX9_spare 53 = .ok (.iload 4, 2) := by decide +kernel
theorem dX9_spare_55 : decode cX9_spare 55 = .ok (.invokestatic 186, 3) := by decide +kernel
theorem dX9_spare_58 : decode cX9_spare 58 = .ok (.iload_n 3, 1) := by decide +kernel
theorem dX9_spare_59 : decode cX9_spare 59 = .ok (.invokestatic 186, 3) := by decide +kernel
theorem dX9_spare_62 : decode cX9_spare 62 = .ok (.if_icmp .ge 7, 3) := by decide +kernel
theorem dX9_spare_65 : decode cX9_spare 65 = .ok (.iconst 1, 1) := by decide +kernel
theorem dX9_spare_66 : decode cX9_spare 66 = .ok (.goto 4, 3) := by decide +kernel
theorem dX9_spare_69 : decode cX9_spare 69 = .ok (.iconst 0, 1) := by decide +kernel
theorem dX9_spare_70 : decode cX9_spare 70 = .ok (.istore 5, 2) := by decide +kernel
theorem dX9_spare_72 : decode cX9_spare 72 = .ok (.iload 5, 2) := by decide +kernel
theorem dX9_spare_74 : decode cX9_spare 74 = .ok (.ifCond .eq 19, 3) := by decide +kernel
theorem dX9_spare_77 : decode cX9_spare 77 = .ok (.aload_n 0, 1) := by decide +kernel
theorem dX9_spare_78 : decode cX9_spare 78 = .ok (.iload 4, 2) := by decide +kernel
theorem dX9_spare_80 : decode cX9_spare 80 = .ok (.iload_n 1, 1) := by decide +kernel
theorem dX9_spare_81 : decode cX9_spare 81 = .ok (.invokevirtual 189, 3) := by decide +kernel
theorem dX9_spare_84 : decode cX9_spare 84 = .ok (.iload_n 2, 1) := by decide +kernel
theorem dX9_spare_85 : decode cX9_spare 85 = .ok (.if_icmp .gt 8, 3) := by decide +kernel
theorem dX9_spare_88 : decode cX9_spare 88 = .ok (.iload 4, 2) := by decide +kernel
theorem dX9_spare_90 : decode cX9_spare 90 = .ok (.goto 4, 3) := by decide +kernel
theorem dX9_spare_93 : decode cX9_spare 93 = .ok (.iload_n 3, 1) := by decide +kernel
theorem dX9_spare_94 : decode cX9_spare 94 = .ok (.istore_n 3, 1) := by decide +kernel
theorem dX9_spare_95 : decode cX9_spare 95 = .ok (.iinc 4 1, 3) := by decide +kernel
theorem dX9_spare_98 : decode cX9_spare 98 = .ok (.goto (-63), 3) := by decide +kernel
theorem dX9_spare_101 : decode cX9_spare 101 = .ok (.iload_n 3, 1) := by decide +kernel
theorem dX9_spare_102 : decode cX9_spare 102 = .ok (.ifCond .ge 11, 3) := by decide +kernel
theorem dX9_spare_105 : decode cX9_spare 105 = .ok (.aload_n 0, 1) := by decide +kernel
theorem dX9_spare_106 : decode cX9_spare 106 = .ok (.iconst 2, 1) := by decide +kernel
theorem dX9_spare_107 : decode cX9_spare 107 = .ok (.invokevirtual 51, 3) := by decide +kernel
theorem dX9_spare_110 : decode cX9_spare 110 = .ok (.goto 4, 3) := by decide +kernel
theorem dX9_spare_113 : decode cX9_spare 113 = .ok (.iload_n 3, 1) := by decide +kernel
theorem dX9_spare_114 : decode cX9_spare 114 = .ok (.ireturn, 1) := by decide +kernel
theorem dX9_common_0 : decode cX9_common 0 = .ok (.iload_n 0, 1) := by decide +kernel
theorem dX9_common_1 : decode cX9_common 1 = .ok (.istore_n 2, 1) := by decide +kernel
theorem dX9_common_2 : decode cX9_common 2 = .ok (.iload_n 1, 1) := by decide +kernel
theorem dX9_common_3 : decode cX9_common 3 = .ok (.istore_n 3, 1) := by decide +kernel
theorem dX9_common_4 : decode cX9_common 4 = .ok (.iload_n 3, 1) := by decide +kernel
theorem dX9_common_5 : decode cX9_common 5 = .ok (.ifCond .eq 16, 3) := by decide +kernel
theorem dX9_common_8 : decode cX9_common 8 = .ok (.iload_n 2, 1) := by decide +kernel
theorem dX9_common_9 : decode cX9_common 9 = .ok (.iload_n 3, 1) := by decide +kernel
theorem dX9_common_10 : decode cX9_common 10 = .ok (.irem, 1) := by decide +kernel
theorem dX9_common_11 : decode cX9_common 11 = .ok (.istore 4, 2) := by decide +kernel
theorem dX9_common_13 : decode cX9_common 13 = .ok (.iload_n 3, 1) := by decide +kernel
theorem dX9_common_14 : decode cX9_common 14 = .ok (.istore_n 2, 1) := by decide +kernel
theorem dX9_common_15 : decode cX9_common 15 = .ok (.iload 4, 2) := by decide +kernel
theorem dX9_common_17 : decode cX9_common 17 = .ok (.istore_n 3, 1) := by decide +kernel
theorem dX9_common_18 : decode cX9_common 18 = .ok (.goto (-14), 3) := by decide +kernel
theorem dX9_common_21 : decode cX9_common 21 = .ok (.iload_n 2, 1) := by decide +kernel
theorem dX9_common_22 : decode cX9_common 22 = .ok (.ireturn, 1) := by decide +kernel
theorem dX9_odds_0 : decode cX9_odds 0 = .ok (.aload_n 0, 1) := by decide +kernel
theorem dX9_odds_1 : decode cX9_odds 1 = .ok (.iload_n 1, 1) := by decide +kernel
theorem dX9_odds_2 : decode cX9_odds 2 = .ok (.invokevirtual 156, 3) := by decide +kernel
theorem dX9_odds_5 : decode cX9_odds 5 = .ok (.ifCond .eq 34, 3) := by decide +kernel
theorem dX9_odds_8 : decode cX9_odds 8 = .ok (.iload_n 2, 1) := by decide +kernel
theorem dX9_odds_9 : decode cX9_odds 9 = .ok (.iconst 0, 1) := by decide +kernel
theorem dX9_odds_10 : decode cX9_odds 10 = .ok (.sipush 9999, 3) := by decide +kernel
theorem dX9_odds_13 : decode cX9_odds 13 = .ok (.invokestatic 47, 3) := by decide +kernel
theorem dX9_odds_16 : decode cX9_odds 16 = .ok (.ifCond .eq 23, 3) := by decide +kernel
theorem dX9_odds_19 : decode cX9_odds 19 = .ok (.iload_n 3, 1) := by decide +kernel
theorem dX9_odds_20 : decode cX9_odds 20 = .ok (.iconst 0, 1) := by decide +kernel
theorem dX9_odds_21 : decode cX9_odds 21 = .ok (.bipush 40, 2) := by decide +kernel
theorem dX9_odds_23 : decode cX9_odds 23 = .ok (.invokestatic 47, 3) := by decide +kernel
theorem dX9_odds_26 : decode cX9_odds 26 = .ok (.ifCond .eq 13, 3) := by decide +kernel
theorem dX9_odds_29 : decode cX9_odds 29 = .ok (.iload 4, 2) := by decide +kernel
theorem dX9_odds_31 : decode cX9_odds 31 = .ok (.iconst 0, 1) := by decide +kernel
theorem dX9_odds_32 : decode cX9_odds 32 = .ok (.iconst 1, 1) := by decide +kernel
theorem dX9_odds_33 : decode cX9_odds 33 = .ok (.invokestatic 47, 3) := by decide +kernel
theorem dX9_odds_36 : decode cX9_odds 36 = .ok (.ifCond .ne 9, 3) := by decide +kernel
theorem dX9_odds_39 : decode cX9_odds 39 = .ok (.aload_n 0, 1) := by decide +kernel
theorem dX9_odds_40 : decode cX9_odds 40 = .ok (.iconst 1, 1) := by decide +kernel
theorem dX9_odds_41 : decode cX9_odds 41 = .ok (.invokevirtual 51, 3) := by decide +kernel
theorem dX9_odds_44 : decode cX9_odds 44 = .ok (.ireturn, 1) := by decide +kernel
theorem dX9_odds_45 : decode cX9_odds 45 = .ok (.iconst 0, 1) := by decide +kernel
theorem dX9_odds_46 : decode cX9_odds 46 = .ok (.istore 5, 2) := by decide +kernel
theorem dX9_odds_48 : decode cX9_odds 48 = .ok (.aload_n 0, 1) := by decide +kernel
theorem dX9_odds_49 : decode cX9_odds 49 = .ok (.invokevirtual 170, 3) := by decide +kernel
theorem dX9_odds_52 : decode cX9_odds 52 = .ok (.iconst 0, 1) := by decide +kernel
theorem dX9_odds_53 : decode cX9_odds 53 = .ok (.istore 6, 2) := by decide +kernel
theorem dX9_odds_55 : decode cX9_odds 55 = .ok (.iload 6, 2) := by decide +kernel
theorem dX9_odds_57 : decode cX9_odds 57 = .ok (.bipush 100, 2) := by decide +kernel
theorem dX9_odds_59 : decode cX9_odds 59 = .ok (.if_icmp .ge 46, 3) := by decide +kernel
theorem dX9_odds_62 : decode cX9_odds 62 = .ok (.aload_n 0, 1) := by decide +kernel
theorem dX9_odds_63 : decode cX9_odds 63 = .ok (.getfield 7, 3) := by decide +kernel
theorem dX9_odds_66 : decode cX9_odds 66 = .ok (.iconst 1, 1) := by decide +kernel
theorem dX9_odds_67 : decode cX9_odds 67 = .ok (.iload 6, 2) := by decide +kernel
theorem dX9_odds_69 : decode cX9_odds 69 = .ok (.iastore, 1) := by decide +kernel
theorem dX9_odds_70 : decode cX9_odds 70 = .ok (.aload_n 0, 1) := by decide +kernel
theorem dX9_odds_71 : decode cX9_odds 71 = .ok (.iload_n 3, 1) := by decide +kernel
theorem dX9_odds_72 : decode cX9_odds 72 = .ok (.invokevirtual 165, 3) := by decide +kernel
theorem dX9_odds_75 : decode cX9_odds 75 = .ok (.iload 5, 2) := by decide +kernel
theorem dX9_odds_77 : decode cX9_odds 77 = .ok (.aload_n 0, 1) := by decide +kernel
theorem dX9_odds_78 : decode cX9_odds 78 = .ok (.iload_n 1, 1) := by decide +kernel
theorem dX9_odds_79 : decode cX9_odds 79 = .ok (.iconst 2, 1) := by decide +kernel
theorem dX9_odds_80 : decode cX9_odds 80 = .ok (.invokevirtual 111, 3) := by decide +kernel
theorem dX9_odds_83 : decode cX9_odds 83 = .ok (.iload_n 2, 1) := by decide +kernel
theorem dX9_odds_84 : decode cX9_odds 84 = .ok (.if_icmp .lt 7, 3) := by decide +kernel
theorem dX9_odds_87 : decode cX9_odds 87 = .ok (.iconst 1, 1) := by decide +kernel
theorem dX9_odds_88 : decode cX9_odds 88 = .ok (.goto 4, 3) := by decide +kernel
theorem dX9_odds_91 : decode cX9_odds 91 = .ok (.iconst 0, 1) := by decide +kernel
theorem dX9_odds_92 : decode cX9_odds 92 = .ok (.iadd, 1) := by decide +kernel
theorem dX9_odds_93 : decode cX9_odds 93 = .ok (.istore 5, 2) := by decide +kernel
theorem dX9_odds_95 : decode cX9_odds 95 = .ok (.aload_n 0, 1) := by decide +kernel
theorem dX9_odds_96 : decode cX9_odds 96 = .ok (.invokevirtual 176, 3) := by decide +kernel
theorem dX9_odds_99 : decode cX9_odds 99 = .ok (.iinc 6 1, 3) := by decide +kernel
theorem dX9_odds_102 : decode cX9_odds 102 = .ok (.goto (-47), 3) := by decide +kernel
theorem dX9_odds_105 : decode cX9_odds 105 = .ok (.iload 4, 2) := by decide +kernel
theorem dX9_odds_107 : decode cX9_odds 107 = .ok (.ifCond .ne 8, 3) := by decide +kernel
theorem dX9_odds_110 : decode cX9_odds 110 = .ok (.iload 5, 2) := by decide +kernel
theorem dX9_odds_112 : decode cX9_odds 112 = .ok (.goto 5, 3) := by decide +kernel
theorem dX9_odds_115 : decode cX9_odds 115 = .ok (.bipush 100, 2) := by decide +kernel
theorem dX9_odds_117 : decode cX9_odds 117 = .ok (.iload 5, 2) := by decide +kernel
theorem dX9_odds_119 : decode cX9_odds 119 = .ok (.bipush 100, 2) := by decide +kernel
theorem dX9_odds_121 : decode cX9_odds 121 = .ok (.invokestatic 192, 3) := by decide +kernel
theorem dX9_odds_124 : decode cX9_odds 124 = .ok (.idiv, 1) := by decide +kernel
theorem dX9_odds_125 : decode cX9_odds 125 = .ok (.ireturn, 1) := by decide +kernel
theorem dX9_fits_0 : decode cX9_fits 0 = .ok (.iload_n 1, 1) := by decide +kernel
theorem dX9_fits_1 : decode cX9_fits 1 = .ok (.invokestatic 195, 3) := by decide +kernel
theorem dX9_fits_4 : decode cX9_fits 4 = .ok (.ifCond .eq 12, 3) := by decide +kernel
theorem dX9_fits_7 : decode cX9_fits 7 = .ok (.iload_n 2, 1) := by decide +kernel
theorem dX9_fits_8 : decode cX9_fits 8 = .ok (.iconst 0, 1) := by decide +kernel
theorem dX9_fits_9 : decode cX9_fits 9 = .ok (.iconst 1, 1) := by decide +kernel
theorem dX9_fits_10 : decode cX9_fits 10 = .ok (.invokestatic 47, 3) := by decide +kernel
theorem dX9_fits_13 : decode cX9_fits 13 = .ok (.ifCond .ne 9, 3) := by decide +kernel
theorem dX9_fits_16 : decode cX9_fits 16 = .ok (.aload_n 0, 1) := by decide +kernel
theorem dX9_fits_17 : decode cX9_fits 17 = .ok (.iconst 1, 1) := by decide +kernel
theorem dX9_fits_18 : decode cX9_fits 18 = .ok (.invokevirtual 51, 3) := by decide +kernel
theorem dX9_fits_21 : decode cX9_fits 21 = .ok (.ireturn, 1) := by decide +kernel
theorem dX9_fits_22 : decode cX9_fits 22 = .ok (.aload_n 0, 1) := by decide +kernel
theorem dX9_fits_23 : decode cX9_fits 23 = .ok (.getfield 34, 3) := by decide +kernel
theorem dX9_fits_26 : decode cX9_fits 26 = .ok (.iload_n 1, 1) := by decide +kernel
theorem dX9_fits_27 : decode cX9_fits 27 = .ok (.iaload, 1) := by decide +kernel
theorem dX9_fits_28 : decode cX9_fits 28 = .ok (.ifCond .ne 9, 3) := by decide +kernel
theorem dX9_fits_31 : decode cX9_fits 31 = .ok (.aload_n 0, 1) := by decide +kernel
theorem dX9_fits_32 : decode cX9_fits 32 = .ok (.iconst 2, 1) := by decide +kernel
theorem dX9_fits_33 : decode cX9_fits 33 = .ok (.invokevirtual 51, 3) := by decide +kernel
theorem dX9_fits_36 : decode cX9_fits 36 = .ok (.ireturn, 1) := by decide +kernel
theorem dX9_fits_37 : decode cX9_fits 37 = .ok (.iconst 0, 1) := by decide +kernel
theorem dX9_fits_38 : decode cX9_fits 38 = .ok (.istore_n 3, 1) := by decide +kernel
theorem dX9_fits_39 : decode cX9_fits 39 = .ok (.aload_n 0, 1) := by decide +kernel
theorem dX9_fits_40 : decode cX9_fits 40 = .ok (.invokevirtual 170, 3) := by decide +kernel
theorem dX9_fits_43 : decode cX9_fits 43 = .ok (.iconst 0, 1) := by decide +kernel
theorem dX9_fits_44 : decode cX9_fits 44 = .ok (.istore 4, 2) := by decide +kernel
theorem dX9_fits_46 : decode cX9_fits 46 = .ok (.iload 4, 2) := by decide +kernel
theorem dX9_fits_48 : decode cX9_fits 48 = .ok (.aload_n 0, 1) := by decide +kernel
theorem dX9_fits_49 : decode cX9_fits 49 = .ok (.getfield 7, 3) := by decide +kernel
theorem dX9_fits_52 : decode cX9_fits 52 = .ok (.bipush 8, 2) := by decide +kernel
theorem dX9_fits_54 : decode cX9_fits 54 = .ok (.iaload, 1) := by decide +kernel
theorem dX9_fits_55 : decode cX9_fits 55 = .ok (.if_icmp .ge 97, 3) := by decide +kernel
theorem dX9_fits_58 : decode cX9_fits 58 = .ok (.aload_n 0, 1) := by decide +kernel
theorem dX9_fits_59 : decode cX9_fits 59 = .ok (.getfield 7, 3) := by decide +kernel
theorem dX9_fits_62 : decode cX9_fits 62 = .ok (.iconst 4, 1) := by decide +kernel
theorem dX9_fits_63 : decode cX9_fits 63 = .ok (.iload 4, 2) := by decide +kernel
theorem dX9_fits_65 : decode cX9_fits 65 = .ok (.iastore, 1) := by decide +kernel
theorem dX9_fits_66 : decode cX9_fits 66 = .ok (.iconst 1, 1) := by decide +kernel
theorem dX9_fits_67 : decode cX9_fits 67 = .ok (.istore 5, 2) := by decide +kernel
theorem dX9_fits_69 : decode cX9_fits 69 = .ok (.iconst 0, 1) := by decide +kernel
theorem dX9_fits_70 : decode cX9_fits 70 = .ok (.istore 6, 2) := by decide +kernel
theorem dX9_fits_72 : decode cX9_fits 72 = .ok (.iload 6, 2) := by decide +kernel
theorem dX9_fits_74 : decode cX9_fits 74 = .ok (.aload_n 0, 1) := by decide +kernel
theorem dX9_fits_75 : decode cX9_fits 75 = .ok (.getfield 37, 3) := by decide +kernel
theorem dX9_fits_78 : decode cX9_fits 78 = .ok (.iload_n 1, 1) := by decide +kernel
theorem dX9_fits_79 : decode cX9_fits 79 = .ok (.iaload, 1) := by decide +kernel
theorem dX9_fits_80 : decode cX9_fits 80 = .ok (.if_icmp .ge 46, 3) := by decide +kernel
theorem dX9_fits_83 : decode cX9_fits 83 = .ok (.iload 5, 2) := by decide +kernel
theorem dX9_fits_85 : decode cX9_fits 85 = .ok (.ifCond .eq 41, 3) := by decide +kernel
theorem dX9_fits_88 : decode cX9_fits 88 = .ok (.aload_n 0, 1) := by decide +kernel
theorem dX9_fits_89 : decode cX9_fits 89 = .ok (.getfield 40, 3) := by decide +kernel
theorem dX9_fits_92 : decode cX9_fits 92 = .ok (.bipush 24, 2) := by decide +kernel
theorem dX9_fits_94 : decode cX9_fits 94 = .ok (.iload_n 1, 1) := by decide +kernel
theorem dX9_fits_95 : decode cX9_fits 95 = .ok (.imul, 1) := by decide +kernel
theorem dX9_fits_96 : decode cX9_fits 96 = .ok (.iload 6, 2) := by decide +kernel
theorem dX9_fits_98 : decode cX9_fits 98 = .ok (.iadd, 1) := by decide +kernel
theorem dX9_fits_99 : decode cX9_fits 99 = .ok (.iaload, 1) := by decide +kernel
theorem dX9_fits_100 : decode cX9_fits 100 = .ok (.aload_n 0, 1) := by decide +kernel
theorem dX9_fits_101 : decode cX9_fits 101 = .ok (.getfield 7, 3) := by decide +kernel
theorem dX9_fits_104 : decode cX9_fits 104 = .ok (.iconst 1, 1) := by decide +kernel
theorem dX9_fits_105 : decode cX9_fits 105 = .ok (.iaload, 1) := by decide +kernel
theorem dX9_fits_106 : decode cX9_fits 106 = .ok (.if_icmp .ne 7, 3) := by decide +kernel
theorem dX9_fits_109 : decode cX9_fits 109 = .ok (.iconst 1, 1) := by decide +kernel
theorem dX9_fits_110 : decode cX9_fits 110 = .ok (.goto 4, 3) := by decide +kernel
theorem dX9_fits_113 : decode cX9_fits 113 = .ok (.iconst 0, 1) := by decide +kernel
theorem dX9_fits_114 : decode cX9_fits 114 = .ok (.istore 5, 2) := by decide +kernel
theorem dX9_fits_116 : decode cX9_fits 116 = .ok (.aload_n 0, 1) := by decide +kernel
theorem dX9_fits_117 : decode cX9_fits 117 = .ok (.invokevirtual 150, 3) := by decide +kernel
theorem dX9_fits_120 : decode cX9_fits 120 = .ok (.iinc 6 1, 3) := by decide +kernel
theorem dX9_fits_123 : decode cX9_fits 123 = .ok (.goto (-51), 3) := by decide +kernel
theorem dX9_fits_126 : decode cX9_fits 126 = .ok (.aload_n 0, 1) := by decide +kernel
theorem dX9_fits_127 : decode cX9_fits 127 = .ok (.invokevirtual 176, 3) := by decide +kernel
theorem dX9_fits_130 : decode cX9_fits 130 = .ok (.iload_n 3, 1) := by decide +kernel
theorem dX9_fits_131 : decode cX9_fits 131 = .ok (.iload 5, 2) := by decide +kernel
theorem dX9_fits_133 : decode cX9_fits 133 = .ok (.ifCond .eq 10, 3) := by decide +kernel
theorem dX9_fits_136 : decode cX9_fits 136 = .ok (.iconst 1, 1) := by decide +kernel
theorem dX9_fits_137 : decode cX9_fits 137 = .ok (.iload 4, 2) := by decide +kernel
theorem dX9_fits_139 : decode cX9_fits 139 = .ok (.ishl, 1) := by decide +kernel
theorem dX9_fits_140 : decode cX9_fits 140 = .ok (.goto 4, 3) := by decide +kernel
theorem dX9_fits_143 : decode cX9_fits 143 = .ok (.iconst 0, 1) := by decide +kernel
theorem dX9_fits_144 : decode cX9_fits 144 = .ok (.ior, 1) := by decide +kernel
theorem dX9_fits_145 : decode cX9_fits 145 = .ok (.istore_n 3, 1) := by decide +kernel
theorem dX9_fits_146 : decode cX9_fits 146 = .ok (.iinc 4 1, 3) := by decide +kernel
theorem dX9_fits_149 : decode cX9_fits 149 = .ok (.goto (-103), 3) := by decide +kernel
theorem dX9_fits_152 : decode cX9_fits 152 = .ok (.iload_n 2, 1) := by decide +kernel
theorem dX9_fits_153 : decode cX9_fits 153 = .ok (.ifCond .ne 7, 3) := by decide +kernel
theorem dX9_fits_156 : decode cX9_fits 156 = .ok (.iload_n 3, 1) := by decide +kernel
theorem dX9_fits_157 : decode cX9_fits 157 = .ok (.goto 7, 3) := by decide +kernel
theorem dX9_fits_160 : decode cX9_fits 160 = .ok (.iload_n 3, 1) := by decide +kernel
theorem dX9_fits_161 : decode cX9_fits 161 = .ok (.invokestatic 186, 3) := by decide +kernel
theorem dX9_fits_164 : decode cX9_fits 164 = .ok (.ireturn, 1) := by decide +kernel
theorem dX9_begins_0 : decode cX9_begins 0 = .ok (.aload_n 0, 1) := by decide +kernel
theorem dX9_begins_1 : decode cX9_begins 1 = .ok (.getfield 198, 3) := by decide +kernel
theorem dX9_begins_4 : decode cX9_begins 4 = .ok (.bipush 30, 2) := by decide +kernel
theorem dX9_begins_6 : decode cX9_begins 6 = .ok (.if_icmp .ge 23, 3) := by decide +kernel
theorem dX9_begins_9 : decode cX9_begins 9 = .ok (.aload_n 0, 1) := by decide +kernel
theorem dX9_begins_10 : decode cX9_begins 10 = .ok (.getfield 31, 3) := by decide +kernel
theorem dX9_begins_13 : decode cX9_begins 13 = .ok (.aload_n 0, 1) := by decide +kernel
theorem dX9_begins_14 : decode cX9_begins 14 = .ok (.getfield 198, 3) := by decide +kernel
theorem dX9_begins_17 : decode cX9_begins 17 = .ok (.iload_n 1, 1) := by decide +kernel
theorem dX9_begins_18 : decode cX9_begins 18 = .ok (.iastore, 1) := by decide +kernel
theorem dX9_begins_19 : decode cX9_begins 19 = .ok (.aload_n 0, 1) := by decide +kernel
theorem dX9_begins_20 : decode cX9_begins 20 = .ok (.dup, 1) := by decide +kernel
theorem dX9_begins_21 : decode cX9_begins 21 = .ok (.getfield 198, 3) := by decide +kernel
theorem dX9_begins_24 : decode cX9_begins 24 = .ok (.iconst 1, 1) := by decide +kernel
theorem dX9_begins_25 : decode cX9_begins 25 = .ok (.iadd, 1) := by decide +kernel
theorem dX9_begins_26 : decode cX9_begins 26 = .ok (.putfield 198, 3) := by decide +kernel
theorem dX9_begins_29 : decode cX9_begins 29 = .ok (.return_, 1) := by decide +kernel
theorem dX9_above_0 : decode cX9_above 0 = .ok (.iload_n 0, 1) := by decide +kernel
theorem dX9_above_1 : decode cX9_above 1 = .ok (.iconst 4, 1) := by decide +kernel
theorem dX9_above_2 : decode cX9_above 2 = .ok (.if_icmp .ne 7, 3) := by decide +kernel
theorem dX9_above_5 : decode cX9_above 5 = .ok (.iconst 1, 1) := by decide +kernel
theorem dX9_above_6 : decode cX9_above 6 = .ok (.goto 13, 3) := by decide +kernel
theorem dX9_above_9 : decode cX9_above 9 = .ok (.iload_n 0, 1) := by decide +kernel
theorem dX9_above_10 : decode cX9_above 10 = .ok (.iconst 5, 1) := by decide +kernel
theorem dX9_above_11 : decode cX9_above 11 = .ok (.if_icmp .ne 7, 3) := by decide +kernel
theorem dX9_above_14 : decode cX9_above 14 = .ok (.iconst 2, 1) := by decide +kernel
theorem dX9_above_15 : decode cX9_above 15 = .ok (.goto 4, 3) := by decide +kernel
theorem dX9_above_18 : decode cX9_above 18 = .ok (.iconst 0, 1) := by decide +kernel
theorem dX9_above_19 : decode cX9_above 19 = .ok (.ireturn, 1) := by decide +kernel
theorem dX9_kindNow_0 : decode cX9_kindNow 0 = .ok (.aload_n 0, 1) := by decide +kernel
theorem dX9_kindNow_1 : decode cX9_kindNow 1 = .ok (.aload_n 0, 1) := by decide +kernel
theorem dX9_kindNow_2 : decode cX9_kindNow 2 = .ok (.getfield 201, 3) := by decide +kernel
theorem dX9_kindNow_5 : decode cX9_kindNow 5 = .ok (.iconst 0, 1) := by decide +kernel
theorem dX9_kindNow_6 : decode cX9_kindNow 6 = .ok (.invokevirtual 111, 3) := by decide +kernel
theorem dX9_kindNow_9 : decode cX9_kindNow 9 = .ok (.ireturn, 1) := by decide +kernel
theorem dX9_mNow_0 : decode cX9_mNow 0 = .ok (.aload_n 0, 1) := by decide +kernel
theorem dX9_mNow_1 : decode cX9_mNow 1 = .ok (.aload_n 0, 1) := by decide +kernel
theorem dX9_mNow_2 : decode cX9_mNow 2 = .ok (.getfield 201, 3) := by decide +kernel
theorem dX9_mNow_5 : decode cX9_mNow 5 = .ok (.iconst 1, 1) := by decide +kernel
theorem dX9_mNow_6 : decode cX9_mNow 6 = .ok (.invokevirtual 111, 3) := by decide +kernel
theorem dX9_mNow_9 : decode cX9_mNow 9 = .ok (.ireturn, 1) := by decide +kernel
theorem dX9_cutsAs_0 : decode cX9_cutsAs 0 = .ok (.iload_n 1, 1) := by decide +kernel
theorem dX9_cutsAs_1 : decode cX9_cutsAs 1 = .ok (.tableswitch 101 0 6 #[43, 56, 101, 101, 74, 101, 92], 43) := by decide +kernel
theorem dX9_cutsAs_44 : decode cX9_cutsAs 44 = .ok (.aload_n 0, 1) := by decide +kernel
theorem dX9_cutsAs_45 : decode cX9_cutsAs 45 = .ok (.bipush 10, 2) := by decide +kernel
theorem dX9_cutsAs_47 : decode cX9_cutsAs 47 = .ok (.invokevirtual 204, 3) := by decide +kernel
theorem dX9_cutsAs_50 : decode cX9_cutsAs 50 = .ok (.iload_n 2, 1) := by decide +kernel
theorem dX9_cutsAs_51 : decode cX9_cutsAs 51 = .ok (.aload_n 0, 1) := by decide +kernel
theorem dX9_cutsAs_52 : decode cX9_cutsAs 52 = .ok (.getfield 201, 3) := by decide +kernel
theorem dX9_cutsAs_55 : decode cX9_cutsAs 55 = .ok (.iadd, 1) := by decide +kernel
theorem dX9_cutsAs_56 : decode cX9_cutsAs 56 = .ok (.ireturn, 1) := by decide +kernel
theorem dX9_cutsAs_57 : decode cX9_cutsAs 57 = .ok (.aload_n 0, 1) := by decide +kernel
theorem dX9_cutsAs_58 : decode cX9_cutsAs 58 = .ok (.bipush 20, 2) := by decide +kernel
theorem dX9_cutsAs_60 : decode cX9_cutsAs 60 = .ok (.invokevirtual 204, 3) := by decide +kernel
theorem dX9_cutsAs_63 : decode cX9_cutsAs 63 = .ok (.aload_n 0, 1) := by decide +kernel
theorem dX9_cutsAs_64 : decode cX9_cutsAs 64 = .ok (.iconst 1, 1) := by decide +kernel
theorem dX9_cutsAs_65 : decode cX9_cutsAs 65 = .ok (.invokestatic 159, 3) := by decide +kernel
theorem dX9_cutsAs_68 : decode cX9_cutsAs 68 = .ok (.iload_n 2, 1) := by decide +kernel
theorem dX9_cutsAs_69 : decode cX9_cutsAs 69 = .ok (.invokevirtual 207, 3) := by decide +kernel
theorem dX9_cutsAs_72 : decode cX9_cutsAs 72 = .ok (.iconst 4, 1) := by decide +kernel
theorem dX9_cutsAs_73 : decode cX9_cutsAs 73 = .ok (.isub, 1) := by decide +kernel
theorem dX9_cutsAs_74 : decode cX9_cutsAs 74 = .ok (.ireturn, 1) := by decide +kernel
theorem dX9_cutsAs_75 : decode cX9_cutsAs 75 = .ok (.aload_n 0, 1) := by decide +kernel
theorem dX9_cutsAs_76 : decode cX9_cutsAs 76 = .ok (.bipush 50, 2) := by decide +kernel
theorem dX9_cutsAs_78 : decode cX9_cutsAs 78 = .ok (.invokevirtual 204, 3) := by decide +kernel
theorem dX9_cutsAs_81 : decode cX9_cutsAs 81 = .ok (.aload_n 0, 1) := by decide +kernel
theorem dX9_cutsAs_82 : decode cX9_cutsAs 82 = .ok (.iconst 4, 1) := by decide +kernel
theorem dX9_cutsAs_83 : decode cX9_cutsAs 83 = .ok (.invokestatic 159, 3) := by decide +kernel
theorem dX9_cutsAs_86 : decode cX9_cutsAs 86 = .ok (.iload_n 2, 1) := by decide +kernel
theorem dX9_cutsAs_87 : decode cX9_cutsAs 87 = .ok (.invokevirtual 207, 3) := by decide +kernel
theorem dX9_cutsAs_90 : decode cX9_cutsAs 90 = .ok (.iconst 3, 1) := by decide +kernel
theorem dX9_cutsAs_91 : decode cX9_cutsAs 91 = .ok (.imul, 1) := by decide +kernel
theorem dX9_cutsAs_92 : decode cX9_cutsAs 92 = .ok (.ireturn, 1) := by decide +kernel
theorem dX9_cutsAs_93 : decode cX9_cutsAs 93 = .ok (.aload_n 0, 1) := by decide +kernel
theorem dX9_cutsAs_94 : decode cX9_cutsAs 94 = .ok (.bipush 70, 2) := by decide +kernel
theorem dX9_cutsAs_96 : decode cX9_cutsAs 96 = .ok (.invokevirtual 204, 3) := by decide +kernel
theorem dX9_cutsAs_99 : decode cX9_cutsAs 99 = .ok (.bipush 9, 2) := by decide +kernel
theorem dX9_cutsAs_101 : decode cX9_cutsAs 101 = .ok (.ireturn, 1) := by decide +kernel
theorem dX9_cutsAs_102 : decode cX9_cutsAs 102 = .ok (.aload_n 0, 1) := by decide +kernel
theorem dX9_cutsAs_103 : decode cX9_cutsAs 103 = .ok (.iload_n 1, 1) := by decide +kernel
theorem dX9_cutsAs_104 : decode cX9_cutsAs 104 = .ok (.invokestatic 159, 3) := by decide +kernel
theorem dX9_cutsAs_107 : decode cX9_cutsAs 107 = .ok (.iload_n 2, 1) := by decide +kernel
theorem dX9_cutsAs_108 : decode cX9_cutsAs 108 = .ok (.invokevirtual 207, 3) := by decide +kernel
theorem dX9_cutsAs_111 : decode cX9_cutsAs 111 = .ok (.ireturn, 1) := by decide +kernel
theorem dX9_saysAs_0 : decode cX9_saysAs 0 = .ok (.iload_n 1, 1) := by decide +kernel
theorem dX9_saysAs_1 : decode cX9_saysAs 1 = .ok (.tableswitch 119 0 6 #[43, 119, 61, 119, 119, 79, 97], 43) := by decide +kernel
theorem dX9_saysAs_44 : decode cX9_saysAs 44 = .ok (.aload_n 0, 1) := by decide +kernel
theorem dX9_saysAs_45 : decode cX9_saysAs 45 = .ok (.bipush 11, 2) := by decide +kernel
theorem dX9_saysAs_47 : decode cX9_saysAs 47 = .ok (.invokevirtual 204, 3) := by decide +kernel
theorem dX9_saysAs_50 : decode cX9_saysAs 50 = .ok (.aload_n 0, 1) := by decide +kernel
theorem dX9_saysAs_51 : decode cX9_saysAs 51 = .ok (.aload_n 0, 1) := by decide +kernel
theorem dX9_saysAs_52 : decode cX9_saysAs 52 = .ok (.invokevirtual 210, 3) := by decide +kernel
theorem dX9_saysAs_55 : decode cX9_saysAs 55 = .ok (.iload_n 2, 1) := by decide +kernel
theorem dX9_saysAs_56 : decode cX9_saysAs 56 = .ok (.invokevirtual 207, 3) := by decide +kernel
theorem dX9_saysAs_59 : decode cX9_saysAs 59 = .ok (.iconst 2, 1) := by decide +kernel
theorem dX9_saysAs_60 : decode cX9_saysAs 60 = .ok (.imul, 1) := by decide +kernel
theorem dX9_saysAs_61 : decode cX9_saysAs 61 = .ok (.ireturn, 1) := by decide +kernel
theorem dX9_saysAs_62 : decode cX9_saysAs 62 = .ok (.aload_n 0, 1) := by decide +kernel
theorem dX9_saysAs_63 : decode cX9_saysAs 63 = .ok (.bipush 30, 2) := by decide +kernel
theorem dX9_saysAs_65 : decode cX9_saysAs 65 = .ok (.invokevirtual 204, 3) := by decide +kernel
theorem dX9_saysAs_68 : decode cX9_saysAs 68 = .ok (.iconst 0, 1) := by decide +kernel
theorem dX9_saysAs_69 : decode cX9_saysAs 69 = .ok (.aload_n 0, 1) := by decide +kernel
theorem dX9_saysAs_70 : decode cX9_saysAs 70 = .ok (.iconst 2, 1) := by decide +kernel
theorem dX9_saysAs_71 : decode cX9_saysAs 71 = .ok (.invokestatic 159, 3) := by decide +kernel
theorem dX9_saysAs_74 : decode cX9_saysAs 74 = .ok (.iload_n 2, 1) := by decide +kernel
theorem dX9_saysAs_75 : decode cX9_saysAs 75 = .ok (.invokevirtual 213, 3) := by decide +kernel
theorem dX9_saysAs_78 : decode cX9_saysAs 78 = .ok (.isub, 1) := by decide +kernel
theorem dX9_saysAs_79 : decode cX9_saysAs 79 = .ok (.ireturn, 1) := by decide +kernel
theorem dX9_saysAs_80 : decode cX9_saysAs 80 = .ok (.aload_n 0, 1) := by decide +kernel
theorem dX9_saysAs_81 : decode cX9_saysAs 81 = .ok (.bipush 60, 2) := by decide +kernel
theorem dX9_saysAs_83 : decode cX9_saysAs 83 = .ok (.invokevirtual 204, 3) := by decide +kernel
theorem dX9_saysAs_86 : decode cX9_saysAs 86 = .ok (.aload_n 0, 1) := by decide +kernel
theorem dX9_saysAs_87 : decode cX9_saysAs 87 = .ok (.iconst 5, 1) := by decide +kernel
theorem dX9_saysAs_88 : decode cX9_saysAs 88 = .ok (.invokestatic 159, 3) := by decide +kernel
theorem dX9_saysAs_91 : decode cX9_saysAs 91 = .ok (.iload_n 2, 1) := by decide +kernel
theorem dX9_saysAs_92 : decode cX9_saysAs 92 = .ok (.iconst 1, 1) := by decide +kernel
theorem dX9_saysAs_93 : decode cX9_saysAs 93 = .ok (.iadd, 1) := by decide +kernel
theorem dX9_saysAs_94 : decode cX9_saysAs 94 = .ok (.invokevirtual 213, 3) := by decide +kernel
theorem dX9_saysAs_97 : decode cX9_saysAs 97 = .ok (.ireturn, 1) := by decide +kernel
theorem dX9_saysAs_98 : decode cX9_saysAs 98 = .ok (.aload_n 0, 1) := by decide +kernel
theorem dX9_saysAs_99 : decode cX9_saysAs 99 = .ok (.bipush 71, 2) := by decide +kernel
theorem dX9_saysAs_101 : decode cX9_saysAs 101 = .ok (.invokevirtual 204, 3) := by decide +kernel
theorem dX9_saysAs_104 : decode cX9_saysAs 104 = .ok (.aload_n 0, 1) := by decide +kernel
theorem dX9_saysAs_105 : decode cX9_saysAs 105 = .ok (.bipush 6, 2) := by decide +kernel
theorem dX9_saysAs_107 : decode cX9_saysAs 107 = .ok (.invokestatic 159, 3) := by decide +kernel
theorem dX9_saysAs_110 : decode cX9_saysAs 110 = .ok (.iload_n 2, 1) := by decide +kernel
theorem dX9_saysAs_111 : decode cX9_saysAs 111 = .ok (.invokevirtual 213, 3) := by decide +kernel
theorem dX9_saysAs_114 : decode cX9_saysAs 114 = .ok (.aload_n 0, 1) := by decide +kernel
theorem dX9_saysAs_115 : decode cX9_saysAs 115 = .ok (.invokevirtual 216, 3) := by decide +kernel
theorem dX9_saysAs_118 : decode cX9_saysAs 118 = .ok (.iadd, 1) := by decide +kernel
theorem dX9_saysAs_119 : decode cX9_saysAs 119 = .ok (.ireturn, 1) := by decide +kernel
theorem dX9_saysAs_120 : decode cX9_saysAs 120 = .ok (.aload_n 0, 1) := by decide +kernel
theorem dX9_saysAs_121 : decode cX9_saysAs 121 = .ok (.iload_n 1, 1) := by decide +kernel
theorem dX9_saysAs_122 : decode cX9_saysAs 122 = .ok (.invokestatic 159, 3) := by decide +kernel
theorem dX9_saysAs_125 : decode cX9_saysAs 125 = .ok (.iload_n 2, 1) := by decide +kernel
theorem dX9_saysAs_126 : decode cX9_saysAs 126 = .ok (.invokevirtual 213, 3) := by decide +kernel
theorem dX9_saysAs_129 : decode cX9_saysAs 129 = .ok (.ireturn, 1) := by decide +kernel
theorem dX9_steelsAs_0 : decode cX9_steelsAs 0 = .ok (.iload_n 1, 1) := by decide +kernel
theorem dX9_steelsAs_1 : decode cX9_steelsAs 1 = .ok (.tableswitch 95 0 4 #[35, 95, 95, 56, 74], 35) := by decide +kernel
theorem dX9_steelsAs_36 : decode cX9_steelsAs 36 = .ok (.aload_n 0, 1) := by decide +kernel
theorem dX9_steelsAs_37 : decode cX9_steelsAs 37 = .ok (.bipush 12, 2) := by decide +kernel
theorem dX9_steelsAs_39 : decode cX9_steelsAs 39 = .ok (.invokevirtual 204, 3) := by decide +kernel
theorem dX9_steelsAs_42 : decode cX9_steelsAs 42 = .ok (.aload_n 0, 1) := by decide +kernel
theorem dX9_steelsAs_43 : decode cX9_steelsAs 43 = .ok (.aload_n 0, 1) := by decide +kernel
theorem dX9_steelsAs_44 : decode cX9_steelsAs 44 = .ok (.invokevirtual 210, 3) := by decide +kernel
theorem dX9_steelsAs_47 : decode cX9_steelsAs 47 = .ok (.iload_n 2, 1) := by decide +kernel
theorem dX9_steelsAs_48 : decode cX9_steelsAs 48 = .ok (.invokevirtual 213, 3) := by decide +kernel
theorem dX9_steelsAs_51 : decode cX9_steelsAs 51 = .ok (.aload_n 0, 1) := by decide +kernel
theorem dX9_steelsAs_52 : decode cX9_steelsAs 52 = .ok (.invokevirtual 216, 3) := by decide +kernel
theorem dX9_steelsAs_55 : decode cX9_steelsAs 55 = .ok (.isub, 1) := by decide +kernel
theorem dX9_steelsAs_56 : decode cX9_steelsAs 56 = .ok (.ireturn, 1) := by decide +kernel
theorem dX9_steelsAs_57 : decode cX9_steelsAs 57 = .ok (.aload_n 0, 1) := by decide +kernel
theorem dX9_steelsAs_58 : decode cX9_steelsAs 58 = .ok (.bipush 40, 2) := by decide +kernel
theorem dX9_steelsAs_60 : decode cX9_steelsAs 60 = .ok (.invokevirtual 204, 3) := by decide +kernel
theorem dX9_steelsAs_63 : decode cX9_steelsAs 63 = .ok (.aload_n 0, 1) := by decide +kernel
theorem dX9_steelsAs_64 : decode cX9_steelsAs 64 = .ok (.iconst 3, 1) := by decide +kernel
theorem dX9_steelsAs_65 : decode cX9_steelsAs 65 = .ok (.invokestatic 159, 3) := by decide +kernel
theorem dX9_steelsAs_68 : decode cX9_steelsAs 68 = .ok (.iload_n 2, 1) := by decide +kernel
theorem dX9_steelsAs_69 : decode cX9_steelsAs 69 = .ok (.iconst 2, 1) := by decide +kernel
theorem dX9_steelsAs_70 : decode cX9_steelsAs 70 = .ok (.idiv, 1) := by decide +kernel
theorem dX9_steelsAs_71 : decode cX9_steelsAs 71 = .ok (.invokevirtual 219, 3) := by decide +kernel
theorem dX9_steelsAs_74 : decode cX9_steelsAs 74 = .ok (.ireturn, 1) := by decide +kernel
theorem dX9_steelsAs_75 : decode cX9_steelsAs 75 = .ok (.aload_n 0, 1) := by decide +kernel
theorem dX9_steelsAs_76 : decode cX9_steelsAs 76 = .ok (.bipush 51, 2) := by decide +kernel
theorem dX9_steelsAs_78 : decode cX9_steelsAs 78 = .ok (.invokevirtual 204, 3) := by decide +kernel
theorem dX9_steelsAs_81 : decode cX9_steelsAs 81 = .ok (.aload_n 0, 1) := by decide +kernel
theorem dX9_steelsAs_82 : decode cX9_steelsAs 82 = .ok (.iconst 4, 1) := by decide +kernel
theorem dX9_steelsAs_83 : decode cX9_steelsAs 83 = .ok (.invokestatic 159, 3) := by decide +kernel
theorem dX9_steelsAs_86 : decode cX9_steelsAs 86 = .ok (.iload_n 2, 1) := by decide +kernel
theorem dX9_steelsAs_87 : decode cX9_steelsAs 87 = .ok (.invokevirtual 219, 3) := by decide +kernel
theorem dX9_steelsAs_90 : decode cX9_steelsAs 90 = .ok (.aload_n 0, 1) := by decide +kernel
theorem dX9_steelsAs_91 : decode cX9_steelsAs 91 = .ok (.getfield 201, 3) := by decide +kernel
theorem dX9_steelsAs_94 : decode cX9_steelsAs 94 = .ok (.ixor, 1) := by decide +kernel
theorem dX9_steelsAs_95 : decode cX9_steelsAs 95 = .ok (.ireturn, 1) := by decide +kernel
theorem dX9_steelsAs_96 : decode cX9_steelsAs 96 = .ok (.aload_n 0, 1) := by decide +kernel
theorem dX9_steelsAs_97 : decode cX9_steelsAs 97 = .ok (.iload_n 1, 1) := by decide +kernel
theorem dX9_steelsAs_98 : decode cX9_steelsAs 98 = .ok (.invokestatic 159, 3) := by decide +kernel
theorem dX9_steelsAs_101 : decode cX9_steelsAs 101 = .ok (.iload_n 2, 1) := by decide +kernel
theorem dX9_steelsAs_102 : decode cX9_steelsAs 102 = .ok (.invokevirtual 219, 3) := by decide +kernel
theorem dX9_steelsAs_105 : decode cX9_steelsAs 105 = .ok (.ireturn, 1) := by decide +kernel
theorem dX9_partsAs_0 : decode cX9_partsAs 0 = .ok (.iload_n 1, 1) := by decide +kernel
theorem dX9_partsAs_1 : decode cX9_partsAs 1 = .ok (.lookupswitch 119 #[(0, 27), (1, 78)], 27) := by decide +kernel
theorem dX9_partsAs_28 : decode cX9_partsAs 28 = .ok (.aload_n 0, 1) := by decide +kernel
theorem dX9_partsAs_29 : decode cX9_partsAs 29 = .ok (.bipush 13, 2) := by decide +kernel
theorem dX9_partsAs_31 : decode cX9_partsAs 31 = .ok (.invokevirtual 204, 3) := by decide +kernel
theorem dX9_partsAs_34 : decode cX9_partsAs 34 = .ok (.aload_n 0, 1) := by decide +kernel
theorem dX9_partsAs_35 : decode cX9_partsAs 35 = .ok (.invokevirtual 216, 3) := by decide +kernel
theorem dX9_partsAs_38 : decode cX9_partsAs 38 = .ok (.aload_n 0, 1) := by decide +kernel
theorem dX9_partsAs_39 : decode cX9_partsAs 39 = .ok (.getfield 201, 3) := by decide +kernel
theorem dX9_partsAs_42 : decode cX9_partsAs 42 = .ok (.isub, 1) := by decide +kernel
theorem dX9_partsAs_43 : decode cX9_partsAs 43 = .ok (.istore_n 3, 1) := by decide +kernel
theorem dX9_partsAs_44 : decode cX9_partsAs 44 = .ok (.aload_n 0, 1) := by decide +kernel
theorem dX9_partsAs_45 : decode cX9_partsAs 45 = .ok (.iload_n 3, 1) := by decide +kernel
theorem dX9_partsAs_46 : decode cX9_partsAs 46 = .ok (.ifCond .ne 7, 3) := by decide +kernel
theorem dX9_partsAs_49 : decode cX9_partsAs 49 = .ok (.iconst 1, 1) := by decide +kernel
theorem dX9_partsAs_50 : decode cX9_partsAs 50 = .ok (.goto 4, 3) := by decide +kernel
theorem dX9_partsAs_53 : decode cX9_partsAs 53 = .ok (.iconst 0, 1) := by decide +kernel
theorem dX9_partsAs_54 : decode cX9_partsAs 54 = .ok (.putfield 222, 3) := by decide +kernel
theorem dX9_partsAs_57 : decode cX9_partsAs 57 = .ok (.iload_n 3, 1) := by decide +kernel
theorem dX9_partsAs_58 : decode cX9_partsAs 58 = .ok (.ifCond .ne 7, 3) := by decide +kernel
theorem dX9_partsAs_61 : decode cX9_partsAs 61 = .ok (.iconst 0, 1) := by decide +kernel
theorem dX9_partsAs_62 : decode cX9_partsAs 62 = .ok (.goto 16, 3) := by decide +kernel
theorem dX9_partsAs_65 : decode cX9_partsAs 65 = .ok (.iload_n 3, 1) := by decide +kernel
theorem dX9_partsAs_66 : decode cX9_partsAs 66 = .ok (.iconst (-1), 1) := by decide +kernel
theorem dX9_partsAs_67 : decode cX9_partsAs 67 = .ok (.if_icmp .ne 8, 3) := by decide +kernel
theorem dX9_partsAs_70 : decode cX9_partsAs 70 = .ok (.iload_n 2, 1) := by decide +kernel
theorem dX9_partsAs_71 : decode cX9_partsAs 71 = .ok (.ineg, 1) := by decide +kernel
theorem dX9_partsAs_72 : decode cX9_partsAs 72 = .ok (.goto 6, 3) := by decide +kernel
theorem dX9_partsAs_75 : decode cX9_partsAs 75 = .ok (.iload_n 2, 1) := by decide +kernel
theorem dX9_partsAs_76 : decode cX9_partsAs 76 = .ok (.iload_n 3, 1) := by decide +kernel
theorem dX9_partsAs_77 : decode cX9_partsAs 77 = .ok (.idiv, 1) := by decide +kernel
theorem dX9_partsAs_78 : decode cX9_partsAs 78 = .ok (.ireturn, 1) := by decide +kernel
theorem dX9_partsAs_79 : decode cX9_partsAs 79 = .ok (.aload_n 0, 1) := by decide +kernel
theorem dX9_partsAs_80 : decode cX9_partsAs 80 = .ok (.bipush 21, 2) := by decide +kernel
theorem dX9_partsAs_82 : decode cX9_partsAs 82 = .ok (.invokevirtual 204, 3) := by decide +kernel
theorem dX9_partsAs_85 : decode cX9_partsAs 85 = .ok (.aload_n 0, 1) := by decide +kernel
theorem dX9_partsAs_86 : decode cX9_partsAs 86 = .ok (.iconst 1, 1) := by decide +kernel
theorem dX9_partsAs_87 : decode cX9_partsAs 87 = .ok (.invokestatic 159, 3) := by decide +kernel
theorem dX9_partsAs_90 : decode cX9_partsAs 90 = .ok (.iload_n 2, 1) := by decide +kernel
theorem dX9_partsAs_91 : decode cX9_partsAs 91 = .ok (.invokevirtual 226, 3) := by decide +kernel
theorem dX9_partsAs_94 : decode cX9_partsAs 94 = .ok (.istore 4, 2) := by decide +kernel
theorem dX9_partsAs_96 : decode cX9_partsAs 96 = .ok (.aload_n 0, 1) := by decide +kernel
theorem dX9_partsAs_97 : decode cX9_partsAs 97 = .ok (.getfield 222, 3) := by decide +kernel
theorem dX9_partsAs_100 : decode cX9_partsAs 100 = .ok (.ifCond .eq 7, 3) := by decide +kernel
theorem dX9_partsAs_103 : decode cX9_partsAs 103 = .ok (.iconst 0, 1) := by decide +kernel
theorem dX9_partsAs_104 : decode cX9_partsAs 104 = .ok (.goto 15, 3) := by decide +kernel
theorem dX9_partsAs_107 : decode cX9_partsAs 107 = .ok (.iload 4, 2) := by decide +kernel
theorem dX9_partsAs_109 : decode cX9_partsAs 109 = .ok (.aload_n 0, 1) := by decide +kernel
theorem dX9_partsAs_110 : decode cX9_partsAs 110 = .ok (.aload_n 0, 1) := by decide +kernel
theorem dX9_partsAs_111 : decode cX9_partsAs 111 = .ok (.invokevirtual 210, 3) := by decide +kernel
theorem dX9_partsAs_114 : decode cX9_partsAs 114 = .ok (.iconst 1, 1) := by decide +kernel
theorem dX9_partsAs_115 : decode cX9_partsAs 115 = .ok (.invokevirtual 213, 3) := by decide +kernel
theorem dX9_partsAs_118 : decode cX9_partsAs 118 = .ok (.iadd, 1) := by decide +kernel
theorem dX9_partsAs_119 : decode cX9_partsAs 119 = .ok (.ireturn, 1) := by decide +kernel
theorem dX9_partsAs_120 : decode cX9_partsAs 120 = .ok (.aload_n 0, 1) := by decide +kernel
theorem dX9_partsAs_121 : decode cX9_partsAs 121 = .ok (.iload_n 1, 1) := by decide +kernel
theorem dX9_partsAs_122 : decode cX9_partsAs 122 = .ok (.invokestatic 159, 3) := by decide +kernel
theorem dX9_partsAs_125 : decode cX9_partsAs 125 = .ok (.iload_n 2, 1) := by decide +kernel
theorem dX9_partsAs_126 : decode cX9_partsAs 126 = .ok (.invokevirtual 226, 3) := by decide +kernel
theorem dX9_partsAs_129 : decode cX9_partsAs 129 = .ok (.ireturn, 1) := by decide +kernel
theorem dX9_voice_0 : decode cX9_voice 0 = .ok (.aload_n 0, 1) := by decide +kernel
theorem dX9_voice_1 : decode cX9_voice 1 = .ok (.iload_n 1, 1) := by decide +kernel
theorem dX9_voice_2 : decode cX9_voice 2 = .ok (.invokevirtual 156, 3) := by decide +kernel
theorem dX9_voice_5 : decode cX9_voice 5 = .ok (.ifCond .eq 12, 3) := by decide +kernel
theorem dX9_voice_8 : decode cX9_voice 8 = .ok (.iload_n 2, 1) := by decide +kernel
theorem dX9_voice_9 : decode cX9_voice 9 = .ok (.iconst 0, 1) := by decide +kernel
theorem dX9_voice_10 : decode cX9_voice 10 = .ok (.iconst 3, 1) := by decide +kernel
theorem dX9_voice_11 : decode cX9_voice 11 = .ok (.invokestatic 47, 3) := by decide +kernel
theorem dX9_voice_14 : decode cX9_voice 14 = .ok (.ifCond .ne 9, 3) := by decide +kernel
theorem dX9_voice_17 : decode cX9_voice 17 = .ok (.aload_n 0, 1) := by decide +kernel
theorem dX9_voice_18 : decode cX9_voice 18 = .ok (.iconst 1, 1) := by decide +kernel
theorem dX9_voice_19 : decode cX9_voice 19 = .ok (.invokevirtual 51, 3) := by decide +kernel
theorem dX9_voice_22 : decode cX9_voice 22 = .ok (.ireturn, 1) := by decide +kernel
theorem dX9_voice_23 : decode cX9_voice 23 = .ok (.aload_n 0, 1) := by decide +kernel
theorem dX9_voice_24 : decode cX9_voice 24 = .ok (.iconst 0, 1) := by decide +kernel
theorem dX9_voice_25 : decode cX9_voice 25 = .ok (.putfield 198, 3) := by decide +kernel
theorem dX9_voice_28 : decode cX9_voice 28 = .ok (.aload_n 0, 1) := by decide +kernel
theorem dX9_voice_29 : decode cX9_voice 29 = .ok (.iload_n 1, 1) := by decide +kernel
theorem dX9_voice_30 : decode cX9_voice 30 = .ok (.putfield 201, 3) := by decide +kernel
theorem dX9_voice_33 : decode cX9_voice 33 = .ok (.aload_n 0, 1) := by decide +kernel
theorem dX9_voice_34 : decode cX9_voice 34 = .ok (.iconst 0, 1) := by decide +kernel
theorem dX9_voice_35 : decode cX9_voice 35 = .ok (.putfield 222, 3) := by decide +kernel
theorem dX9_voice_38 : decode cX9_voice 38 = .ok (.aload_n 0, 1) := by decide +kernel
theorem dX9_voice_39 : decode cX9_voice 39 = .ok (.invokevirtual 210, 3) := by decide +kernel
theorem dX9_voice_42 : decode cX9_voice 42 = .ok (.istore 4, 2) := by decide +kernel
theorem dX9_voice_44 : decode cX9_voice 44 = .ok (.iload_n 2, 1) := by decide +kernel
theorem dX9_voice_45 : decode cX9_voice 45 = .ok (.ifCond .ne 13, 3) := by decide +kernel
theorem dX9_voice_48 : decode cX9_voice 48 = .ok (.aload_n 0, 1) := by decide +kernel
theorem dX9_voice_49 : decode cX9_voice 49 = .ok (.iload 4, 2) := by decide +kernel
theorem dX9_voice_51 : decode cX9_voice 51 = .ok (.iload_n 3, 1) := by decide +kernel
theorem dX9_voice_52 : decode cX9_voice 52 = .ok (.invokevirtual 207, 3) := by decide +kernel
theorem dX9_voice_55 : decode cX9_voice 55 = .ok (.goto 40, 3) := by decide +kernel
theorem dX9_voice_58 : decode cX9_voice 58 = .ok (.iload_n 2, 1) := by decide +kernel
theorem dX9_voice_59 : decode cX9_voice 59 = .ok (.iconst 1, 1) := by decide +kernel
theorem dX9_voice_60 : decode cX9_voice 60 = .ok (.if_icmp .ne 13, 3) := by decide +kernel
theorem dX9_voice_63 : decode cX9_voice 63 = .ok (.aload_n 0, 1) := by decide +kernel
theorem dX9_voice_64 : decode cX9_voice 64 = .ok (.iload 4, 2) := by decide +kernel
theorem dX9_voice_66 : decode cX9_voice 66 = .ok (.iload_n 3, 1) := by decide +kernel
theorem dX9_voice_67 : decode cX9_voice 67 = .ok (.invokevirtual 213, 3) := by decide +kernel
theorem dX9_voice_70 : decode cX9_voice 70 = .ok (.goto 25, 3) := by decide +kernel
theorem dX9_voice_73 : decode cX9_voice 73 = .ok (.iload_n 2, 1) := by decide +kernel
theorem dX9_voice_74 : decode cX9_voice 74 = .ok (.iconst 2, 1) := by decide +kernel
theorem dX9_voice_75 : decode cX9_voice 75 = .ok (.if_icmp .ne 13, 3) := by decide +kernel
theorem dX9_voice_78 : decode cX9_voice 78 = .ok (.aload_n 0, 1) := by decide +kernel
theorem dX9_voice_79 : decode cX9_voice 79 = .ok (.iload 4, 2) := by decide +kernel
theorem dX9_voice_81 : decode cX9_voice 81 = .ok (.iload_n 3, 1) := by decide +kernel
theorem dX9_voice_82 : decode cX9_voice 82 = .ok (.invokevirtual 219, 3) := by decide +kernel
theorem dX9_voice_85 : decode cX9_voice 85 = .ok (.goto 10, 3) := by decide +kernel
theorem dX9_voice_88 : decode cX9_voice 88 = .ok (.aload_n 0, 1) := by decide +kernel
theorem dX9_voice_89 : decode cX9_voice 89 = .ok (.iload 4, 2) := by decide +kernel
theorem dX9_voice_91 : decode cX9_voice 91 = .ok (.iload_n 3, 1) := by decide +kernel
theorem dX9_voice_92 : decode cX9_voice 92 = .ok (.invokevirtual 226, 3) := by decide +kernel
theorem dX9_voice_95 : decode cX9_voice 95 = .ok (.istore 5, 2) := by decide +kernel
theorem dX9_voice_97 : decode cX9_voice 97 = .ok (.aload_n 0, 1) := by decide +kernel
theorem dX9_voice_98 : decode cX9_voice 98 = .ok (.getfield 222, 3) := by decide +kernel
theorem dX9_voice_101 : decode cX9_voice 101 = .ok (.ifCond .eq 12, 3) := by decide +kernel
theorem dX9_voice_104 : decode cX9_voice 104 = .ok (.aload_n 0, 1) := by decide +kernel
theorem dX9_voice_105 : decode cX9_voice 105 = .ok (.bipush 6, 2) := by decide +kernel
theorem dX9_voice_107 : decode cX9_voice 107 = .ok (.invokevirtual 51, 3) := by decide +kernel
theorem dX9_voice_110 : decode cX9_voice 110 = .ok (.goto 5, 3) := by decide +kernel
theorem dX9_voice_113 : decode cX9_voice 113 = .ok (.iload 5, 2) := by decide +kernel
theorem dX9_voice_115 : decode cX9_voice 115 = .ok (.ireturn, 1) := by decide +kernel
theorem dX9_body_0 : decode cX9_body 0 = .ok (.iload_n 1, 1) := by decide +kernel
theorem dX9_body_1 : decode cX9_body 1 = .ok (.iconst 0, 1) := by decide +kernel
theorem dX9_body_2 : decode cX9_body 2 = .ok (.aload_n 0, 1) := by decide +kernel
theorem dX9_body_3 : decode cX9_body 3 = .ok (.getfield 198, 3) := by decide +kernel
theorem dX9_body_6 : decode cX9_body 6 = .ok (.iconst 1, 1) := by decide +kernel
theorem dX9_body_7 : decode cX9_body 7 = .ok (.isub, 1) := by decide +kernel
theorem dX9_body_8 : decode cX9_body 8 = .ok (.invokestatic 47, 3) := by decide +kernel
theorem dX9_body_11 : decode cX9_body 11 = .ok (.ifCond .eq 12, 3) := by decide +kernel
theorem dX9_body_14 : decode cX9_body 14 = .ok (.aload_n 0, 1) := by decide +kernel
theorem dX9_body_15 : decode cX9_body 15 = .ok (.getfield 31, 3) := by decide +kernel
theorem dX9_body_18 : decode cX9_body 18 = .ok (.iload_n 1, 1) := by decide +kernel
theorem dX9_body_19 : decode cX9_body 19 = .ok (.iaload, 1) := by decide +kernel
theorem dX9_body_20 : decode cX9_body 20 = .ok (.goto 8, 3) := by decide +kernel
theorem dX9_body_23 : decode cX9_body 23 = .ok (.aload_n 0, 1) := by decide +kernel
theorem dX9_body_24 : decode cX9_body 24 = .ok (.iconst 2, 1) := by decide +kernel
theorem dX9_body_25 : decode cX9_body 25 = .ok (.invokevirtual 51, 3) := by decide +kernel
theorem dX9_body_28 : decode cX9_body 28 = .ok (.ireturn, 1) := by decide +kernel
theorem dX9_isSheet_0 : decode cX9_isSheet 0 = .ok (.iload_n 0, 1) := by decide +kernel
theorem dX9_isSheet_1 : decode cX9_isSheet 1 = .ok (.iconst 0, 1) := by decide +kernel
theorem dX9_isSheet_2 : decode cX9_isSheet 2 = .ok (.iconst 3, 1) := by decide +kernel
theorem dX9_isSheet_3 : decode cX9_isSheet 3 = .ok (.invokestatic 47, 3) := by decide +kernel
theorem dX9_isSheet_6 : decode cX9_isSheet 6 = .ok (.ireturn, 1) := by decide +kernel
theorem dX9_sheet_0 : decode cX9_sheet 0 = .ok (.iload_n 1, 1) := by decide +kernel
theorem dX9_sheet_1 : decode cX9_sheet 1 = .ok (.invokestatic 195, 3) := by decide +kernel
theorem dX9_sheet_4 : decode cX9_sheet 4 = .ok (.ifCond .eq 25, 3) := by decide +kernel
theorem dX9_sheet_7 : decode cX9_sheet 7 = .ok (.iload_n 2, 1) := by decide +kernel
theorem dX9_sheet_8 : decode cX9_sheet 8 = .ok (.ifCond .eq 27, 3) := by decide +kernel
theorem dX9_sheet_11 : decode cX9_sheet 11 = .ok (.iload_n 2, 1) := by decide +kernel
theorem dX9_sheet_12 : decode cX9_sheet 12 = .ok (.bipush 8, 2) := by decide +kernel
theorem dX9_sheet_14 : decode cX9_sheet 14 = .ok (.if_icmp .eq 21, 3) := by decide +kernel
theorem dX9_sheet_17 : decode cX9_sheet 17 = .ok (.iload_n 2, 1) := by decide +kernel
theorem dX9_sheet_18 : decode cX9_sheet 18 = .ok (.bipush 16, 2) := by decide +kernel
theorem dX9_sheet_20 : decode cX9_sheet 20 = .ok (.if_icmp .eq 15, 3) := by decide +kernel
theorem dX9_sheet_23 : decode cX9_sheet 23 = .ok (.iload_n 2, 1) := by decide +kernel
theorem dX9_sheet_24 : decode cX9_sheet 24 = .ok (.bipush 32, 2) := by decide +kernel
theorem dX9_sheet_26 : decode cX9_sheet 26 = .ok (.if_icmp .eq 9, 3) := by decide +kernel
theorem dX9_sheet_29 : decode cX9_sheet 29 = .ok (.aload_n 0, 1) := by decide +kernel
theorem dX9_sheet_30 : decode cX9_sheet 30 = .ok (.iconst 1, 1) := by decide +kernel
theorem dX9_sheet_31 : decode cX9_sheet 31 = .ok (.invokevirtual 51, 3) := by decide +kernel
theorem dX9_sheet_34 : decode cX9_sheet 34 = .ok (.ireturn, 1) := by decide +kernel
theorem dX9_sheet_35 : decode cX9_sheet 35 = .ok (.iload_n 2, 1) := by decide +kernel
theorem dX9_sheet_36 : decode cX9_sheet 36 = .ok (.ifCond .eq 13, 3) := by decide +kernel
theorem dX9_sheet_39 : decode cX9_sheet 39 = .ok (.iload_n 3, 1) := by decide +kernel
theorem dX9_sheet_40 : decode cX9_sheet 40 = .ok (.ifCond .ge 9, 3) := by decide +kernel
theorem dX9_sheet_43 : decode cX9_sheet 43 = .ok (.aload_n 0, 1) := by decide +kernel
theorem dX9_sheet_44 : decode cX9_sheet 44 = .ok (.iconst 3, 1) := by decide +kernel
theorem dX9_sheet_45 : decode cX9_sheet 45 = .ok (.invokevirtual 51, 3) := by decide +kernel
theorem dX9_sheet_48 : decode cX9_sheet 48 = .ok (.ireturn, 1) := by decide +kernel
theorem dX9_sheet_49 : decode cX9_sheet 49 = .ok (.iload_n 2, 1) := by decide +kernel
theorem dX9_sheet_50 : decode cX9_sheet 50 = .ok (.ifCond .eq 15, 3) := by decide +kernel
theorem dX9_sheet_53 : decode cX9_sheet 53 = .ok (.iload_n 3, 1) := by decide +kernel
theorem dX9_sheet_54 : decode cX9_sheet 54 = .ok (.bipush 24, 2) := by decide +kernel
theorem dX9_sheet_56 : decode cX9_sheet 56 = .ok (.if_icmp .le 9, 3) := by decide +kernel
theorem dX9_sheet_59 : decode cX9_sheet 59 = .ok (.aload_n 0, 1) := by decide +kernel
theorem dX9_sheet_60 : decode cX9_sheet 60 = .ok (.iconst 1, 1) := by decide +kernel
theorem dX9_sheet_61 : decode cX9_sheet 61 = .ok (.invokevirtual 51, 3) := by decide +kernel
theorem dX9_sheet_64 : decode cX9_sheet 64 = .ok (.ireturn, 1) := by decide +kernel
theorem dX9_sheet_65 : decode cX9_sheet 65 = .ok (.aload_n 0, 1) := by decide +kernel
theorem dX9_sheet_66 : decode cX9_sheet 66 = .ok (.getfield 34, 3) := by decide +kernel
theorem dX9_sheet_69 : decode cX9_sheet 69 = .ok (.iload_n 1, 1) := by decide +kernel
theorem dX9_sheet_70 : decode cX9_sheet 70 = .ok (.iload_n 2, 1) := by decide +kernel
theorem dX9_sheet_71 : decode cX9_sheet 71 = .ok (.iastore, 1) := by decide +kernel
theorem dX9_sheet_72 : decode cX9_sheet 72 = .ok (.aload_n 0, 1) := by decide +kernel
theorem dX9_sheet_73 : decode cX9_sheet 73 = .ok (.getfield 37, 3) := by decide +kernel
theorem dX9_sheet_76 : decode cX9_sheet 76 = .ok (.iload_n 1, 1) := by decide +kernel
theorem dX9_sheet_77 : decode cX9_sheet 77 = .ok (.iload_n 2, 1) := by decide +kernel
theorem dX9_sheet_78 : decode cX9_sheet 78 = .ok (.ifCond .ne 7, 3) := by decide +kernel
theorem dX9_sheet_81 : decode cX9_sheet 81 = .ok (.iconst 0, 1) := by decide +kernel
theorem dX9_sheet_82 : decode cX9_sheet 82 = .ok (.goto 4, 3) := by decide +kernel
theorem dX9_sheet_85 : decode cX9_sheet 85 = .ok (.iload_n 3, 1) := by decide +kernel
theorem dX9_sheet_86 : decode cX9_sheet 86 = .ok (.iastore, 1) := by decide +kernel
theorem dX9_sheet_87 : decode cX9_sheet 87 = .ok (.iconst 0, 1) := by decide +kernel
theorem dX9_sheet_88 : decode cX9_sheet 88 = .ok (.istore 4, 2) := by decide +kernel
theorem dX9_sheet_90 : decode cX9_sheet 90 = .ok (.iload 4, 2) := by decide +kernel
theorem dX9_sheet_92 : decode cX9_sheet 92 = .ok (.bipush 24, 2) := by decide +kernel
theorem dX9_sheet_94 : decode cX9_sheet 94 = .ok (.if_icmp .ge 22, 3) := by decide +kernel
theorem dX9_sheet_97 : decode cX9_sheet 97 = .ok (.aload_n 0, 1) := by decide +kernel
theorem dX9_sheet_98 : decode cX9_sheet 98 = .ok (.getfield 40, 3) := by decide +kernel
theorem dX9_sheet_101 : decode cX9_sheet 101 = .ok (.bipush 24, 2) := by decide +kernel
theorem dX9_sheet_103 : decode cX9_sheet 103 = .ok (.iload_n 1, 1) := by decide +kernel
theorem dX9_sheet_104 : decode cX9_sheet 104 = .ok (.imul, 1) := by decide +kernel
theorem dX9_sheet_105 : decode cX9_sheet 105 = .ok (.iload 4, 2) := by decide +kernel
theorem dX9_sheet_107 : decode cX9_sheet 107 = .ok (.iadd, 1) := by decide +kernel
theorem dX9_sheet_108 : decode cX9_sheet 108 = .ok (.iconst 0, 1) := by decide +kernel
theorem dX9_sheet_109 : decode cX9_sheet 109 = .ok (.iastore, 1) := by decide +kernel
theorem dX9_sheet_110 : decode cX9_sheet 110 = .ok (.iinc 4 1, 3) := by decide +kernel
theorem dX9_sheet_113 : decode cX9_sheet 113 = .ok (.goto (-23), 3) := by decide +kernel
theorem dX9_sheet_116 : decode cX9_sheet 116 = .ok (.iconst 1, 1) := by decide +kernel
theorem dX9_sheet_117 : decode cX9_sheet 117 = .ok (.ireturn, 1) := by decide +kernel
theorem dX9_put_0 : decode cX9_put 0 = .ok (.iload_n 1, 1) := by decide +kernel
theorem dX9_put_1 : decode cX9_put 1 = .ok (.invokestatic 195, 3) := by decide +kernel
theorem dX9_put_4 : decode cX9_put 4 = .ok (.ifCond .ne 9, 3) := by decide +kernel
theorem dX9_put_7 : decode cX9_put 7 = .ok (.aload_n 0, 1) := by decide +kernel
theorem dX9_put_8 : decode cX9_put 8 = .ok (.iconst 1, 1) := by decide +kernel
theorem dX9_put_9 : decode cX9_put 9 = .ok (.invokevirtual 51, 3) := by decide +kernel
theorem dX9_put_12 : decode cX9_put 12 = .ok (.ireturn, 1) := by decide +kernel
theorem dX9_put_13 : decode cX9_put 13 = .ok (.aload_n 0, 1) := by decide +kernel
theorem dX9_put_14 : decode cX9_put 14 = .ok (.getfield 34, 3) := by decide +kernel
theorem dX9_put_17 : decode cX9_put 17 = .ok (.iload_n 1, 1) := by decide +kernel
theorem dX9_put_18 : decode cX9_put 18 = .ok (.iaload, 1) := by decide +kernel
theorem dX9_put_19 : decode cX9_put 19 = .ok (.ifCond .ne 9, 3) := by decide +kernel
theorem dX9_put_22 : decode cX9_put 22 = .ok (.aload_n 0, 1) := by decide +kernel
theorem dX9_put_23 : decode cX9_put 23 = .ok (.iconst 2, 1) := by decide +kernel
theorem dX9_put_24 : decode cX9_put 24 = .ok (.invokevirtual 51, 3) := by decide +kernel
theorem dX9_put_27 : decode cX9_put 27 = .ok (.ireturn, 1) := by decide +kernel
theorem dX9_put_28 : decode cX9_put 28 = .ok (.iload_n 2, 1) := by decide +kernel
theorem dX9_put_29 : decode cX9_put 29 = .ok (.iconst 0, 1) := by decide +kernel
theorem dX9_put_30 : decode cX9_put 30 = .ok (.aload_n 0, 1) := by decide +kernel
theorem dX9_put_31 : decode cX9_put 31 = .ok (.getfield 37, 3) := by decide +kernel
theorem dX9_put_34 : decode cX9_put 34 = .ok (.iload_n 1, 1) := by decide +kernel
theorem dX9_put_35 : decode cX9_put 35 = .ok (.iaload, 1) := by decide +kernel
theorem dX9_put_36 : decode cX9_put 36 = .ok (.iconst 1, 1) := by decide +kernel
theorem dX9_put_37 : decode cX9_put 37 = .ok (.isub, 1) := by decide +kernel
theorem dX9_put_38 : decode cX9_put 38 = .ok (.invokestatic 47, 3) := by decide +kernel
theorem dX9_put_41 : decode cX9_put 41 = .ok (.ifCond .ne 9, 3) := by decide +kernel
theorem dX9_put_44 : decode cX9_put 44 = .ok (.aload_n 0, 1) := by decide +kernel
theorem dX9_put_45 : decode cX9_put 45 = .ok (.iconst 1, 1) := by decide +kernel
theorem dX9_put_46 : decode cX9_put 46 = .ok (.invokevirtual 51, 3) := by decide +kernel
theorem dX9_put_49 : decode cX9_put 49 = .ok (.ireturn, 1) := by decide +kernel
theorem dX9_put_50 : decode cX9_put 50 = .ok (.bipush 32, 2) := by decide +kernel
theorem dX9_put_52 : decode cX9_put 52 = .ok (.aload_n 0, 1) := by decide +kernel
theorem dX9_put_53 : decode cX9_put 53 = .ok (.getfield 34, 3) := by decide +kernel
theorem dX9_put_56 : decode cX9_put 56 = .ok (.iload_n 1, 1) := by decide +kernel
theorem dX9_put_57 : decode cX9_put 57 = .ok (.iaload, 1) := by decide +kernel
theorem dX9_put_58 : decode cX9_put 58 = .ok (.isub, 1) := by decide +kernel
theorem dX9_put_59 : decode cX9_put 59 = .ok (.istore 4, 2) := by decide +kernel
theorem dX9_put_61 : decode cX9_put 61 = .ok (.aload_n 0, 1) := by decide +kernel
theorem dX9_put_62 : decode cX9_put 62 = .ok (.getfield 40, 3) := by decide +kernel
theorem dX9_put_65 : decode cX9_put 65 = .ok (.bipush 24, 2) := by decide +kernel
theorem dX9_put_67 : decode cX9_put 67 = .ok (.iload_n 1, 1) := by decide +kernel
theorem dX9_put_68 : decode cX9_put 68 = .ok (.imul, 1) := by decide +kernel
theorem dX9_put_69 : decode cX9_put 69 = .ok (.iload_n 2, 1) := by decide +kernel
theorem dX9_put_70 : decode cX9_put 70 = .ok (.iadd, 1) := by decide +kernel
theorem dX9_put_71 : decode cX9_put 71 = .ok (.iload_n 3, 1) := by decide +kernel
theorem dX9_put_72 : decode cX9_put 72 = .ok (.iload 4, 2) := by decide +kernel
theorem dX9_put_74 : decode cX9_put 74 = .ok (.ishl, 1) := by decide +kernel
theorem dX9_put_75 : decode cX9_put 75 = .ok (.iload 4, 2) := by decide +kernel
theorem dX9_put_77 : decode cX9_put 77 = .ok (.ishr, 1) := by decide +kernel
theorem dX9_put_78 : decode cX9_put 78 = .ok (.iastore, 1) := by decide +kernel
theorem dX9_put_79 : decode cX9_put 79 = .ok (.iconst 1, 1) := by decide +kernel
theorem dX9_put_80 : decode cX9_put 80 = .ok (.ireturn, 1) := by decide +kernel
theorem dX9_move_0 : decode cX9_move 0 = .ok (.iload_n 1, 1) := by decide +kernel
theorem dX9_move_1 : decode cX9_move 1 = .ok (.invokestatic 195, 3) := by decide +kernel
theorem dX9_move_4 : decode cX9_move 4 = .ok (.ifCond .eq 10, 3) := by decide +kernel
theorem dX9_move_7 : decode cX9_move 7 = .ok (.iload_n 3, 1) := by decide +kernel
theorem dX9_move_8 : decode cX9_move 8 = .ok (.invokestatic 195, 3) := by decide +kernel
theorem dX9_move_11 : decode cX9_move 11 = .ok (.ifCond .ne 9, 3) := by decide +kernel
theorem dX9_move_14 : decode cX9_move 14 = .ok (.aload_n 0, 1) := by decide +kernel
theorem dX9_move_15 : decode cX9_move 15 = .ok (.iconst 1, 1) := by decide +kernel
theorem dX9_move_16 : decode cX9_move 16 = .ok (.invokevirtual 51, 3) := by decide +kernel
theorem dX9_move_19 : decode cX9_move 19 = .ok (.ireturn, 1) := by decide +kernel
theorem dX9_move_20 : decode cX9_move 20 = .ok (.aload_n 0, 1) := by decide +kernel
theorem dX9_move_21 : decode cX9_move 21 = .ok (.getfield 34, 3) := by decide +kernel
theorem dX9_move_24 : decode cX9_move 24 = .ok (.iload_n 1, 1) := by decide +kernel
theorem dX9_move_25 : decode cX9_move 25 = .ok (.iaload, 1) := by decide +kernel
theorem dX9_move_26 : decode cX9_move 26 = .ok (.ifCond .eq 12, 3) := by decide +kernel
theorem dX9_move_29 : decode cX9_move 29 = .ok (.aload_n 0, 1) := by decide +kernel
theorem dX9_move_30 : decode cX9_move 30 = .ok (.getfield 34, 3) := by decide +kernel
theorem dX9_move_33 : decode cX9_move 33 = .ok (.iload_n 3, 1) := by decide +kernel
theorem dX9_move_34 : decode cX9_move 34 = .ok (.iaload, 1) := by decide +kernel
theorem dX9_move_35 : decode cX9_move 35 = .ok (.ifCond .ne 9, 3) := by decide +kernel
theorem dX9_move_38 : decode cX9_move 38 = .ok (.aload_n 0, 1) := by decide +kernel
theorem dX9_move_39 : decode cX9_move 39 = .ok (.iconst 2, 1) := by decide +kernel
theorem dX9_move_40 : decode cX9_move 40 = .ok (.invokevirtual 51, 3) := by decide +kernel
theorem dX9_move_43 : decode cX9_move 43 = .ok (.ireturn, 1) := by decide +kernel
theorem dX9_move_44 : decode cX9_move 44 = .ok (.aload_n 0, 1) := by decide +kernel
theorem dX9_move_45 : decode cX9_move 45 = .ok (.getfield 34, 3) := by decide +kernel
theorem dX9_move_48 : decode cX9_move 48 = .ok (.iload_n 1, 1) := by decide +kernel
theorem dX9_move_49 : decode cX9_move 49 = .ok (.iaload, 1) := by decide +kernel
theorem dX9_move_50 : decode cX9_move 50 = .ok (.aload_n 0, 1) := by decide +kernel
theorem dX9_move_51 : decode cX9_move 51 = .ok (.getfield 34, 3) := by decide +kernel
theorem dX9_move_54 : decode cX9_move 54 = .ok (.iload_n 3, 1) := by decide +kernel
theorem dX9_move_55 : decode cX9_move 55 = .ok (.iaload, 1) := by decide +kernel
theorem dX9_move_56 : decode cX9_move 56 = .ok (.if_icmp .eq 9, 3) := by decide +kernel
theorem dX9_move_59 : decode cX9_move 59 = .ok (.aload_n 0, 1) := by decide +kernel
theorem dX9_move_60 : decode cX9_move 60 = .ok (.iconst 5, 1) := by decide +kernel
theorem dX9_move_61 : decode cX9_move 61 = .ok (.invokevirtual 51, 3) := by decide +kernel
theorem dX9_move_64 : decode cX9_move 64 = .ok (.ireturn, 1) := by decide +kernel
theorem dX9_move_65 : decode cX9_move 65 = .ok (.iload 5, 2) := by decide +kernel
theorem dX9_move_67 : decode cX9_move 67 = .ok (.ifCond .lt 39, 3) := by decide +kernel
theorem dX9_move_70 : decode cX9_move 70 = .ok (.iload_n 2, 1) := by decide +kernel
theorem dX9_move_71 : decode cX9_move 71 = .ok (.ifCond .lt 35, 3) := by decide +kernel
theorem dX9_move_74 : decode cX9_move 74 = .ok (.iload 4, 2) := by decide +kernel
theorem dX9_move_76 : decode cX9_move 76 = .ok (.ifCond .lt 30, 3) := by decide +kernel
theorem dX9_move_79 : decode cX9_move 79 = .ok (.iload_n 2, 1) := by decide +kernel
theorem dX9_move_80 : decode cX9_move 80 = .ok (.aload_n 0, 1) := by decide +kernel
theorem dX9_move_81 : decode cX9_move 81 = .ok (.getfield 37, 3) := by decide +kernel
theorem dX9_move_84 : decode cX9_move 84 = .ok (.iload_n 1, 1) := by decide +kernel
theorem dX9_move_85 : decode cX9_move 85 = .ok (.iaload, 1) := by decide +kernel
theorem dX9_move_86 : decode cX9_move 86 = .ok (.iload 5, 2) := by decide +kernel
theorem dX9_move_88 : decode cX9_move 88 = .ok (.isub, 1) := by decide +kernel
theorem dX9_move_89 : decode cX9_move 89 = .ok (.if_icmp .gt 17, 3) := by decide +kernel
theorem dX9_move_92 : decode cX9_move 92 = .ok (.iload 4, 2) := by decide +kernel
theorem dX9_move_94 : decode cX9_move 94 = .ok (.aload_n 0, 1) := by decide +kernel
theorem dX9_move_95 : decode cX9_move 95 = .ok (.getfield 37, 3) := by decide +kernel
theorem dX9_move_98 : decode cX9_move 98 = .ok (.iload_n 3, 1) := by decide +kernel
theorem dX9_move_99 : decode cX9_move 99 = .ok (.iaload, 1) := by decide +kernel
theorem dX9_move_100 : decode cX9_move 100 = .ok (.iload 5, 2) := by decide +kernel
theorem dX9_move_102 : decode cX9_move 102 = .ok (.isub, 1) := by decide +kernel
theorem dX9_move_103 : decode cX9_move 103 = .ok (.if_icmp .le 9, 3) := by decide +kernel
theorem dX9_move_106 : decode cX9_move 106 = .ok (.aload_n 0, 1) := by decide +kernel
theorem dX9_move_107 : decode cX9_move 107 = .ok (.iconst 1, 1) := by decide +kernel
theorem dX9_move_108 : decode cX9_move 108 = .ok (.invokevirtual 51, 3) := by decide +kernel
theorem dX9_move_111 : decode cX9_move 111 = .ok (.ireturn, 1) := by decide +kernel
theorem dX9_move_112 : decode cX9_move 112 = .ok (.iconst 0, 1) := by decide +kernel
theorem dX9_move_113 : decode cX9_move 113 = .ok (.istore 6, 2) := by decide +kernel
theorem dX9_move_115 : decode cX9_move 115 = .ok (.iload 6, 2) := by decide +kernel
theorem dX9_move_117 : decode cX9_move 117 = .ok (.iload 5, 2) := by decide +kernel
theorem dX9_move_119 : decode cX9_move 119 = .ok (.if_icmp .ge 30, 3) := by decide +kernel
theorem dX9_move_122 : decode cX9_move 122 = .ok (.aload_n 0, 1) := by decide +kernel
theorem dX9_move_123 : decode cX9_move 123 = .ok (.getfield 43, 3) := by decide +kernel
theorem dX9_move_126 : decode cX9_move 126 = .ok (.iload 6, 2) := by decide +kernel
theorem dX9_move_128 : decode cX9_move 128 = .ok (.aload_n 0, 1) := by decide +kernel
theorem dX9_move_129 : decode cX9_move 129 = .ok (.getfield 40, 3) := by decide +kernel
theorem dX9_move_132 : decode cX9_move 132 = .ok (.bipush 24, 2) := by decide +kernel
theorem dX9_move_134 : decode cX9_move 134 = .ok (.iload_n 1, 1) := by decide +kernel
theorem dX9_move_135 : decode cX9_move 135 = .ok (.imul, 1) := by decide +kernel
theorem dX9_move_136 : decode cX9_move 136 = .ok (.iload_n 2, 1) := by decide +kernel
theorem dX9_move_137 : decode cX9_move 137 = .ok (.iadd, 1) := by decide +kernel
theorem dX9_move_138 : decode cX9_move 138 = .ok (.iload 6, 2) := by decide +kernel
theorem dX9_move_140 : decode cX9_move 140 = .ok (.iadd, 1) := by decide +kernel
theorem dX9_move_141 : decode cX9_move 141 = .ok (.iaload, 1) := by decide +kernel
theorem dX9_move_142 : decode cX9_move 142 = .ok (.iastore, 1) := by decide +kernel
theorem dX9_move_143 : decode cX9_move 143 = .ok (.iinc 6 1, 3) := by decide +kernel
theorem dX9_move_146 : decode cX9_move 146 = .ok (.goto (-31), 3) := by decide +kernel
theorem dX9_move_149 : decode cX9_move 149 = .ok (.iconst 0, 1) := by decide +kernel
theorem dX9_move_150 : decode cX9_move 150 = .ok (.istore 6, 2) := by decide +kernel
theorem dX9_move_152 : decode cX9_move 152 = .ok (.iload 6, 2) := by decide +kernel
theorem dX9_move_154 : decode cX9_move 154 = .ok (.iload 5, 2) := by decide +kernel
theorem dX9_move_156 : decode cX9_move 156 = .ok (.if_icmp .ge 31, 3) := by decide +kernel
theorem dX9_move_159 : decode cX9_move 159 = .ok (.aload_n 0, 1) := by decide +kernel
theorem dX9_move_160 : decode cX9_move 160 = .ok (.getfield 40, 3) := by decide +kernel
theorem dX9_move_163 : decode cX9_move 163 = .ok (.bipush 24, 2) := by decide +kernel
theorem dX9_move_165 : decode cX9_move 165 = .ok (.iload_n 3, 1) := by decide +kernel
theorem dX9_move_166 : decode cX9_move 166 = .ok (.imul, 1) := by decide +kernel
theorem dX9_move_167 : decode cX9_move 167 = .ok (.iload 4, 2) := by decide +kernel
theorem dX9_move_169 : decode cX9_move 169 = .ok (.iadd, 1) := by decide +kernel
theorem dX9_move_170 : decode cX9_move 170 = .ok (.iload 6, 2) := by decide +kernel
theorem dX9_move_172 : decode cX9_move 172 = .ok (.iadd, 1) := by decide +kernel
theorem dX9_move_173 : decode cX9_move 173 = .ok (.aload_n 0, 1) := by decide +kernel
theorem dX9_move_174 : decode cX9_move 174 = .ok (.getfield 43, 3) := by decide +kernel
theorem dX9_move_177 : decode cX9_move 177 = .ok (.iload 6, 2) := by decide +kernel
theorem dX9_move_179 : decode cX9_move 179 = .ok (.iaload, 1) := by decide +kernel
theorem dX9_move_180 : decode cX9_move 180 = .ok (.iastore, 1) := by decide +kernel
theorem dX9_move_181 : decode cX9_move 181 = .ok (.iinc 6 1, 3) := by decide +kernel
theorem dX9_move_184 : decode cX9_move 184 = .ok (.goto (-32), 3) := by decide +kernel
theorem dX9_move_187 : decode cX9_move 187 = .ok (.iload 5, 2) := by decide +kernel
theorem dX9_move_189 : decode cX9_move 189 = .ok (.ireturn, 1) := by decide +kernel
theorem dX9_lacks_0 : decode cX9_lacks 0 = .ok (.iload_n 1, 1) := by decide +kernel
theorem dX9_lacks_1 : decode cX9_lacks 1 = .ok (.invokestatic 195, 3) := by decide +kernel
theorem dX9_lacks_4 : decode cX9_lacks 4 = .ok (.ifCond .ne 7, 3) := by decide +kernel
theorem dX9_lacks_7 : decode cX9_lacks 7 = .ok (.iconst 1, 1) := by decide +kernel
theorem dX9_lacks_8 : decode cX9_lacks 8 = .ok (.goto 17, 3) := by decide +kernel
theorem dX9_lacks_11 : decode cX9_lacks 11 = .ok (.aload_n 0, 1) := by decide +kernel
theorem dX9_lacks_12 : decode cX9_lacks 12 = .ok (.getfield 34, 3) := by decide +kernel
theorem dX9_lacks_15 : decode cX9_lacks 15 = .ok (.iload_n 1, 1) := by decide +kernel
theorem dX9_lacks_16 : decode cX9_lacks 16 = .ok (.iaload, 1) := by decide +kernel
theorem dX9_lacks_17 : decode cX9_lacks 17 = .ok (.ifCond .ne 7, 3) := by decide +kernel
theorem dX9_lacks_20 : decode cX9_lacks 20 = .ok (.iconst 2, 1) := by decide +kernel
theorem dX9_lacks_21 : decode cX9_lacks 21 = .ok (.goto 4, 3) := by decide +kernel
theorem dX9_lacks_24 : decode cX9_lacks 24 = .ok (.iconst 0, 1) := by decide +kernel
theorem dX9_lacks_25 : decode cX9_lacks 25 = .ok (.ireturn, 1) := by decide +kernel
theorem dX9_hearAll_0 : decode cX9_hearAll 0 = .ok (.aload_n 0, 1) := by decide +kernel
theorem dX9_hearAll_1 : decode cX9_hearAll 1 = .ok (.iload_n 1, 1) := by decide +kernel
theorem dX9_hearAll_2 : decode cX9_hearAll 2 = .ok (.invokevirtual 229, 3) := by decide +kernel
theorem dX9_hearAll_5 : decode cX9_hearAll 5 = .ok (.istore_n 2, 1) := by decide +kernel
theorem dX9_hearAll_6 : decode cX9_hearAll 6 = .ok (.iload_n 2, 1) := by decide +kernel
theorem dX9_hearAll_7 : decode cX9_hearAll 7 = .ok (.ifCond .eq 9, 3) := by decide +kernel
theorem dX9_hearAll_10 : decode cX9_hearAll 10 = .ok (.aload_n 0, 1) := by decide +kernel
theorem dX9_hearAll_11 : decode cX9_hearAll 11 = .ok (.iload_n 2, 1) := by decide +kernel
theorem dX9_hearAll_12 : decode cX9_hearAll 12 = .ok (.invokevirtual 51, 3) := by decide +kernel
theorem dX9_hearAll_15 : decode cX9_hearAll 15 = .ok (.ireturn, 1) := by decide +kernel
theorem dX9_hearAll_16 : decode cX9_hearAll 16 = .ok (.iconst 0, 1) := by decide +kernel
theorem dX9_hearAll_17 : decode cX9_hearAll 17 = .ok (.istore_n 3, 1) := by decide +kernel
theorem dX9_hearAll_18 : decode cX9_hearAll 18 = .ok (.iload_n 3, 1) := by decide +kernel
theorem dX9_hearAll_19 : decode cX9_hearAll 19 = .ok (.aload_n 0, 1) := by decide +kernel
theorem dX9_hearAll_20 : decode cX9_hearAll 20 = .ok (.getfield 37, 3) := by decide +kernel
theorem dX9_hearAll_23 : decode cX9_hearAll 23 = .ok (.iload_n 1, 1) := by decide +kernel
theorem dX9_hearAll_24 : decode cX9_hearAll 24 = .ok (.iaload, 1) := by decide +kernel
theorem dX9_hearAll_25 : decode cX9_hearAll 25 = .ok (.if_icmp .ge 58, 3) := by decide +kernel
theorem dX9_hearAll_28 : decode cX9_hearAll 28 = .ok (.iload_n 3, 1) := by decide +kernel
theorem dX9_hearAll_29 : decode cX9_hearAll 29 = .ok (.aload_n 0, 1) := by decide +kernel
theorem dX9_hearAll_30 : decode cX9_hearAll 30 = .ok (.getfield 7, 3) := by decide +kernel
theorem dX9_hearAll_33 : decode cX9_hearAll 33 = .ok (.bipush 8, 2) := by decide +kernel
theorem dX9_hearAll_35 : decode cX9_hearAll 35 = .ok (.iaload, 1) := by decide +kernel
theorem dX9_hearAll_36 : decode cX9_hearAll 36 = .ok (.if_icmp .ge 47, 3) := by decide +kernel
theorem dX9_hearAll_39 : decode cX9_hearAll 39 = .ok (.aload_n 0, 1) := by decide +kernel
theorem dX9_hearAll_40 : decode cX9_hearAll 40 = .ok (.getfield 40, 3) := by decide +kernel
theorem dX9_hearAll_43 : decode cX9_hearAll 43 = .ok (.bipush 24, 2) := by decide +kernel
theorem dX9_hearAll_45 : decode cX9_hearAll 45 = .ok (.iload_n 1, 1) := by decide +kernel
theorem dX9_hearAll_46 : decode cX9_hearAll 46 = .ok (.imul, 1) := by decide +kernel
theorem dX9_hearAll_47 : decode cX9_hearAll 47 = .ok (.iload_n 3, 1) := by decide +kernel
theorem dX9_hearAll_48 : decode cX9_hearAll 48 = .ok (.iadd, 1) := by decide +kernel
theorem dX9_hearAll_49 : decode cX9_hearAll 49 = .ok (.iaload, 1) := by decide +kernel
theorem dX9_hearAll_50 : decode cX9_hearAll 50 = .ok (.iconst 0, 1) := by decide +kernel
theorem dX9_hearAll_51 : decode cX9_hearAll 51 = .ok (.sipush 9999, 3) := by decide +kernel
theorem dX9_hearAll_54 : decode cX9_hearAll 54 = .ok (.invokestatic 47, 3) := by decide +kernel
theorem dX9_hearAll_57 : decode cX9_hearAll 57 = .ok (.ifCond .eq 26, 3) := by decide +kernel
theorem dX9_hearAll_60 : decode cX9_hearAll 60 = .ok (.aload_n 0, 1) := by decide +kernel
theorem dX9_hearAll_61 : decode cX9_hearAll 61 = .ok (.iload_n 3, 1) := by decide +kernel
theorem dX9_hearAll_62 : decode cX9_hearAll 62 = .ok (.iconst 2, 1) := by decide +kernel
theorem dX9_hearAll_63 : decode cX9_hearAll 63 = .ok (.aload_n 0, 1) := by decide +kernel
theorem dX9_hearAll_64 : decode cX9_hearAll 64 = .ok (.getfield 40, 3) := by decide +kernel
theorem dX9_hearAll_67 : decode cX9_hearAll 67 = .ok (.bipush 24, 2) := by decide +kernel
theorem dX9_hearAll_69 : decode cX9_hearAll 69 = .ok (.iload_n 1, 1) := by decide +kernel
theorem dX9_hearAll_70 : decode cX9_hearAll 70 = .ok (.imul, 1) := by decide +kernel
theorem dX9_hearAll_71 : decode cX9_hearAll 71 = .ok (.iload_n 3, 1) := by decide +kernel
theorem dX9_hearAll_72 : decode cX9_hearAll 72 = .ok (.iadd, 1) := by decide +kernel
theorem dX9_hearAll_73 : decode cX9_hearAll 73 = .ok (.iaload, 1) := by decide +kernel
theorem dX9_hearAll_74 : decode cX9_hearAll 74 = .ok (.invokevirtual 143, 3) := by decide +kernel
theorem dX9_hearAll_77 : decode cX9_hearAll 77 = .ok (.iinc 3 1, 3) := by decide +kernel
theorem dX9_hearAll_80 : decode cX9_hearAll 80 = .ok (.goto (-62), 3) := by decide +kernel
theorem dX9_hearAll_83 : decode cX9_hearAll 83 = .ok (.iload_n 3, 1) := by decide +kernel
theorem dX9_hearAll_84 : decode cX9_hearAll 84 = .ok (.ireturn, 1) := by decide +kernel
theorem dX9_judge_0 : decode cX9_judge 0 = .ok (.aload_n 0, 1) := by decide +kernel
theorem dX9_judge_1 : decode cX9_judge 1 = .ok (.iload_n 1, 1) := by decide +kernel
theorem dX9_judge_2 : decode cX9_judge 2 = .ok (.invokevirtual 229, 3) := by decide +kernel
theorem dX9_judge_5 : decode cX9_judge 5 = .ok (.istore_n 2, 1) := by decide +kernel
theorem dX9_judge_6 : decode cX9_judge 6 = .ok (.iload_n 2, 1) := by decide +kernel
theorem dX9_judge_7 : decode cX9_judge 7 = .ok (.ifCond .eq 9, 3) := by decide +kernel
theorem dX9_judge_10 : decode cX9_judge 10 = .ok (.aload_n 0, 1) := by decide +kernel
theorem dX9_judge_11 : decode cX9_judge 11 = .ok (.iload_n 2, 1) := by decide +kernel
theorem dX9_judge_12 : decode cX9_judge 12 = .ok (.invokevirtual 51, 3) := by decide +kernel
theorem dX9_judge_15 : decode cX9_judge 15 = .ok (.ireturn, 1) := by decide +kernel
theorem dX9_judge_16 : decode cX9_judge 16 = .ok (.iconst 0, 1) := by decide +kernel
theorem dX9_judge_17 : decode cX9_judge 17 = .ok (.istore_n 3, 1) := by decide +kernel
theorem dX9_judge_18 : decode cX9_judge 18 = .ok (.iload_n 3, 1) := by decide +kernel
theorem dX9_judge_19 : decode cX9_judge 19 = .ok (.aload_n 0, 1) := by decide +kernel
theorem dX9_judge_20 : decode cX9_judge 20 = .ok (.getfield 37, 3) := by decide +kernel
theorem dX9_judge_23 : decode cX9_judge 23 = .ok (.iload_n 1, 1) := by decide +kernel
theorem dX9_judge_24 : decode cX9_judge 24 = .ok (.iaload, 1) := by decide +kernel
theorem dX9_judge_25 : decode cX9_judge 25 = .ok (.if_icmp .ge 40, 3) := by decide +kernel
theorem dX9_judge_28 : decode cX9_judge 28 = .ok (.iload_n 3, 1) := by decide +kernel
theorem dX9_judge_29 : decode cX9_judge 29 = .ok (.aload_n 0, 1) := by decide +kernel
theorem dX9_judge_30 : decode cX9_judge 30 = .ok (.getfield 7, 3) := by decide +kernel
theorem dX9_judge_33 : decode cX9_judge 33 = .ok (.bipush 8, 2) := by decide +kernel
theorem dX9_judge_35 : decode cX9_judge 35 = .ok (.iaload, 1) := by decide +kernel
theorem dX9_judge_36 : decode cX9_judge 36 = .ok (.if_icmp .ge 29, 3) := by decide +kernel
theorem dX9_judge_39 : decode cX9_judge 39 = .ok (.aload_n 0, 1) := by decide +kernel
theorem dX9_judge_40 : decode cX9_judge 40 = .ok (.getfield 40, 3) := by decide +kernel
theorem dX9_judge_43 : decode cX9_judge 43 = .ok (.bipush 24, 2) := by decide +kernel
theorem dX9_judge_45 : decode cX9_judge 45 = .ok (.iload_n 1, 1) := by decide +kernel
theorem dX9_judge_46 : decode cX9_judge 46 = .ok (.imul, 1) := by decide +kernel
theorem dX9_judge_47 : decode cX9_judge 47 = .ok (.iload_n 3, 1) := by decide +kernel
theorem dX9_judge_48 : decode cX9_judge 48 = .ok (.iadd, 1) := by decide +kernel
theorem dX9_judge_49 : decode cX9_judge 49 = .ok (.iaload, 1) := by decide +kernel
theorem dX9_judge_50 : decode cX9_judge 50 = .ok (.aload_n 0, 1) := by decide +kernel
theorem dX9_judge_51 : decode cX9_judge 51 = .ok (.iload_n 3, 1) := by decide +kernel
theorem dX9_judge_52 : decode cX9_judge 52 = .ok (.iconst 3, 1) := by decide +kernel
theorem dX9_judge_53 : decode cX9_judge 53 = .ok (.invokevirtual 111, 3) := by decide +kernel
theorem dX9_judge_56 : decode cX9_judge 56 = .ok (.if_icmp .ne 9, 3) := by decide +kernel
theorem dX9_judge_59 : decode cX9_judge 59 = .ok (.iinc 3 1, 3) := by decide +kernel
theorem dX9_judge_62 : decode cX9_judge 62 = .ok (.goto (-44), 3) := by decide +kernel
theorem dX9_judge_65 : decode cX9_judge 65 = .ok (.iload_n 3, 1) := by decide +kernel
theorem dX9_judge_66 : decode cX9_judge 66 = .ok (.ireturn, 1) := by decide +kernel
theorem dX9_image_0 : decode cX9_image 0 = .ok (.aload_n 0, 1) := by decide +kernel
theorem dX9_image_1 : decode cX9_image 1 = .ok (.getfield 7, 3) := by decide +kernel
theorem dX9_image_4 : decode cX9_image 4 = .ok (.aload_n 0, 1) := by decide +kernel
theorem dX9_image_5 : decode cX9_image 5 = .ok (.getfield 13, 3) := by decide +kernel
theorem dX9_image_8 : decode cX9_image 8 = .ok (.invokestatic 232, 3) := by decide +kernel
theorem dX9_image_11 : decode cX9_image 11 = .ok (.aload_n 0, 1) := by decide +kernel
theorem dX9_image_12 : decode cX9_image 12 = .ok (.dup, 1) := by decide +kernel
theorem dX9_image_13 : decode cX9_image 13 = .ok (.getfield 236, 3) := by decide +kernel
theorem dX9_image_16 : decode cX9_image 16 = .ok (.iconst 1, 1) := by decide +kernel
theorem dX9_image_17 : decode cX9_image 17 = .ok (.iadd, 1) := by decide +kernel
theorem dX9_image_18 : decode cX9_image 18 = .ok (.putfield 236, 3) := by decide +kernel
theorem dX9_image_21 : decode cX9_image 21 = .ok (.aload_n 0, 1) := by decide +kernel
theorem dX9_image_22 : decode cX9_image 22 = .ok (.getfield 236, 3) := by decide +kernel
theorem dX9_image_25 : decode cX9_image 25 = .ok (.ireturn, 1) := by decide +kernel
theorem dX9_restore_0 : decode cX9_restore 0 = .ok (.aload_n 0, 1) := by decide +kernel
theorem dX9_restore_1 : decode cX9_restore 1 = .ok (.getfield 236, 3) := by decide +kernel
theorem dX9_restore_4 : decode cX9_restore 4 = .ok (.ifCond .ne 9, 3) := by decide +kernel
theorem dX9_restore_7 : decode cX9_restore 7 = .ok (.aload_n 0, 1) := by decide +kernel
theorem dX9_restore_8 : decode cX9_restore 8 = .ok (.iconst 2, 1) := by decide +kernel
theorem dX9_restore_9 : decode cX9_restore 9 = .ok (.invokevirtual 51, 3) := by decide +kernel
theorem dX9_restore_12 : decode cX9_restore 12 = .ok (.ireturn, 1) := by decide +kernel
theorem dX9_restore_13 : decode cX9_restore 13 = .ok (.aload_n 0, 1) := by decide +kernel
theorem dX9_restore_14 : decode cX9_restore 14 = .ok (.getfield 13, 3) := by decide +kernel
theorem dX9_restore_17 : decode cX9_restore 17 = .ok (.aload_n 0, 1) := by decide +kernel
theorem dX9_restore_18 : decode cX9_restore 18 = .ok (.getfield 7, 3) := by decide +kernel
theorem dX9_restore_21 : decode cX9_restore 21 = .ok (.invokestatic 232, 3) := by decide +kernel
theorem dX9_restore_24 : decode cX9_restore 24 = .ok (.aload_n 0, 1) := by decide +kernel
theorem dX9_restore_25 : decode cX9_restore 25 = .ok (.getfield 7, 3) := by decide +kernel
theorem dX9_restore_28 : decode cX9_restore 28 = .ok (.iconst 0, 1) := by decide +kernel
theorem dX9_restore_29 : decode cX9_restore 29 = .ok (.iaload, 1) := by decide +kernel
theorem dX9_restore_30 : decode cX9_restore 30 = .ok (.ireturn, 1) := by decide +kernel
theorem dX9_tell_0 : decode cX9_tell 0 = .ok (.aload_n 0, 1) := by decide +kernel
theorem dX9_tell_1 : decode cX9_tell 1 = .ok (.getfield 7, 3) := by decide +kernel
theorem dX9_tell_4 : decode cX9_tell 4 = .ok (.bipush 7, 2) := by decide +kernel
theorem dX9_tell_6 : decode cX9_tell 6 = .ok (.iaload, 1) := by decide +kernel
theorem dX9_tell_7 : decode cX9_tell 7 = .ok (.bipush 24, 2) := by decide +kernel
theorem dX9_tell_9 : decode cX9_tell 9 = .ok (.if_icmp .ne 9, 3) := by decide +kernel
theorem dX9_tell_12 : decode cX9_tell 12 = .ok (.aload_n 0, 1) := by decide +kernel
theorem dX9_tell_13 : decode cX9_tell 13 = .ok (.iconst 4, 1) := by decide +kernel
theorem dX9_tell_14 : decode cX9_tell 14 = .ok (.invokevirtual 51, 3) := by decide +kernel
theorem dX9_tell_17 : decode cX9_tell 17 = .ok (.ireturn, 1) := by decide +kernel
theorem dX9_tell_18 : decode cX9_tell 18 = .ok (.aload_n 0, 1) := by decide +kernel
theorem dX9_tell_19 : decode cX9_tell 19 = .ok (.getfield 7, 3) := by decide +kernel
theorem dX9_tell_22 : decode cX9_tell 22 = .ok (.sipush 359, 3) := by decide +kernel
theorem dX9_tell_25 : decode cX9_tell 25 = .ok (.aload_n 0, 1) := by decide +kernel
theorem dX9_tell_26 : decode cX9_tell 26 = .ok (.getfield 7, 3) := by decide +kernel
theorem dX9_tell_29 : decode cX9_tell 29 = .ok (.bipush 7, 2) := by decide +kernel
theorem dX9_tell_31 : decode cX9_tell 31 = .ok (.iaload, 1) := by decide +kernel
theorem dX9_tell_32 : decode cX9_tell 32 = .ok (.iadd, 1) := by decide +kernel
theorem dX9_tell_33 : decode cX9_tell 33 = .ok (.iload_n 1, 1) := by decide +kernel
theorem dX9_tell_34 : decode cX9_tell 34 = .ok (.iastore, 1) := by decide +kernel
theorem dX9_tell_35 : decode cX9_tell 35 = .ok (.aload_n 0, 1) := by decide +kernel
theorem dX9_tell_36 : decode cX9_tell 36 = .ok (.getfield 7, 3) := by decide +kernel
theorem dX9_tell_39 : decode cX9_tell 39 = .ok (.bipush 7, 2) := by decide +kernel
theorem dX9_tell_41 : decode cX9_tell 41 = .ok (.dup2, 1) := by decide +kernel
theorem dX9_tell_42 : decode cX9_tell 42 = .ok (.iaload, 1) := by decide +kernel
theorem dX9_tell_43 : decode cX9_tell 43 = .ok (.iconst 1, 1) := by decide +kernel
theorem dX9_tell_44 : decode cX9_tell 44 = .ok (.iadd, 1) := by decide +kernel
theorem dX9_tell_45 : decode cX9_tell 45 = .ok (.iastore, 1) := by decide +kernel
theorem dX9_tell_46 : decode cX9_tell 46 = .ok (.aload_n 0, 1) := by decide +kernel
theorem dX9_tell_47 : decode cX9_tell 47 = .ok (.getfield 7, 3) := by decide +kernel
theorem dX9_tell_50 : decode cX9_tell 50 = .ok (.bipush 7, 2) := by decide +kernel
theorem dX9_tell_52 : decode cX9_tell 52 = .ok (.iaload, 1) := by decide +kernel
theorem dX9_tell_53 : decode cX9_tell 53 = .ok (.ireturn, 1) := by decide +kernel
theorem dX9_check_0 : decode cX9_check 0 = .ok (.aload_n 0, 1) := by decide +kernel
theorem dX9_check_1 : decode cX9_check 1 = .ok (.getfield 7, 3) := by decide +kernel
theorem dX9_check_4 : decode cX9_check 4 = .ok (.bipush 7, 2) := by decide +kernel
theorem dX9_check_6 : decode cX9_check 6 = .ok (.iaload, 1) := by decide +kernel
theorem dX9_check_7 : decode cX9_check 7 = .ok (.istore_n 1, 1) := by decide +kernel
theorem dX9_check_8 : decode cX9_check 8 = .ok (.aload_n 0, 1) := by decide +kernel
theorem dX9_check_9 : decode cX9_check 9 = .ok (.getfield 7, 3) := by decide +kernel
theorem dX9_check_12 : decode cX9_check 12 = .ok (.bipush 7, 2) := by decide +kernel
theorem dX9_check_14 : decode cX9_check 14 = .ok (.iconst 0, 1) := by decide +kernel
theorem dX9_check_15 : decode cX9_check 15 = .ok (.iastore, 1) := by decide +kernel
theorem dX9_check_16 : decode cX9_check 16 = .ok (.iconst 0, 1) := by decide +kernel
theorem dX9_check_17 : decode cX9_check 17 = .ok (.istore_n 2, 1) := by decide +kernel
theorem dX9_check_18 : decode cX9_check 18 = .ok (.iload_n 2, 1) := by decide +kernel
theorem dX9_check_19 : decode cX9_check 19 = .ok (.iload_n 1, 1) := by decide +kernel
theorem dX9_check_20 : decode cX9_check 20 = .ok (.if_icmp .ge 39, 3) := by decide +kernel
theorem dX9_check_23 : decode cX9_check 23 = .ok (.aload_n 0, 1) := by decide +kernel
theorem dX9_check_24 : decode cX9_check 24 = .ok (.iload_n 2, 1) := by decide +kernel
theorem dX9_check_25 : decode cX9_check 25 = .ok (.invokevirtual 156, 3) := by decide +kernel
theorem dX9_check_28 : decode cX9_check 28 = .ok (.ifCond .eq 21, 3) := by decide +kernel
theorem dX9_check_31 : decode cX9_check 31 = .ok (.aload_n 0, 1) := by decide +kernel
theorem dX9_check_32 : decode cX9_check 32 = .ok (.getfield 7, 3) := by decide +kernel
theorem dX9_check_35 : decode cX9_check 35 = .ok (.sipush 359, 3) := by decide +kernel
theorem dX9_check_38 : decode cX9_check 38 = .ok (.iload_n 2, 1) := by decide +kernel
theorem dX9_check_39 : decode cX9_check 39 = .ok (.iadd, 1) := by decide +kernel
theorem dX9_check_40 : decode cX9_check 40 = .ok (.iaload, 1) := by decide +kernel
theorem dX9_check_41 : decode cX9_check 41 = .ok (.aload_n 0, 1) := by decide +kernel
theorem dX9_check_42 : decode cX9_check 42 = .ok (.iload_n 2, 1) := by decide +kernel
theorem dX9_check_43 : decode cX9_check 43 = .ok (.invokevirtual 134, 3) := by decide +kernel
theorem dX9_check_46 : decode cX9_check 46 = .ok (.if_icmp .eq 7, 3) := by decide +kernel
theorem dX9_check_49 : decode cX9_check 49 = .ok (.iconst 1, 1) := by decide +kernel
theorem dX9_check_50 : decode cX9_check 50 = .ok (.iload_n 2, 1) := by decide +kernel
theorem dX9_check_51 : decode cX9_check 51 = .ok (.iadd, 1) := by decide +kernel
theorem dX9_check_52 : decode cX9_check 52 = .ok (.ireturn, 1) := by decide +kernel
theorem dX9_check_53 : decode cX9_check 53 = .ok (.iinc 2 1, 3) := by decide +kernel
theorem dX9_check_56 : decode cX9_check 56 = .ok (.goto (-38), 3) := by decide +kernel
theorem dX9_check_59 : decode cX9_check 59 = .ok (.iconst 0, 1) := by decide +kernel
theorem dX9_check_60 : decode cX9_check 60 = .ok (.ireturn, 1) := by decide +kernel
theorem dX9_pastNow_0 : decode cX9_pastNow 0 = .ok (.iconst 0, 1) := by decide +kernel
theorem dX9_pastNow_1 : decode cX9_pastNow 1 = .ok (.istore_n 1, 1) := by decide +kernel
theorem dX9_pastNow_2 : decode cX9_pastNow 2 = .ok (.iconst 0, 1) := by decide +kernel
theorem dX9_pastNow_3 : decode cX9_pastNow 3 = .ok (.istore_n 2, 1) := by decide +kernel
theorem dX9_pastNow_4 : decode cX9_pastNow 4 = .ok (.iload_n 2, 1) := by decide +kernel
theorem dX9_pastNow_5 : decode cX9_pastNow 5 = .ok (.aload_n 0, 1) := by decide +kernel
theorem dX9_pastNow_6 : decode cX9_pastNow 6 = .ok (.getfield 7, 3) := by decide +kernel
theorem dX9_pastNow_9 : decode cX9_pastNow 9 = .ok (.bipush 8, 2) := by decide +kernel
theorem dX9_pastNow_11 : decode cX9_pastNow 11 = .ok (.iaload, 1) := by decide +kernel
theorem dX9_pastNow_12 : decode cX9_pastNow 12 = .ok (.if_icmp .ge 20, 3) := by decide +kernel
theorem dX9_pastNow_15 : decode cX9_pastNow 15 = .ok (.iload_n 1, 1) := by decide +kernel
theorem dX9_pastNow_16 : decode cX9_pastNow 16 = .ok (.aload_n 0, 1) := by decide +kernel
theorem dX9_pastNow_17 : decode cX9_pastNow 17 = .ok (.iload_n 2, 1) := by decide +kernel
theorem dX9_pastNow_18 : decode cX9_pastNow 18 = .ok (.iconst 4, 1) := by decide +kernel
theorem dX9_pastNow_19 : decode cX9_pastNow 19 = .ok (.invokevirtual 111, 3) := by decide +kernel
theorem dX9_pastNow_22 : decode cX9_pastNow 22 = .ok (.iload_n 2, 1) := by decide +kernel
theorem dX9_pastNow_23 : decode cX9_pastNow 23 = .ok (.ishl, 1) := by decide +kernel
theorem dX9_pastNow_24 : decode cX9_pastNow 24 = .ok (.ior, 1) := by decide +kernel
theorem dX9_pastNow_25 : decode cX9_pastNow 25 = .ok (.istore_n 1, 1) := by decide +kernel
theorem dX9_pastNow_26 : decode cX9_pastNow 26 = .ok (.iinc 2 1, 3) := by decide +kernel
theorem dX9_pastNow_29 : decode cX9_pastNow 29 = .ok (.goto (-25), 3) := by decide +kernel
theorem dX9_pastNow_32 : decode cX9_pastNow 32 = .ok (.iload_n 1, 1) := by decide +kernel
theorem dX9_pastNow_33 : decode cX9_pastNow 33 = .ok (.ireturn, 1) := by decide +kernel
theorem dX9_count_0 : decode cX9_count 0 = .ok (.iload_n 1, 1) := by decide +kernel
theorem dX9_count_1 : decode cX9_count 1 = .ok (.tableswitch 134 0 11 #[63, 71, 78, 85, 85, 85, 96, 101, 106, 114, 122, 127], 63) := by decide +kernel
theorem dX9_count_64 : decode cX9_count 64 = .ok (.aload_n 0, 1) := by decide +kernel
theorem dX9_count_65 : decode cX9_count 65 = .ok (.getfield 7, 3) := by decide +kernel
theorem dX9_count_68 : decode cX9_count 68 = .ok (.bipush 8, 2) := by decide +kernel
theorem dX9_count_70 : decode cX9_count 70 = .ok (.iaload, 1) := by decide +kernel
theorem dX9_count_71 : decode cX9_count 71 = .ok (.ireturn, 1) := by decide +kernel
theorem dX9_count_72 : decode cX9_count 72 = .ok (.aload_n 0, 1) := by decide +kernel
theorem dX9_count_73 : decode cX9_count 73 = .ok (.getfield 7, 3) := by decide +kernel
theorem dX9_count_76 : decode cX9_count 76 = .ok (.iconst 0, 1) := by decide +kernel
theorem dX9_count_77 : decode cX9_count 77 = .ok (.iaload, 1) := by decide +kernel
theorem dX9_count_78 : decode cX9_count 78 = .ok (.ireturn, 1) := by decide +kernel
theorem dX9_count_79 : decode cX9_count 79 = .ok (.aload_n 0, 1) := by decide +kernel
theorem dX9_count_80 : decode cX9_count 80 = .ok (.getfield 7, 3) := by decide +kernel
theorem dX9_count_83 : decode cX9_count 83 = .ok (.iconst 4, 1) := by decide +kernel
theorem dX9_count_84 : decode cX9_count 84 = .ok (.iaload, 1) := by decide +kernel
theorem dX9_count_85 : decode cX9_count 85 = .ok (.ireturn, 1) := by decide +kernel
theorem dX9_count_86 : decode cX9_count 86 = .ok (.aload_n 0, 1) := by decide +kernel
theorem dX9_count_87 : decode cX9_count 87 = .ok (.getfield 7, 3) := by decide +kernel
theorem dX9_count_90 : decode cX9_count 90 = .ok (.iconst 1, 1) := by decide +kernel
theorem dX9_count_91 : decode cX9_count 91 = .ok (.iload_n 1, 1) := by decide +kernel
theorem dX9_count_92 : decode cX9_count 92 = .ok (.iadd, 1) := by decide +kernel
theorem dX9_count_93 : decode cX9_count 93 = .ok (.iconst 3, 1) := by decide +kernel
theorem dX9_count_94 : decode cX9_count 94 = .ok (.isub, 1) := by decide +kernel
theorem dX9_count_95 : decode cX9_count 95 = .ok (.iaload, 1) := by decide +kernel
theorem dX9_count_96 : decode cX9_count 96 = .ok (.ireturn, 1) := by decide +kernel
theorem dX9_count_97 : decode cX9_count 97 = .ok (.aload_n 0, 1) := by decide +kernel
theorem dX9_count_98 : decode cX9_count 98 = .ok (.invokevirtual 173, 3) := by decide +kernel
theorem dX9_count_101 : decode cX9_count 101 = .ok (.ireturn, 1) := by decide +kernel
theorem dX9_count_102 : decode cX9_count 102 = .ok (.aload_n 0, 1) := by decide +kernel
theorem dX9_count_103 : decode cX9_count 103 = .ok (.invokevirtual 239, 3) := by decide +kernel
theorem dX9_count_106 : decode cX9_count 106 = .ok (.ireturn, 1) := by decide +kernel
theorem dX9_count_107 : decode cX9_count 107 = .ok (.aload_n 0, 1) := by decide +kernel
theorem dX9_count_108 : decode cX9_count 108 = .ok (.getfield 7, 3) := by decide +kernel
theorem dX9_count_111 : decode cX9_count 111 = .ok (.bipush 6, 2) := by decide +kernel
theorem dX9_count_113 : decode cX9_count 113 = .ok (.iaload, 1) := by decide +kernel
theorem dX9_count_114 : decode cX9_count 114 = .ok (.ireturn, 1) := by decide +kernel
theorem dX9_count_115 : decode cX9_count 115 = .ok (.aload_n 0, 1) := by decide +kernel
theorem dX9_count_116 : decode cX9_count 116 = .ok (.getfield 7, 3) := by decide +kernel
theorem dX9_count_119 : decode cX9_count 119 = .ok (.bipush 7, 2) := by decide +kernel
theorem dX9_count_121 : decode cX9_count 121 = .ok (.iaload, 1) := by decide +kernel
theorem dX9_count_122 : decode cX9_count 122 = .ok (.ireturn, 1) := by decide +kernel
theorem dX9_count_123 : decode cX9_count 123 = .ok (.aload_n 0, 1) := by decide +kernel
theorem dX9_count_124 : decode cX9_count 124 = .ok (.getfield 198, 3) := by decide +kernel
theorem dX9_count_127 : decode cX9_count 127 = .ok (.ireturn, 1) := by decide +kernel
theorem dX9_count_128 : decode cX9_count 128 = .ok (.aload_n 0, 1) := by decide +kernel
theorem dX9_count_129 : decode cX9_count 129 = .ok (.getfield 7, 3) := by decide +kernel
theorem dX9_count_132 : decode cX9_count 132 = .ok (.iconst 5, 1) := by decide +kernel
theorem dX9_count_133 : decode cX9_count 133 = .ok (.iaload, 1) := by decide +kernel
theorem dX9_count_134 : decode cX9_count 134 = .ok (.ireturn, 1) := by decide +kernel
theorem dX9_count_135 : decode cX9_count 135 = .ok (.aload_n 0, 1) := by decide +kernel
theorem dX9_count_136 : decode cX9_count 136 = .ok (.iconst 1, 1) := by decide +kernel
theorem dX9_count_137 : decode cX9_count 137 = .ok (.invokevirtual 51, 3) := by decide +kernel
theorem dX9_count_140 : decode cX9_count 140 = .ok (.ireturn, 1) := by decide +kernel
theorem dX9_told_0 : decode cX9_told 0 = .ok (.iload_n 1, 1) := by decide +kernel
theorem dX9_told_1 : decode cX9_told 1 = .ok (.iconst 1, 1) := by decide +kernel
theorem dX9_told_2 : decode cX9_told 2 = .ok (.bipush 6, 2) := by decide +kernel
theorem dX9_told_4 : decode cX9_told 4 = .ok (.invokestatic 47, 3) := by decide +kernel
theorem dX9_told_7 : decode cX9_told 7 = .ok (.ifCond .eq 12, 3) := by decide +kernel
theorem dX9_told_10 : decode cX9_told 10 = .ok (.aload_n 0, 1) := by decide +kernel
theorem dX9_told_11 : decode cX9_told 11 = .ok (.getfield 19, 3) := by decide +kernel
theorem dX9_told_14 : decode cX9_told 14 = .ok (.iload_n 1, 1) := by decide +kernel
theorem dX9_told_15 : decode cX9_told 15 = .ok (.iaload, 1) := by decide +kernel
theorem dX9_told_16 : decode cX9_told 16 = .ok (.goto 8, 3) := by decide +kernel
theorem dX9_told_19 : decode cX9_told 19 = .ok (.aload_n 0, 1) := by decide +kernel
theorem dX9_told_20 : decode cX9_told 20 = .ok (.iconst 1, 1) := by decide +kernel
theorem dX9_told_21 : decode cX9_told 21 = .ok (.invokevirtual 51, 3) := by decide +kernel
theorem dX9_told_24 : decode cX9_told 24 = .ok (.ireturn, 1) := by decide +kernel
end
section
theorem dL_law_0 : decode cL_law 0 = .ok (.new 7, 3) := by decide +kernel
theorem dL_law_3 : decode cL_law 3 = .ok (.dup, 1) := by decide +kernel
theorem dL_law_4 : decode cL_law 4 = .ok (.invokespecial 9, 3) := by decide +kernel
theorem dL_law_7 : decode cL_law 7 = .ok (.astore_n 1, 1) := by decide +kernel
theorem dL_law_8 : decode cL_law 8 = .ok (.new 10, 3) := by decide +kernel
theorem dL_law_11 : decode cL_law 11 = .ok (.dup, 1) := by decide +kernel
theorem dL_law_12 : decode cL_law 12 = .ok (.invokespecial 12, 3) := by decide +kernel
theorem dL_law_15 : decode cL_law 15 = .ok (.astore_n 2, 1) := by decide +kernel
theorem dL_law_16 : decode cL_law 16 = .ok (.iconst 0, 1) := by decide +kernel
theorem dL_law_17 : decode cL_law 17 = .ok (.istore_n 3, 1) := by decide +kernel
theorem dL_law_18 : decode cL_law 18 = .ok (.iload_n 3, 1) := by decide +kernel
theorem dL_law_19 : decode cL_law 19 = .ok (.aload_n 0, 1) := by decide +kernel
theorem dL_law_20 : decode cL_law 20 = .ok (.arraylength, 1) := by decide +kernel
theorem dL_law_21 : decode cL_law 21 = .ok (.bipush 6, 2) := by decide +kernel
theorem dL_law_23 : decode cL_law 23 = .ok (.isub, 1) := by decide +kernel
theorem dL_law_24 : decode cL_law 24 = .ok (.if_icmp .gt 1302, 3) := by decide +kernel
theorem dL_law_27 : decode cL_law 27 = .ok (.aload_n 0, 1) := by decide +kernel
theorem dL_law_28 : decode cL_law 28 = .ok (.iload_n 3, 1) := by decide +kernel
theorem dL_law_29 : decode cL_law 29 = .ok (.iaload, 1) := by decide +kernel
theorem dL_law_30 : decode cL_law 30 = .ok (.bipush 63, 2) := by decide +kernel
theorem dL_law_32 : decode cL_law 32 = .ok (.iand, 1) := by decide +kernel
theorem dL_law_33 : decode cL_law 33 = .ok (.tableswitch 1287 0 35 #[159, 182, 215, 248, 281, 314, 337, 370, 403, 466, 489, 512, 565, 588, 611, 634, 657, 690, 723, 766, 799, 832, 885, 918, 961, 984, 1027, 1070, 1133, 1156, 1179, 1192, 1205, 1228, 1241, 1264], 159) := by decide +kernel
theorem dL_law_192 : decode cL_law 192 = .ok (.aload_n 1, 1) := by decide +kernel
theorem dL_law_193 : decode cL_law 193 = .ok (.aload_n 0, 1) := by decide +kernel
theorem dL_law_194 : decode cL_law 194 = .ok (.iload_n 3, 1) := by decide +kernel
theorem dL_law_195 : decode cL_law 195 = .ok (.iconst 1, 1) := by decide +kernel
theorem dL_law_196 : decode cL_law 196 = .ok (.iadd, 1) := by decide +kernel
theorem dL_law_197 : decode cL_law 197 = .ok (.iaload, 1) := by decide +kernel
theorem dL_law_198 : decode cL_law 198 = .ok (.invokevirtual 13, 3) := by decide +kernel
theorem dL_law_201 : decode cL_law 201 = .ok (.aload_n 2, 1) := by decide +kernel
theorem dL_law_202 : decode cL_law 202 = .ok (.aload_n 0, 1) := by decide +kernel
theorem dL_law_203 : decode cL_law 203 = .ok (.iload_n 3, 1) := by decide +kernel
theorem dL_law_204 : decode cL_law 204 = .ok (.iconst 1, 1) := by decide +kernel
theorem dL_law_205 : decode cL_law 205 = .ok (.iadd, 1) := by decide +kernel
theorem dL_law_206 : decode cL_law 206 = .ok (.iaload, 1) := by decide +kernel
theorem dL_law_207 : decode cL_law 207 = .ok (.invokevirtual 17, 3) := by decide +kernel
theorem dL_law_210 : decode cL_law 210 = .ok (.if_icmp .eq 1110, 3) := by decide +kernel
theorem dL_law_213 : decode cL_law 213 = .ok (.iconst 0, 1) := by decide +kernel
theorem dL_law_214 : decode cL_law 214 = .ok (.ireturn, 1) := by decide +kernel
theorem dL_law_215 : decode cL_law 215 = .ok (.aload_n 1, 1) := by decide +kernel
theorem dL_law_216 : decode cL_law 216 = .ok (.aload_n 0, 1) := by decide +kernel
theorem dL_law_217 : decode cL_law 217 = .ok (.iload_n 3, 1) := by decide +kernel
theorem dL_law_218 : decode cL_law 218 = .ok (.iconst 1, 1) := by decide +kernel
theorem dL_law_219 : decode cL_law 219 = .ok (.iadd, 1) := by decide +kernel
theorem dL_law_220 : decode cL_law 220 = .ok (.iaload, 1) := by decide +kernel
theorem dL_law_221 : decode cL_law 221 = .ok (.aload_n 0, 1) := by decide +kernel
theorem dL_law_222 : decode cL_law 222 = .ok (.iload_n 3, 1) := by decide +kernel
theorem dL_law_223 : decode cL_law 223 = .ok (.iconst 2, 1) := by decide +kernel
theorem dL_law_224 : decode cL_law 224 = .ok (.iadd, 1) := by decide +kernel
theorem dL_law_225 : decode cL_law 225 = .ok (.iaload, 1) := by decide +kernel
theorem dL_law_226 : decode cL_law 226 = .ok (.invokevirtual 18, 3) := by decide +kernel
theorem dL_law_229 : decode cL_law 229 = .ok (.aload_n 2, 1) := by decide +kernel
theorem dL_law_230 : decode cL_law 230 = .ok (.aload_n 0, 1) := by decide +kernel
theorem dL_law_231 : decode cL_law 231 = .ok (.iload_n 3, 1) := by decide +kernel
theorem dL_law_232 : decode cL_law 232 = .ok (.iconst 1, 1) := by decide +kernel
theorem dL_law_233 : decode cL_law 233 = .ok (.iadd, 1) := by decide +kernel
theorem dL_law_234 : decode cL_law 234 = .ok (.iaload, 1) := by decide +kernel
theorem dL_law_235 : decode cL_law 235 = .ok (.aload_n 0, 1) := by decide +kernel
theorem dL_law_236 : decode cL_law 236 = .ok (.iload_n 3, 1) := by decide +kernel
theorem dL_law_237 : decode cL_law 237 = .ok (.iconst 2, 1) := by decide +kernel
theorem dL_law_238 : decode cL_law 238 = .ok (.iadd, 1) := by decide +kernel
theorem dL_law_239 : decode cL_law 239 = .ok (.iaload, 1) := by decide +kernel
theorem dL_law_240 : decode cL_law 240 = .ok (.invokevirtual 22, 3) := by decide +kernel
theorem dL_law_243 : decode cL_law 243 = .ok (.if_icmp .eq 1077, 3) := by decide +kernel
theorem dL_law_246 : decode cL_law 246 = .ok (.iconst 0, 1) := by decide +kernel
theorem dL_law_247 : decode cL_law 247 = .ok (.ireturn, 1) := by decide +kernel
theorem dL_law_248 : decode cL_law 248 = .ok (.aload_n 1, 1) := by decide +kernel
theorem dL_law_249 : decode cL_law 249 = .ok (.aload_n 0, 1) := by decide +kernel
theorem dL_law_250 : decode cL_law 250 = .ok (.iload_n 3, 1) := by decide +kernel
theorem dL_law_251 : decode cL_law 251 = .ok (.iconst 1, 1) := by decide +kernel
theorem dL_law_252 : decode cL_law 252 = .ok (.iadd, 1) := by decide +kernel
theorem dL_law_253 : decode cL_law 253 = .ok (.iaload, 1) := by decide +kernel
theorem dL_law_254 : decode cL_law 254 = .ok (.aload_n 0, 1) := by decide +kernel
theorem dL_law_255 : decode cL_law 255 = .ok (.iload_n 3, 1) := by decide +kernel
theorem dL_law_256 : decode cL_law 256 = .ok (.iconst 2, 1) := by decide +kernel
theorem dL_law_257 : decode cL_law 257 = .ok (.iadd, 1) := by decide +kernel
theorem dL_law_258 : decode cL_law 258 = .ok (.iaload, 1) := by decide +kernel
theorem dL_law_259 : decode cL_law 259 = .ok (.invokevirtual 23, 3) := by decide +kernel
theorem dL_law_262 : decode cL_law 262 = .ok (.aload_n 2, 1) := by decide +kernel
theorem dL_law_263 : decode cL_law 263 = .ok (.aload_n 0, 1) := by decide +kernel
theorem dL_law_264 : decode cL_law 264 = .ok (.iload_n 3, 1) := by decide +kernel
theorem dL_law_265 : decode cL_law 265 = .ok (.iconst 1, 1) := by decide +kernel
theorem dL_law_266 : decode cL_law 266 = .ok (.iadd, 1) := by decide +kernel
theorem dL_law_267 : decode cL_law 267 = .ok (.iaload, 1) := by decide +kernel
theorem dL_law_268 : decode cL_law 268 = .ok (.aload_n 0, 1) := by decide +kernel
theorem dL_law_269 : decode cL_law 269 = .ok (.iload_n 3, 1) := by decide +kernel
theorem dL_law_270 : decode cL_law 270 = .ok (.iconst 2, 1) := by decide +kernel
theorem dL_law_271 : decode cL_law 271 = .ok (.iadd, 1) := by decide +kernel
theorem dL_law_272 : decode cL_law 272 = .ok (.iaload, 1) := by decide +kernel
theorem dL_law_273 : decode cL_law 273 = .ok (.invokevirtual 26, 3) := by decide +kernel
theorem dL_law_276 : decode cL_law 276 = .ok (.if_icmp .eq 1044, 3) := by decide +kernel
theorem dL_law_279 : decode cL_law 279 = .ok (.iconst 0, 1) := by decide +kernel
theorem dL_law_280 : decode cL_law 280 = .ok (.ireturn, 1) := by decide +kernel
theorem dL_law_281 : decode cL_law 281 = .ok (.aload_n 1, 1) := by decide +kernel
theorem dL_law_282 : decode cL_law 282 = .ok (.aload_n 0, 1) := by decide +kernel
theorem dL_law_283 : decode cL_law 283 = .ok (.iload_n 3, 1) := by decide +kernel
theorem dL_law_284 : decode cL_law 284 = .ok (.iconst 1, 1) := by decide +kernel
theorem dL_law_285 : decode cL_law 285 = .ok (.iadd, 1) := by decide +kernel
theorem dL_law_286 : decode cL_law 286 = .ok (.iaload, 1) := by decide +kernel
theorem dL_law_287 : decode cL_law 287 = .ok (.aload_n 0, 1) := by decide +kernel
theorem dL_law_288 : decode cL_law 288 = .ok (.iload_n 3, 1) := by decide +kernel
theorem dL_law_289 : decode cL_law 289 = .ok (.iconst 2, 1) := by decide +kernel
theorem dL_law_290 : decode cL_law 290 = .ok (.iadd, 1) := by decide +kernel
theorem dL_law_291 : decode cL_law 291 = .ok (.iaload, 1) := by decide +kernel
theorem dL_law_292 : decode cL_law 292 = .ok (.invokevirtual 27, 3) := by decide +kernel
theorem dL_law_295 : decode cL_law 295 = .ok (.aload_n 2, 1) := by decide +kernel
theorem dL_law_296 : decode cL_law 296 = .ok (.aload_n 0, 1) := by decide +kernel
theorem dL_law_297 : decode cL_law 297 = .ok (.iload_n 3, 1) := by decide +kernel
theorem dL_law_298 : decode cL_law 298 = .ok (.iconst 1, 1) := by decide +kernel
theorem dL_law_299 : decode cL_law 299 = .ok (.iadd, 1) := by decide +kernel
theorem dL_law_300 : decode cL_law 300 = .ok (.iaload, 1) := by decide +kernel
theorem dL_law_301 : decode cL_law 301 = .ok (.aload_n 0, 1) := by decide +kernel
theorem dL_law_302 : decode cL_law 302 = .ok (.iload_n 3, 1) := by decide +kernel
theorem dL_law_303 : decode cL_law 303 = .ok (.iconst 2, 1) := by decide +kernel
theorem dL_law_304 : decode cL_law 304 = .ok (.iadd, 1) := by decide +kernel
theorem dL_law_305 : decode cL_law 305 = .ok (.iaload, 1) := by decide +kernel
theorem dL_law_306 : decode cL_law 306 = .ok (.invokevirtual 30, 3) := by decide +kernel
theorem dL_law_309 : decode cL_law 309 = .ok (.if_icmp .eq 1011, 3) := by decide +kernel
theorem dL_law_312 : decode cL_law 312 = .ok (.iconst 0, 1) := by decide +kernel
theorem dL_law_313 : decode cL_law 313 = .ok (.ireturn, 1) := by decide +kernel
theorem dL_law_314 : decode cL_law 314 = .ok (.aload_n 1, 1) := by decide +kernel
theorem dL_law_315 : decode cL_law 315 = .ok (.aload_n 0, 1) := by decide +kernel
theorem dL_law_316 : decode cL_law 316 = .ok (.iload_n 3, 1) := by decide +kernel
theorem dL_law_317 : decode cL_law 317 = .ok (.iconst 1, 1) := by decide +kernel
theorem dL_law_318 : decode cL_law 318 = .ok (.iadd, 1) := by decide +kernel
theorem dL_law_319 : decode cL_law 319 = .ok (.iaload, 1) := by decide +kernel
theorem dL_law_320 : decode cL_law 320 = .ok (.aload_n 0, 1) := by decide +kernel
theorem dL_law_321 : decode cL_law 321 = .ok (.iload_n 3, 1) := by decide +kernel
theorem dL_law_322 : decode cL_law 322 = .ok (.iconst 2, 1) := by decide +kernel
theorem dL_law_323 : decode cL_law 323 = .ok (.iadd, 1) := by decide +kernel
theorem dL_law_324 : decode cL_law 324 = .ok (.iaload, 1) := by decide +kernel
theorem dL_law_325 : decode cL_law 325 = .ok (.invokevirtual 31, 3) := by decide +kernel
theorem dL_law_328 : decode cL_law 328 = .ok (.aload_n 2, 1) := by decide +kernel
theorem dL_law_329 : decode cL_law 329 = .ok (.aload_n 0, 1) := by decide +kernel
theorem dL_law_330 : decode cL_law 330 = .ok (.iload_n 3, 1) := by decide +kernel
theorem dL_law_331 : decode cL_law 331 = .ok (.iconst 1, 1) := by decide +kernel
theorem dL_law_332 : decode cL_law 332 = .ok (.iadd, 1) := by decide +kernel
theorem dL_law_333 : decode cL_law 333 = .ok (.iaload, 1) := by decide +kernel
theorem dL_law_334 : decode cL_law 334 = .ok (.aload_n 0, 1) := by decide +kernel
theorem dL_law_335 : decode cL_law 335 = .ok (.iload_n 3, 1) := by decide +kernel
theorem dL_law_336 : decode cL_law 336 = .ok (.iconst 2, 1) := by decide +kernel
theorem dL_law_337 : decode cL_law 337 = .ok (.iadd, 1) := by decide +kernel
theorem dL_law_338 : decode cL_law 338 = .ok (.iaload, 1) := by decide +kernel
theorem dL_law_339 : decode cL_law 339 = .ok (.invokevirtual 34, 3) := by decide +kernel
theorem dL_law_342 : decode cL_law 342 = .ok (.if_icmp .eq 978, 3) := by decide +kernel
theorem dL_law_345 : decode cL_law 345 = .ok (.iconst 0, 1) := by decide +kernel
theorem dL_law_346 : decode cL_law 346 = .ok (.ireturn, 1) := by decide +kernel
theorem dL_law_347 : decode cL_law 347 = .ok (.aload_n 1, 1) := by decide +kernel
theorem dL_law_348 : decode cL_law 348 = .ok (.aload_n 0, 1) := by decide +kernel
theorem dL_law_349 : decode cL_law 349 = .ok (.iload_n 3, 1) := by decide +kernel
theorem dL_law_350 : decode cL_law 350 = .ok (.iconst 1, 1) := by decide +kernel
theorem dL_law_351 : decode cL_law 351 = .ok (.iadd, 1) := by decide +kernel
theorem dL_law_352 : decode cL_law 352 = .ok (.iaload, 1) := by decide +kernel
theorem dL_law_353 : decode cL_law 353 = .ok (.invokevirtual 35, 3) := by decide +kernel
theorem dL_law_356 : decode cL_law 356 = .ok (.aload_n 2, 1) := by decide +kernel
theorem dL_law_357 : decode cL_law 357 = .ok (.aload_n 0, 1) := by decide +kernel
theorem dL_law_358 : decode cL_law 358 = .ok (.iload_n 3, 1) := by decide +kernel
theorem dL_law_359 : decode cL_law 359 = .ok (.iconst 1, 1) := by decide +kernel
theorem dL_law_360 : decode cL_law 360 = .ok (.iadd, 1) := by decide +kernel
theorem dL_law_361 : decode cL_law 361 = .ok (.iaload, 1) := by decide +kernel
theorem dL_law_362 : decode cL_law 362 = .ok (.invokevirtual 38, 3) := by decide +kernel
theorem dL_law_365 : decode cL_law 365 = .ok (.if_icmp .eq 955, 3) := by decide +kernel
theorem dL_law_368 : decode cL_law 368 = .ok (.iconst 0, 1) := by decide +kernel
theorem dL_law_369 : decode cL_law 369 = .ok (.ireturn, 1) := by decide +kernel
theorem dL_law_370 : decode cL_law 370 = .ok (.aload_n 1, 1) := by decide +kernel
theorem dL_law_371 : decode cL_law 371 = .ok (.aload_n 0, 1) := by decide +kernel
theorem dL_law_372 : decode cL_law 372 = .ok (.iload_n 3, 1) := by decide +kernel
theorem dL_law_373 : decode cL_law 373 = .ok (.iconst 1, 1) := by decide +kernel
theorem dL_law_374 : decode cL_law 374 = .ok (.iadd, 1) := by decide +kernel
theorem dL_law_375 : decode cL_law 375 = .ok (.iaload, 1) := by decide +kernel
theorem dL_law_376 : decode cL_law 376 = .ok (.aload_n 0, 1) := by decide +kernel
theorem dL_law_377 : decode cL_law 377 = .ok (.iload_n 3, 1) := by decide +kernel
theorem dL_law_378 : decode cL_law 378 = .ok (.iconst 2, 1) := by decide +kernel
theorem dL_law_379 : decode cL_law 379 = .ok (.iadd, 1) := by decide +kernel
theorem dL_law_380 : decode cL_law 380 = .ok (.iaload, 1) := by decide +kernel
theorem dL_law_381 : decode cL_law 381 = .ok (.invokevirtual 39, 3) := by decide +kernel
theorem dL_law_384 : decode cL_law 384 = .ok (.aload_n 2, 1) := by decide +kernel
theorem dL_law_385 : decode cL_law 385 = .ok (.aload_n 0, 1) := by decide +kernel
theorem dL_law_386 : decode cL_law 386 = .ok (.iload_n 3, 1) := by decide +kernel
theorem dL_law_387 : decode cL_law 387 = .ok (.iconst 1, 1) := by decide +kernel
theorem dL_law_388 : decode cL_law 388 = .ok (.iadd, 1) := by decide +kernel
theorem dL_law_389 : decode cL_law 389 = .ok (.iaload, 1) := by decide +kernel
theorem dL_law_390 : decode cL_law 390 = .ok (.aload_n 0, 1) := by decide +kernel
theorem dL_law_391 : decode cL_law 391 = .ok (.iload_n 3, 1) := by decide +kernel
theorem dL_law_392 : decode cL_law 392 = .ok (.iconst 2, 1) := by decide +kernel
theorem dL_law_393 : decode cL_law 393 = .ok (.iadd, 1) := by decide +kernel
theorem dL_law_394 : decode cL_law 394 = .ok (.iaload, 1) := by decide +kernel
theorem dL_law_395 : decode cL_law 395 = .ok (.invokevirtual 42, 3) := by decide +kernel
theorem dL_law_398 : decode cL_law 398 = .ok (.if_icmp .eq 922, 3) := by decide +kernel
theorem dL_law_401 : decode cL_law 401 = .ok (.iconst 0, 1) := by decide +kernel
theorem dL_law_402 : decode cL_law 402 = .ok (.ireturn, 1) := by decide +kernel
theorem dL_law_403 : decode cL_law 403 = .ok (.aload_n 1, 1) := by decide +kernel
theorem dL_law_404 : decode cL_law 404 = .ok (.aload_n 0, 1) := by decide +kernel
theorem dL_law_405 : decode cL_law 405 = .ok (.iload_n 3, 1) := by decide +kernel
theorem dL_law_406 : decode cL_law 406 = .ok (.iconst 1, 1) := by decide +kernel
theorem dL_law_407 : decode cL_law 407 = .ok (.iadd, 1) := by decide +kernel
theorem dL_law_408 : decode cL_law 408 = .ok (.iaload, 1) := by decide +kernel
theorem dL_law_409 : decode cL_law 409 = .ok (.aload_n 0, 1) := by decide +kernel
theorem dL_law_410 : decode cL_law 410 = .ok (.iload_n 3, 1) := by decide +kernel
theorem dL_law_411 : decode cL_law 411 = .ok (.iconst 2, 1) := by decide +kernel
theorem dL_law_412 : decode cL_law 412 = .ok (.iadd, 1) := by decide +kernel
theorem dL_law_413 : decode cL_law 413 = .ok (.iaload, 1) := by decide +kernel
theorem dL_law_414 : decode cL_law 414 = .ok (.invokevirtual 43, 3) := by decide +kernel
theorem dL_law_417 : decode cL_law 417 = .ok (.aload_n 2, 1) := by decide +kernel
theorem dL_law_418 : decode cL_law 418 = .ok (.aload_n 0, 1) := by decide +kernel
theorem dL_law_419 : decode cL_law 419 = .ok (.iload_n 3, 1) := by decide +kernel
theorem dL_law_420 : decode cL_law 420 = .ok (.iconst 1, 1) := by decide +kernel
theorem dL_law_421 : decode cL_law 421 = .ok (.iadd, 1) := by decide +kernel
theorem dL_law_422 : decode cL_law 422 = .ok (.iaload, 1) := by decide +kernel
theorem dL_law_423 : decode cL_law 423 = .ok (.aload_n 0, 1) := by decide +kernel
theorem dL_law_424 : decode cL_law 424 = .ok (.iload_n 3, 1) := by decide +kernel
theorem dL_law_425 : decode cL_law 425 = .ok (.iconst 2, 1) := by decide +kernel
theorem dL_law_426 : decode cL_law 426 = .ok (.iadd, 1) := by decide +kernel
theorem dL_law_427 : decode cL_law 427 = .ok (.iaload, 1) := by decide +kernel
theorem dL_law_428 : decode cL_law 428 = .ok (.invokevirtual 46, 3) := by decide +kernel
theorem dL_law_431 : decode cL_law 431 = .ok (.if_icmp .eq 889, 3) := by decide +kernel
theorem dL_law_434 : decode cL_law 434 = .ok (.iconst 0, 1) := by decide +kernel
theorem dL_law_435 : decode cL_law 435 = .ok (.ireturn, 1) := by decide +kernel
theorem dL_law_436 : decode cL_law 436 = .ok (.aload_n 1, 1) := by decide +kernel
theorem dL_law_437 : decode cL_law 437 = .ok (.aload_n 0, 1) := by decide +kernel
theorem dL_law_438 : decode cL_law 438 = .ok (.iload_n 3, 1) := by decide +kernel
theorem dL_law_439 : decode cL_law 439 = .ok (.iconst 1, 1) := by decide +kernel
theorem dL_law_440 : decode cL_law 440 = .ok (.iadd, 1) := by decide +kernel
theorem dL_law_441 : decode cL_law 441 = .ok (.iaload, 1) := by decide +kernel
theorem dL_law_442 : decode cL_law 442 = .ok (.i2l, 1) := by decide +kernel
theorem dL_law_443 : decode cL_law 443 = .ok (.bipush 32, 2) := by decide +kernel
theorem dL_law_445 : decode cL_law 445 = .ok (.lshl, 1) := by decide +kernel
theorem dL_law_446 : decode cL_law 446 = .ok (.aload_n 0, 1) := by decide +kernel
theorem dL_law_447 : decode cL_law 447 = .ok (.iload_n 3, 1) := by decide +kernel
theorem dL_law_448 : decode cL_law 448 = .ok (.iconst 2, 1) := by decide +kernel
theorem dL_law_449 : decode cL_law 449 = .ok (.iadd, 1) := by decide +kernel
theorem dL_law_450 : decode cL_law 450 = .ok (.iaload, 1) := by decide +kernel
theorem dL_law_451 : decode cL_law 451 = .ok (.i2l, 1) := by decide +kernel
theorem dL_law_452 : decode cL_law 452 = .ok (.ldc2_w 47, 3) := by decide +kernel
theorem dL_law_455 : decode cL_law 455 = .ok (.land, 1) := by decide +kernel
theorem dL_law_456 : decode cL_law 456 = .ok (.lor, 1) := by decide +kernel
theorem dL_law_457 : decode cL_law 457 = .ok (.aload_n 0, 1) := by decide +kernel
theorem dL_law_458 : decode cL_law 458 = .ok (.iload_n 3, 1) := by decide +kernel
theorem dL_law_459 : decode cL_law 459 = .ok (.iconst 3, 1) := by decide +kernel
theorem dL_law_460 : decode cL_law 460 = .ok (.iadd, 1) := by decide +kernel
theorem dL_law_461 : decode cL_law 461 = .ok (.iaload, 1) := by decide +kernel
theorem dL_law_462 : decode cL_law 462 = .ok (.invokevirtual 49, 3) := by decide +kernel
theorem dL_law_465 : decode cL_law 465 = .ok (.aload_n 2, 1) := by decide +kernel
theorem dL_law_466 : decode cL_law 466 = .ok (.aload_n 0, 1) := by decide +kernel
theorem dL_law_467 : decode cL_law 467 = .ok (.iload_n 3, 1) := by decide +kernel
theorem dL_law_468 : decode cL_law 468 = .ok (.iconst 1, 1) := by decide +kernel
theorem dL_law_469 : decode cL_law 469 = .ok (.iadd, 1) := by decide +kernel
theorem dL_law_470 : decode cL_law 470 = .ok (.iaload, 1) := by decide +kernel
theorem dL_law_471 : decode cL_law 471 = .ok (.i2l, 1) := by decide +kernel
theorem dL_law_472 : decode cL_law 472 = .ok (.bipush 32, 2) := by decide +kernel
theorem dL_law_474 : decode cL_law 474 = .ok (.lshl, 1) := by decide +kernel
theorem dL_law_475 : decode cL_law 475 = .ok (.aload_n 0, 1) := by decide +kernel
theorem dL_law_476 : decode cL_law 476 = .ok (.iload_n 3, 1) := by decide +kernel
theorem dL_law_477 : decode cL_law 477 = .ok (.iconst 2, 1) := by decide +kernel
theorem dL_law_478 : decode cL_law 478 = .ok (.iadd, 1) := by decide +kernel
theorem dL_law_479 : decode cL_law 479 = .ok (.iaload, 1) := by decide +kernel
theorem dL_law_480 : decode cL_law 480 = .ok (.i2l, 1) := by decide +kernel
theorem dL_law_481 : decode cL_law 481 = .ok (.ldc2_w 47, 3) := by decide +kernel
theorem dL_law_484 : decode cL_law 484 = .ok (.land, 1) := by decide +kernel
theorem dL_law_485 : decode cL_law 485 = .ok (.lor, 1) := by decide +kernel
theorem dL_law_486 : decode cL_law 486 = .ok (.aload_n 0, 1) := by decide +kernel
theorem dL_law_487 : decode cL_law 487 = .ok (.iload_n 3, 1) := by decide +kernel
theorem dL_law_488 : decode cL_law 488 = .ok (.iconst 3, 1) := by decide +kernel
theorem dL_law_489 : decode cL_law 489 = .ok (.iadd, 1) := by decide +kernel
theorem dL_law_490 : decode cL_law 490 = .ok (.iaload, 1) := by decide +kernel
theorem dL_law_491 : decode cL_law 491 = .ok (.invokevirtual 53, 3) := by decide +kernel
theorem dL_law_494 : decode cL_law 494 = .ok (.if_icmp .eq 826, 3) := by decide +kernel
theorem dL_law_497 : decode cL_law 497 = .ok (.iconst 0, 1) := by decide +kernel
theorem dL_law_498 : decode cL_law 498 = .ok (.ireturn, 1) := by decide +kernel
theorem dL_law_499 : decode cL_law 499 = .ok (.aload_n 1, 1) := by decide +kernel
theorem dL_law_500 : decode cL_law 500 = .ok (.aload_n 0, 1) := by decide +kernel
theorem dL_law_501 : decode cL_law 501 = .ok (.iload_n 3, 1) := by decide +kernel
theorem dL_law_502 : decode cL_law 502 = .ok (.iconst 1, 1) := by decide +kernel
theorem dL_law_503 : decode cL_law 503 = .ok (.iadd, 1) := by decide +kernel
theorem dL_law_504 : decode cL_law 504 = .ok (.iaload, 1) := by decide +kernel
theorem dL_law_505 : decode cL_law 505 = .ok (.invokevirtual 54, 3) := by decide +kernel
theorem dL_law_508 : decode cL_law 508 = .ok (.aload_n 2, 1) := by decide +kernel
theorem dL_law_509 : decode cL_law 509 = .ok (.aload_n 0, 1) := by decide +kernel
theorem dL_law_510 : decode cL_law 510 = .ok (.iload_n 3, 1) := by decide +kernel
theorem dL_law_511 : decode cL_law 511 = .ok (.iconst 1, 1) := by decide +kernel
theorem dL_law_512 : decode cL_law 512 = .ok (.iadd, 1) := by decide +kernel
theorem dL_law_513 : decode cL_law 513 = .ok (.iaload, 1) := by decide +kernel
theorem dL_law_514 : decode cL_law 514 = .ok (.invokevirtual 57, 3) := by decide +kernel
theorem dL_law_517 : decode cL_law 517 = .ok (.if_icmp .eq 803, 3) := by decide +kernel
theorem dL_law_520 : decode cL_law 520 = .ok (.iconst 0, 1) := by decide +kernel
theorem dL_law_521 : decode cL_law 521 = .ok (.ireturn, 1) := by decide +kernel
theorem dL_law_522 : decode cL_law 522 = .ok (.aload_n 1, 1) := by decide +kernel
theorem dL_law_523 : decode cL_law 523 = .ok (.aload_n 0, 1) := by decide +kernel
theorem dL_law_524 : decode cL_law 524 = .ok (.iload_n 3, 1) := by decide +kernel
theorem dL_law_525 : decode cL_law 525 = .ok (.iconst 1, 1) := by decide +kernel
theorem dL_law_526 : decode cL_law 526 = .ok (.iadd, 1) := by decide +kernel
theorem dL_law_527 : decode cL_law 527 = .ok (.iaload, 1) := by decide +kernel
theorem dL_law_528 : decode cL_law 528 = .ok (.invokevirtual 58, 3) := by decide +kernel
theorem dL_law_531 : decode cL_law 531 = .ok (.aload_n 2, 1) := by decide +kernel
theorem dL_law_532 : decode cL_law 532 = .ok (.aload_n 0, 1) := by decide +kernel
theorem dL_law_533 : decode cL_law 533 = .ok (.iload_n 3, 1) := by decide +kernel
theorem dL_law_534 : decode cL_law 534 = .ok (.iconst 1, 1) := by decide +kernel
theorem dL_law_535 : decode cL_law 535 = .ok (.iadd, 1) := by decide +kernel
theorem dL_law_536 : decode cL_law 536 = .ok (.iaload, 1) := by decide +kernel
theorem dL_law_537 : decode cL_law 537 = .ok (.invokevirtual 61, 3) := by decide +kernel
theorem dL_law_540 : decode cL_law 540 = .ok (.if_icmp .eq 780, 3) := by decide +kernel
theorem dL_law_543 : decode cL_law 543 = .ok (.iconst 0, 1) := by decide +kernel
theorem dL_law_544 : decode cL_law 544 = .ok (.ireturn, 1) := by decide +kernel
theorem dL_law_545 : decode cL_law 545 = .ok (.aload_n 1, 1) := by decide +kernel
theorem dL_law_546 : decode cL_law 546 = .ok (.aload_n 0, 1) := by decide +kernel
theorem dL_law_547 : decode cL_law 547 = .ok (.iload_n 3, 1) := by decide +kernel
theorem dL_law_548 : decode cL_law 548 = .ok (.iconst 1, 1) := by decide +kernel
theorem dL_law_549 : decode cL_law 549 = .ok (.iadd, 1) := by decide +kernel
theorem dL_law_550 : decode cL_law 550 = .ok (.iaload, 1) := by decide +kernel
theorem dL_law_551 : decode cL_law 551 = .ok (.aload_n 0, 1) := by decide +kernel
theorem dL_law_552 : decode cL_law 552 = .ok (.iload_n 3, 1) := by decide +kernel
theorem dL_law_553 : decode cL_law 553 = .ok (.iconst 2, 1) := by decide +kernel
theorem dL_law_554 : decode cL_law 554 = .ok (.iadd, 1) := by decide +kernel
theorem dL_law_555 : decode cL_law 555 = .ok (.iaload, 1) := by decide +kernel
theorem dL_law_556 : decode cL_law 556 = .ok (.aload_n 0, 1) := by decide +kernel
theorem dL_law_557 : decode cL_law 557 = .ok (.iload_n 3, 1) := by decide +kernel
theorem dL_law_558 : decode cL_law 558 = .ok (.iconst 3, 1) := by decide +kernel
theorem dL_law_559 : decode cL_law 559 = .ok (.iadd, 1) := by decide +kernel
theorem dL_law_560 : decode cL_law 560 = .ok (.iaload, 1) := by decide +kernel
theorem dL_law_561 : decode cL_law 561 = .ok (.aload_n 0, 1) := by decide +kernel
theorem dL_law_562 : decode cL_law 562 = .ok (.iload_n 3, 1) := by decide +kernel
theorem dL_law_563 : decode cL_law 563 = .ok (.iconst 4, 1) := by decide +kernel
theorem dL_law_564 : decode cL_law 564 = .ok (.iadd, 1) := by decide +kernel
theorem dL_law_565 : decode cL_law 565 = .ok (.iaload, 1) := by decide +kernel
theorem dL_law_566 : decode cL_law 566 = .ok (.invokevirtual 62, 3) := by decide +kernel
theorem dL_law_569 : decode cL_law 569 = .ok (.aload_n 2, 1) := by decide +kernel
theorem dL_law_570 : decode cL_law 570 = .ok (.aload_n 0, 1) := by decide +kernel
theorem dL_law_571 : decode cL_law 571 = .ok (.iload_n 3, 1) := by decide +kernel
theorem dL_law_572 : decode cL_law 572 = .ok (.iconst 1, 1) := by decide +kernel
theorem dL_law_573 : decode cL_law 573 = .ok (.iadd, 1) := by decide +kernel
theorem dL_law_574 : decode cL_law 574 = .ok (.iaload, 1) := by decide +kernel
theorem dL_law_575 : decode cL_law 575 = .ok (.aload_n 0, 1) := by decide +kernel
theorem dL_law_576 : decode cL_law 576 = .ok (.iload_n 3, 1) := by decide +kernel
theorem dL_law_577 : decode cL_law 577 = .ok (.iconst 2, 1) := by decide +kernel
theorem dL_law_578 : decode cL_law 578 = .ok (.iadd, 1) := by decide +kernel
theorem dL_law_579 : decode cL_law 579 = .ok (.iaload, 1) := by decide +kernel
theorem dL_law_580 : decode cL_law 580 = .ok (.aload_n 0, 1) := by decide +kernel
theorem dL_law_581 : decode cL_law 581 = .ok (.iload_n 3, 1) := by decide +kernel
theorem dL_law_582 : decode cL_law 582 = .ok (.iconst 3, 1) := by decide +kernel
theorem dL_law_583 : decode cL_law 583 = .ok (.iadd, 1) := by decide +kernel
theorem dL_law_584 : decode cL_law 584 = .ok (.iaload, 1) := by decide +kernel
theorem dL_law_585 : decode cL_law 585 = .ok (.aload_n 0, 1) := by decide +kernel
theorem dL_law_586 : decode cL_law 586 = .ok (.iload_n 3, 1) := by decide +kernel
theorem dL_law_587 : decode cL_law 587 = .ok (.iconst 4, 1) := by decide +kernel
theorem dL_law_588 : decode cL_law 588 = .ok (.iadd, 1) := by decide +kernel
theorem dL_law_589 : decode cL_law 589 = .ok (.iaload, 1) := by decide +kernel
theorem dL_law_590 : decode cL_law 590 = .ok (.invokevirtual 66, 3) := by decide +kernel
theorem dL_law_593 : decode cL_law 593 = .ok (.if_icmp .eq 727, 3) := by decide +kernel
theorem dL_law_596 : decode cL_law 596 = .ok (.iconst 0, 1) := by decide +kernel
theorem dL_law_597 : decode cL_law 597 = .ok (.ireturn, 1) := by decide +kernel
theorem dL_law_598 : decode cL_law 598 = .ok (.aload_n 1, 1) := by decide +kernel
theorem dL_law_599 : decode cL_law 599 = .ok (.aload_n 0, 1) := by decide +kernel
theorem dL_law_600 : decode cL_law 600 = .ok (.iload_n 3, 1) := by decide +kernel
theorem dL_law_601 : decode cL_law 601 = .ok (.iconst 1, 1) := by decide +kernel
theorem dL_law_602 : decode cL_law 602 = .ok (.iadd, 1) := by decide +kernel
theorem dL_law_603 : decode cL_law 603 = .ok (.iaload, 1) := by decide +kernel
theorem dL_law_604 : decode cL_law 604 = .ok (.invokevirtual 67, 3) := by decide +kernel
theorem dL_law_607 : decode cL_law 607 = .ok (.aload_n 2, 1) := by decide +kernel
theorem dL_law_608 : decode cL_law 608 = .ok (.aload_n 0, 1) := by decide +kernel
theorem dL_law_609 : decode cL_law 609 = .ok (.iload_n 3, 1) := by decide +kernel
theorem dL_law_610 : decode cL_law 610 = .ok (.iconst 1, 1) := by decide +kernel
theorem dL_law_611 : decode cL_law 611 = .ok (.iadd, 1) := by decide +kernel
theorem dL_law_612 : decode cL_law 612 = .ok (.iaload, 1) := by decide +kernel
theorem dL_law_613 : decode cL_law 613 = .ok (.invokevirtual 70, 3) := by decide +kernel
theorem dL_law_616 : decode cL_law 616 = .ok (.if_icmp .eq 704, 3) := by decide +kernel
theorem dL_law_619 : decode cL_law 619 = .ok (.iconst 0, 1) := by decide +kernel
theorem dL_law_620 : decode cL_law 620 = .ok (.ireturn, 1) := by decide +kernel
theorem dL_law_621 : decode cL_law 621 = .ok (.aload_n 1, 1) := by decide +kernel
theorem dL_law_622 : decode cL_law 622 = .ok (.aload_n 0, 1) := by decide +kernel
theorem dL_law_623 : decode cL_law 623 = .ok (.iload_n 3, 1) := by decide +kernel
theorem dL_law_624 : decode cL_law 624 = .ok (.iconst 1, 1) := by decide +kernel
theorem dL_law_625 : decode cL_law 625 = .ok (.iadd, 1) := by decide +kernel
theorem dL_law_626 : decode cL_law 626 = .ok (.iaload, 1) := by decide +kernel
theorem dL_law_627 : decode cL_law 627 = .ok (.invokevirtual 71, 3) := by decide +kernel
theorem dL_law_630 : decode cL_law 630 = .ok (.aload_n 2, 1) := by decide +kernel
theorem dL_law_631 : decode cL_law 631 = .ok (.aload_n 0, 1) := by decide +kernel
theorem dL_law_632 : decode cL_law 632 = .ok (.iload_n 3, 1) := by decide +kernel
theorem dL_law_633 : decode cL_law 633 = .ok (.iconst 1, 1) := by decide +kernel
theorem dL_law_634 : decode cL_law 634 = .ok (.iadd, 1) := by decide +kernel
theorem dL_law_635 : decode cL_law 635 = .ok (.iaload, 1) := by decide +kernel
theorem dL_law_636 : decode cL_law 636 = .ok (.invokevirtual 74, 3) := by decide +kernel
theorem dL_law_639 : decode cL_law 639 = .ok (.if_icmp .eq 681, 3) := by decide +kernel
theorem dL_law_642 : decode cL_law 642 = .ok (.iconst 0, 1) := by decide +kernel
theorem dL_law_643 : decode cL_law 643 = .ok (.ireturn, 1) := by decide +kernel
theorem dL_law_644 : decode cL_law 644 = .ok (.aload_n 1, 1) := by decide +kernel
theorem dL_law_645 : decode cL_law 645 = .ok (.aload_n 0, 1) := by decide +kernel
theorem dL_law_646 : decode cL_law 646 = .ok (.iload_n 3, 1) := by decide +kernel
theorem dL_law_647 : decode cL_law 647 = .ok (.iconst 1, 1) := by decide +kernel
theorem dL_law_648 : decode cL_law 648 = .ok (.iadd, 1) := by decide +kernel
theorem dL_law_649 : decode cL_law 649 = .ok (.iaload, 1) := by decide +kernel
theorem dL_law_650 : decode cL_law 650 = .ok (.invokevirtual 75, 3) := by decide +kernel
theorem dL_law_653 : decode cL_law 653 = .ok (.aload_n 2, 1) := by decide +kernel
theorem dL_law_654 : decode cL_law 654 = .ok (.aload_n 0, 1) := by decide +kernel
theorem dL_law_655 : decode cL_law 655 = .ok (.iload_n 3, 1) := by decide +kernel
theorem dL_law_656 : decode cL_law 656 = .ok (.iconst 1, 1) := by decide +kernel
theorem dL_law_657 : decode cL_law 657 = .ok (.iadd, 1) := by decide +kernel
theorem dL_law_658 : decode cL_law 658 = .ok (.iaload, 1) := by decide +kernel
theorem dL_law_659 : decode cL_law 659 = .ok (.invokevirtual 78, 3) := by decide +kernel
theorem dL_law_662 : decode cL_law 662 = .ok (.if_icmp .eq 658, 3) := by decide +kernel
theorem dL_law_665 : decode cL_law 665 = .ok (.iconst 0, 1) := by decide +kernel
theorem dL_law_666 : decode cL_law 666 = .ok (.ireturn, 1) := by decide +kernel
theorem dL_law_667 : decode cL_law 667 = .ok (.aload_n 1, 1) := by decide +kernel
theorem dL_law_668 : decode cL_law 668 = .ok (.aload_n 0, 1) := by decide +kernel
theorem dL_law_669 : decode cL_law 669 = .ok (.iload_n 3, 1) := by decide +kernel
theorem dL_law_670 : decode cL_law 670 = .ok (.iconst 1, 1) := by decide +kernel
theorem dL_law_671 : decode cL_law 671 = .ok (.iadd, 1) := by decide +kernel
theorem dL_law_672 : decode cL_law 672 = .ok (.iaload, 1) := by decide +kernel
theorem dL_law_673 : decode cL_law 673 = .ok (.invokevirtual 79, 3) := by decide +kernel
theorem dL_law_676 : decode cL_law 676 = .ok (.aload_n 2, 1) := by decide +kernel
theorem dL_law_677 : decode cL_law 677 = .ok (.aload_n 0, 1) := by decide +kernel
theorem dL_law_678 : decode cL_law 678 = .ok (.iload_n 3, 1) := by decide +kernel
theorem dL_law_679 : decode cL_law 679 = .ok (.iconst 1, 1) := by decide +kernel
theorem dL_law_680 : decode cL_law 680 = .ok (.iadd, 1) := by decide +kernel
theorem dL_law_681 : decode cL_law 681 = .ok (.iaload, 1) := by decide +kernel
theorem dL_law_682 : decode cL_law 682 = .ok (.invokevirtual 82, 3) := by decide +kernel
theorem dL_law_685 : decode cL_law 685 = .ok (.if_icmp .eq 635, 3) := by decide +kernel
theorem dL_law_688 : decode cL_law 688 = .ok (.iconst 0, 1) := by decide +kernel
theorem dL_law_689 : decode cL_law 689 = .ok (.ireturn, 1) := by decide +kernel
theorem dL_law_690 : decode cL_law 690 = .ok (.aload_n 1, 1) := by decide +kernel
theorem dL_law_691 : decode cL_law 691 = .ok (.aload_n 0, 1) := by decide +kernel
theorem dL_law_692 : decode cL_law 692 = .ok (.iload_n 3, 1) := by decide +kernel
theorem dL_law_693 : decode cL_law 693 = .ok (.iconst 1, 1) := by decide +kernel
theorem dL_law_694 : decode cL_law 694 = .ok (.iadd, 1) := by decide +kernel
theorem dL_law_695 : decode cL_law 695 = .ok (.iaload, 1) := by decide +kernel
theorem dL_law_696 : decode cL_law 696 = .ok (.aload_n 0, 1) := by decide +kernel
theorem dL_law_697 : decode cL_law 697 = .ok (.iload_n 3, 1) := by decide +kernel
theorem dL_law_698 : decode cL_law 698 = .ok (.iconst 2, 1) := by decide +kernel
theorem dL_law_699 : decode cL_law 699 = .ok (.iadd, 1) := by decide +kernel
theorem dL_law_700 : decode cL_law 700 = .ok (.iaload, 1) := by decide +kernel
theorem dL_law_701 : decode cL_law 701 = .ok (.invokevirtual 83, 3) := by decide +kernel
theorem dL_law_704 : decode cL_law 704 = .ok (.aload_n 2, 1) := by decide +kernel
theorem dL_law_705 : decode cL_law 705 = .ok (.aload_n 0, 1) := by decide +kernel
theorem dL_law_706 : decode cL_law 706 = .ok (.iload_n 3, 1) := by decide +kernel
theorem dL_law_707 : decode cL_law 707 = .ok (.iconst 1, 1) := by decide +kernel
theorem dL_law_708 : decode cL_law 708 = .ok (.iadd, 1) := by decide +kernel
theorem dL_law_709 : decode cL_law 709 = .ok (.iaload, 1) := by decide +kernel
theorem dL_law_710 : decode cL_law 710 = .ok (.aload_n 0, 1) := by decide +kernel
theorem dL_law_711 : decode cL_law 711 = .ok (.iload_n 3, 1) := by decide +kernel
theorem dL_law_712 : decode cL_law 712 = .ok (.iconst 2, 1) := by decide +kernel
theorem dL_law_713 : decode cL_law 713 = .ok (.iadd, 1) := by decide +kernel
theorem dL_law_714 : decode cL_law 714 = .ok (.iaload, 1) := by decide +kernel
theorem dL_law_715 : decode cL_law 715 = .ok (.invokevirtual 86, 3) := by decide +kernel
theorem dL_law_718 : decode cL_law 718 = .ok (.if_icmp .eq 602, 3) := by decide +kernel
theorem dL_law_721 : decode cL_law 721 = .ok (.iconst 0, 1) := by decide +kernel
theorem dL_law_722 : decode cL_law 722 = .ok (.ireturn, 1) := by decide +kernel
theorem dL_law_723 : decode cL_law 723 = .ok (.aload_n 1, 1) := by decide +kernel
theorem dL_law_724 : decode cL_law 724 = .ok (.aload_n 0, 1) := by decide +kernel
theorem dL_law_725 : decode cL_law 725 = .ok (.iload_n 3, 1) := by decide +kernel
theorem dL_law_726 : decode cL_law 726 = .ok (.iconst 1, 1) := by decide +kernel
theorem dL_law_727 : decode cL_law 727 = .ok (.iadd, 1) := by decide +kernel
theorem dL_law_728 : decode cL_law 728 = .ok (.iaload, 1) := by decide +kernel
theorem dL_law_729 : decode cL_law 729 = .ok (.aload_n 0, 1) := by decide +kernel
theorem dL_law_730 : decode cL_law 730 = .ok (.iload_n 3, 1) := by decide +kernel
theorem dL_law_731 : decode cL_law 731 = .ok (.iconst 2, 1) := by decide +kernel
theorem dL_law_732 : decode cL_law 732 = .ok (.iadd, 1) := by decide +kernel
theorem dL_law_733 : decode cL_law 733 = .ok (.iaload, 1) := by decide +kernel
theorem dL_law_734 : decode cL_law 734 = .ok (.invokevirtual 87, 3) := by decide +kernel
theorem dL_law_737 : decode cL_law 737 = .ok (.aload_n 2, 1) := by decide +kernel
theorem dL_law_738 : decode cL_law 738 = .ok (.aload_n 0, 1) := by decide +kernel
theorem dL_law_739 : decode cL_law 739 = .ok (.iload_n 3, 1) := by decide +kernel
theorem dL_law_740 : decode cL_law 740 = .ok (.iconst 1, 1) := by decide +kernel
theorem dL_law_741 : decode cL_law 741 = .ok (.iadd, 1) := by decide +kernel
theorem dL_law_742 : decode cL_law 742 = .ok (.iaload, 1) := by decide +kernel
theorem dL_law_743 : decode cL_law 743 = .ok (.aload_n 0, 1) := by decide +kernel
theorem dL_law_744 : decode cL_law 744 = .ok (.iload_n 3, 1) := by decide +kernel
theorem dL_law_745 : decode cL_law 745 = .ok (.iconst 2, 1) := by decide +kernel
theorem dL_law_746 : decode cL_law 746 = .ok (.iadd, 1) := by decide +kernel
theorem dL_law_747 : decode cL_law 747 = .ok (.iaload, 1) := by decide +kernel
theorem dL_law_748 : decode cL_law 748 = .ok (.invokevirtual 90, 3) := by decide +kernel
theorem dL_law_751 : decode cL_law 751 = .ok (.if_icmp .eq 569, 3) := by decide +kernel
theorem dL_law_754 : decode cL_law 754 = .ok (.iconst 0, 1) := by decide +kernel
theorem dL_law_755 : decode cL_law 755 = .ok (.ireturn, 1) := by decide +kernel
theorem dL_law_756 : decode cL_law 756 = .ok (.aload_n 1, 1) := by decide +kernel
theorem dL_law_757 : decode cL_law 757 = .ok (.aload_n 0, 1) := by decide +kernel
theorem dL_law_758 : decode cL_law 758 = .ok (.iload_n 3, 1) := by decide +kernel
theorem dL_law_759 : decode cL_law 759 = .ok (.iconst 1, 1) := by decide +kernel
theorem dL_law_760 : decode cL_law 760 = .ok (.iadd, 1) := by decide +kernel
theorem dL_law_761 : decode cL_law 761 = .ok (.iaload, 1) := by decide +kernel
theorem dL_law_762 : decode cL_law 762 = .ok (.aload_n 0, 1) := by decide +kernel
theorem dL_law_763 : decode cL_law 763 = .ok (.iload_n 3, 1) := by decide +kernel
theorem dL_law_764 : decode cL_law 764 = .ok (.iconst 2, 1) := by decide +kernel
theorem dL_law_765 : decode cL_law 765 = .ok (.iadd, 1) := by decide +kernel
theorem dL_law_766 : decode cL_law 766 = .ok (.iaload, 1) := by decide +kernel
theorem dL_law_767 : decode cL_law 767 = .ok (.aload_n 0, 1) := by decide +kernel
theorem dL_law_768 : decode cL_law 768 = .ok (.iload_n 3, 1) := by decide +kernel
theorem dL_law_769 : decode cL_law 769 = .ok (.iconst 3, 1) := by decide +kernel
theorem dL_law_770 : decode cL_law 770 = .ok (.iadd, 1) := by decide +kernel
theorem dL_law_771 : decode cL_law 771 = .ok (.iaload, 1) := by decide +kernel
theorem dL_law_772 : decode cL_law 772 = .ok (.invokevirtual 91, 3) := by decide +kernel
theorem dL_law_775 : decode cL_law 775 = .ok (.aload_n 2, 1) := by decide +kernel
theorem dL_law_776 : decode cL_law 776 = .ok (.aload_n 0, 1) := by decide +kernel
theorem dL_law_777 : decode cL_law 777 = .ok (.iload_n 3, 1) := by decide +kernel
theorem dL_law_778 : decode cL_law 778 = .ok (.iconst 1, 1) := by decide +kernel
theorem dL_law_779 : decode cL_law 779 = .ok (.iadd, 1) := by decide +kernel
theorem dL_law_780 : decode cL_law 780 = .ok (.iaload, 1) := by decide +kernel
theorem dL_law_781 : decode cL_law 781 = .ok (.aload_n 0, 1) := by decide +kernel
theorem dL_law_782 : decode cL_law 782 = .ok (.iload_n 3, 1) := by decide +kernel
theorem dL_law_783 : decode cL_law 783 = .ok (.iconst 2, 1) := by decide +kernel
theorem dL_law_784 : decode cL_law 784 = .ok (.iadd, 1) := by decide +kernel
theorem dL_law_785 : decode cL_law 785 = .ok (.iaload, 1) := by decide +kernel
theorem dL_law_786 : decode cL_law 786 = .ok (.aload_n 0, 1) := by decide +kernel
theorem dL_law_787 : decode cL_law 787 = .ok (.iload_n 3, 1) := by decide +kernel
theorem dL_law_788 : decode cL_law 788 = .ok (.iconst 3, 1) := by decide +kernel
theorem dL_law_789 : decode cL_law 789 = .ok (.iadd, 1) := by decide +kernel
theorem dL_law_790 : decode cL_law 790 = .ok (.iaload, 1) := by decide +kernel
theorem dL_law_791 : decode cL_law 791 = .ok (.invokevirtual 95, 3) := by decide +kernel
theorem dL_law_794 : decode cL_law 794 = .ok (.if_icmp .eq 526, 3) := by decide +kernel
theorem dL_law_797 : decode cL_law 797 = .ok (.iconst 0, 1) := by decide +kernel
theorem dL_law_798 : decode cL_law 798 = .ok (.ireturn, 1) := by decide +kernel
theorem dL_law_799 : decode cL_law 799 = .ok (.aload_n 1, 1) := by decide +kernel
theorem dL_law_800 : decode cL_law 800 = .ok (.aload_n 0, 1) := by decide +kernel
theorem dL_law_801 : decode cL_law 801 = .ok (.iload_n 3, 1) := by decide +kernel
theorem dL_law_802 : decode cL_law 802 = .ok (.iconst 1, 1) := by decide +kernel
theorem dL_law_803 : decode cL_law 803 = .ok (.iadd, 1) := by decide +kernel
theorem dL_law_804 : decode cL_law 804 = .ok (.iaload, 1) := by decide +kernel
theorem dL_law_805 : decode cL_law 805 = .ok (.aload_n 0, 1) := by decide +kernel
theorem dL_law_806 : decode cL_law 806 = .ok (.iload_n 3, 1) := by decide +kernel
theorem dL_law_807 : decode cL_law 807 = .ok (.iconst 2, 1) := by decide +kernel
theorem dL_law_808 : decode cL_law 808 = .ok (.iadd, 1) := by decide +kernel
theorem dL_law_809 : decode cL_law 809 = .ok (.iaload, 1) := by decide +kernel
theorem dL_law_810 : decode cL_law 810 = .ok (.invokevirtual 96, 3) := by decide +kernel
theorem dL_law_813 : decode cL_law 813 = .ok (.aload_n 2, 1) := by decide +kernel
theorem dL_law_814 : decode cL_law 814 = .ok (.aload_n 0, 1) := by decide +kernel
theorem dL_law_815 : decode cL_law 815 = .ok (.iload_n 3, 1) := by decide +kernel
theorem dL_law_816 : decode cL_law 816 = .ok (.iconst 1, 1) := by decide +kernel
theorem dL_law_817 : decode cL_law 817 = .ok (.iadd, 1) := by decide +kernel
theorem dL_law_818 : decode cL_law 818 = .ok (.iaload, 1) := by decide +kernel
theorem dL_law_819 : decode cL_law 819 = .ok (.aload_n 0, 1) := by decide +kernel
theorem dL_law_820 : decode cL_law 820 = .ok (.iload_n 3, 1) := by decide +kernel
theorem dL_law_821 : decode cL_law 821 = .ok (.iconst 2, 1) := by decide +kernel
theorem dL_law_822 : decode cL_law 822 = .ok (.iadd, 1) := by decide +kernel
theorem dL_law_823 : decode cL_law 823 = .ok (.iaload, 1) := by decide +kernel
theorem dL_law_824 : decode cL_law 824 = .ok (.invokevirtual 99, 3) := by decide +kernel
theorem dL_law_827 : decode cL_law 827 = .ok (.if_icmp .eq 493, 3) := by decide +kernel
theorem dL_law_830 : decode cL_law 830 = .ok (.iconst 0, 1) := by decide +kernel
theorem dL_law_831 : decode cL_law 831 = .ok (.ireturn, 1) := by decide +kernel
theorem dL_law_832 : decode cL_law 832 = .ok (.aload_n 1, 1) := by decide +kernel
theorem dL_law_833 : decode cL_law 833 = .ok (.aload_n 0, 1) := by decide +kernel
theorem dL_law_834 : decode cL_law 834 = .ok (.iload_n 3, 1) := by decide +kernel
theorem dL_law_835 : decode cL_law 835 = .ok (.iconst 1, 1) := by decide +kernel
theorem dL_law_836 : decode cL_law 836 = .ok (.iadd, 1) := by decide +kernel
theorem dL_law_837 : decode cL_law 837 = .ok (.iaload, 1) := by decide +kernel
theorem dL_law_838 : decode cL_law 838 = .ok (.aload_n 0, 1) := by decide +kernel
theorem dL_law_839 : decode cL_law 839 = .ok (.iload_n 3, 1) := by decide +kernel
theorem dL_law_840 : decode cL_law 840 = .ok (.iconst 2, 1) := by decide +kernel
theorem dL_law_841 : decode cL_law 841 = .ok (.iadd, 1) := by decide +kernel
theorem dL_law_842 : decode cL_law 842 = .ok (.iaload, 1) := by decide +kernel
theorem dL_law_843 : decode cL_law 843 = .ok (.invokevirtual 100, 3) := by decide +kernel
theorem dL_law_846 : decode cL_law 846 = .ok (.aload_n 2, 1) := by decide +kernel
theorem dL_law_847 : decode cL_law 847 = .ok (.aload_n 0, 1) := by decide +kernel
theorem dL_law_848 : decode cL_law 848 = .ok (.iload_n 3, 1) := by decide +kernel
theorem dL_law_849 : decode cL_law 849 = .ok (.iconst 1, 1) := by decide +kernel
theorem dL_law_850 : decode cL_law 850 = .ok (.iadd, 1) := by decide +kernel
theorem dL_law_851 : decode cL_law 851 = .ok (.iaload, 1) := by decide +kernel
theorem dL_law_852 : decode cL_law 852 = .ok (.aload_n 0, 1) := by decide +kernel
theorem dL_law_853 : decode cL_law 853 = .ok (.iload_n 3, 1) := by decide +kernel
theorem dL_law_854 : decode cL_law 854 = .ok (.iconst 2, 1) := by decide +kernel
theorem dL_law_855 : decode cL_law 855 = .ok (.iadd, 1) := by decide +kernel
theorem dL_law_856 : decode cL_law 856 = .ok (.iaload, 1) := by decide +kernel
theorem dL_law_857 : decode cL_law 857 = .ok (.invokevirtual 103, 3) := by decide +kernel
theorem dL_law_860 : decode cL_law 860 = .ok (.if_icmp .eq 460, 3) := by decide +kernel
theorem dL_law_863 : decode cL_law 863 = .ok (.iconst 0, 1) := by decide +kernel
theorem dL_law_864 : decode cL_law 864 = .ok (.ireturn, 1) := by decide +kernel
theorem dL_law_865 : decode cL_law 865 = .ok (.aload_n 1, 1) := by decide +kernel
theorem dL_law_866 : decode cL_law 866 = .ok (.aload_n 0, 1) := by decide +kernel
theorem dL_law_867 : decode cL_law 867 = .ok (.iload_n 3, 1) := by decide +kernel
theorem dL_law_868 : decode cL_law 868 = .ok (.iconst 1, 1) := by decide +kernel
theorem dL_law_869 : decode cL_law 869 = .ok (.iadd, 1) := by decide +kernel
theorem dL_law_870 : decode cL_law 870 = .ok (.iaload, 1) := by decide +kernel
theorem dL_law_871 : decode cL_law 871 = .ok (.aload_n 0, 1) := by decide +kernel
theorem dL_law_872 : decode cL_law 872 = .ok (.iload_n 3, 1) := by decide +kernel
theorem dL_law_873 : decode cL_law 873 = .ok (.iconst 2, 1) := by decide +kernel
theorem dL_law_874 : decode cL_law 874 = .ok (.iadd, 1) := by decide +kernel
theorem dL_law_875 : decode cL_law 875 = .ok (.iaload, 1) := by decide +kernel
theorem dL_law_876 : decode cL_law 876 = .ok (.aload_n 0, 1) := by decide +kernel
theorem dL_law_877 : decode cL_law 877 = .ok (.iload_n 3, 1) := by decide +kernel
theorem dL_law_878 : decode cL_law 878 = .ok (.iconst 3, 1) := by decide +kernel
theorem dL_law_879 : decode cL_law 879 = .ok (.iadd, 1) := by decide +kernel
theorem dL_law_880 : decode cL_law 880 = .ok (.iaload, 1) := by decide +kernel
theorem dL_law_881 : decode cL_law 881 = .ok (.aload_n 0, 1) := by decide +kernel
theorem dL_law_882 : decode cL_law 882 = .ok (.iload_n 3, 1) := by decide +kernel
theorem dL_law_883 : decode cL_law 883 = .ok (.iconst 4, 1) := by decide +kernel
theorem dL_law_884 : decode cL_law 884 = .ok (.iadd, 1) := by decide +kernel
theorem dL_law_885 : decode cL_law 885 = .ok (.iaload, 1) := by decide +kernel
theorem dL_law_886 : decode cL_law 886 = .ok (.invokevirtual 104, 3) := by decide +kernel
theorem dL_law_889 : decode cL_law 889 = .ok (.aload_n 2, 1) := by decide +kernel
theorem dL_law_890 : decode cL_law 890 = .ok (.aload_n 0, 1) := by decide +kernel
theorem dL_law_891 : decode cL_law 891 = .ok (.iload_n 3, 1) := by decide +kernel
theorem dL_law_892 : decode cL_law 892 = .ok (.iconst 1, 1) := by decide +kernel
theorem dL_law_893 : decode cL_law 893 = .ok (.iadd, 1) := by decide +kernel
theorem dL_law_894 : decode cL_law 894 = .ok (.iaload, 1) := by decide +kernel
theorem dL_law_895 : decode cL_law 895 = .ok (.aload_n 0, 1) := by decide +kernel
theorem dL_law_896 : decode cL_law 896 = .ok (.iload_n 3, 1) := by decide +kernel
theorem dL_law_897 : decode cL_law 897 = .ok (.iconst 2, 1) := by decide +kernel
theorem dL_law_898 : decode cL_law 898 = .ok (.iadd, 1) := by decide +kernel
theorem dL_law_899 : decode cL_law 899 = .ok (.iaload, 1) := by decide +kernel
theorem dL_law_900 : decode cL_law 900 = .ok (.aload_n 0, 1) := by decide +kernel
theorem dL_law_901 : decode cL_law 901 = .ok (.iload_n 3, 1) := by decide +kernel
theorem dL_law_902 : decode cL_law 902 = .ok (.iconst 3, 1) := by decide +kernel
theorem dL_law_903 : decode cL_law 903 = .ok (.iadd, 1) := by decide +kernel
theorem dL_law_904 : decode cL_law 904 = .ok (.iaload, 1) := by decide +kernel
theorem dL_law_905 : decode cL_law 905 = .ok (.aload_n 0, 1) := by decide +kernel
theorem dL_law_906 : decode cL_law 906 = .ok (.iload_n 3, 1) := by decide +kernel
theorem dL_law_907 : decode cL_law 907 = .ok (.iconst 4, 1) := by decide +kernel
theorem dL_law_908 : decode cL_law 908 = .ok (.iadd, 1) := by decide +kernel
theorem dL_law_909 : decode cL_law 909 = .ok (.iaload, 1) := by decide +kernel
theorem dL_law_910 : decode cL_law 910 = .ok (.invokevirtual 107, 3) := by decide +kernel
theorem dL_law_913 : decode cL_law 913 = .ok (.if_icmp .eq 407, 3) := by decide +kernel
theorem dL_law_916 : decode cL_law 916 = .ok (.iconst 0, 1) := by decide +kernel
theorem dL_law_917 : decode cL_law 917 = .ok (.ireturn, 1) := by decide +kernel
theorem dL_law_918 : decode cL_law 918 = .ok (.aload_n 1, 1) := by decide +kernel
theorem dL_law_919 : decode cL_law 919 = .ok (.aload_n 0, 1) := by decide +kernel
theorem dL_law_920 : decode cL_law 920 = .ok (.iload_n 3, 1) := by decide +kernel
theorem dL_law_921 : decode cL_law 921 = .ok (.iconst 1, 1) := by decide +kernel
theorem dL_law_922 : decode cL_law 922 = .ok (.iadd, 1) := by decide +kernel
theorem dL_law_923 : decode cL_law 923 = .ok (.iaload, 1) := by decide +kernel
theorem dL_law_924 : decode cL_law 924 = .ok (.aload_n 0, 1) := by decide +kernel
theorem dL_law_925 : decode cL_law 925 = .ok (.iload_n 3, 1) := by decide +kernel
theorem dL_law_926 : decode cL_law 926 = .ok (.iconst 2, 1) := by decide +kernel
theorem dL_law_927 : decode cL_law 927 = .ok (.iadd, 1) := by decide +kernel
theorem dL_law_928 : decode cL_law 928 = .ok (.iaload, 1) := by decide +kernel
theorem dL_law_929 : decode cL_law 929 = .ok (.invokevirtual 108, 3) := by decide +kernel
theorem dL_law_932 : decode cL_law 932 = .ok (.aload_n 2, 1) := by decide +kernel
theorem dL_law_933 : decode cL_law 933 = .ok (.aload_n 0, 1) := by decide +kernel
theorem dL_law_934 : decode cL_law 934 = .ok (.iload_n 3, 1) := by decide +kernel
theorem dL_law_935 : decode cL_law 935 = .ok (.iconst 1, 1) := by decide +kernel
theorem dL_law_936 : decode cL_law 936 = .ok (.iadd, 1) := by decide +kernel
theorem dL_law_937 : decode cL_law 937 = .ok (.iaload, 1) := by decide +kernel
theorem dL_law_938 : decode cL_law 938 = .ok (.aload_n 0, 1) := by decide +kernel
theorem dL_law_939 : decode cL_law 939 = .ok (.iload_n 3, 1) := by decide +kernel
theorem dL_law_940 : decode cL_law 940 = .ok (.iconst 2, 1) := by decide +kernel
theorem dL_law_941 : decode cL_law 941 = .ok (.iadd, 1) := by decide +kernel
theorem dL_law_942 : decode cL_law 942 = .ok (.iaload, 1) := by decide +kernel
theorem dL_law_943 : decode cL_law 943 = .ok (.invokevirtual 111, 3) := by decide +kernel
theorem dL_law_946 : decode cL_law 946 = .ok (.if_icmp .eq 374, 3) := by decide +kernel
theorem dL_law_949 : decode cL_law 949 = .ok (.iconst 0, 1) := by decide +kernel
theorem dL_law_950 : decode cL_law 950 = .ok (.ireturn, 1) := by decide +kernel
theorem dL_law_951 : decode cL_law 951 = .ok (.aload_n 1, 1) := by decide +kernel
theorem dL_law_952 : decode cL_law 952 = .ok (.aload_n 0, 1) := by decide +kernel
theorem dL_law_953 : decode cL_law 953 = .ok (.iload_n 3, 1) := by decide +kernel
theorem dL_law_954 : decode cL_law 954 = .ok (.iconst 1, 1) := by decide +kernel
theorem dL_law_955 : decode cL_law 955 = .ok (.iadd, 1) := by decide +kernel
theorem dL_law_956 : decode cL_law 956 = .ok (.iaload, 1) := by decide +kernel
theorem dL_law_957 : decode cL_law 957 = .ok (.aload_n 0, 1) := by decide +kernel
theorem dL_law_958 : decode cL_law 958 = .ok (.iload_n 3, 1) := by decide +kernel
theorem dL_law_959 : decode cL_law 959 = .ok (.iconst 2, 1) := by decide +kernel
theorem dL_law_960 : decode cL_law 960 = .ok (.iadd, 1) := by decide +kernel
theorem dL_law_961 : decode cL_law 961 = .ok (.iaload, 1) := by decide +kernel
theorem dL_law_962 : decode cL_law 962 = .ok (.aload_n 0, 1) := by decide +kernel
theorem dL_law_963 : decode cL_law 963 = .ok (.iload_n 3, 1) := by decide +kernel
theorem dL_law_964 : decode cL_law 964 = .ok (.iconst 3, 1) := by decide +kernel
theorem dL_law_965 : decode cL_law 965 = .ok (.iadd, 1) := by decide +kernel
theorem dL_law_966 : decode cL_law 966 = .ok (.iaload, 1) := by decide +kernel
theorem dL_law_967 : decode cL_law 967 = .ok (.invokevirtual 112, 3) := by decide +kernel
theorem dL_law_970 : decode cL_law 970 = .ok (.aload_n 2, 1) := by decide +kernel
theorem dL_law_971 : decode cL_law 971 = .ok (.aload_n 0, 1) := by decide +kernel
theorem dL_law_972 : decode cL_law 972 = .ok (.iload_n 3, 1) := by decide +kernel
theorem dL_law_973 : decode cL_law 973 = .ok (.iconst 1, 1) := by decide +kernel
theorem dL_law_974 : decode cL_law 974 = .ok (.iadd, 1) := by decide +kernel
theorem dL_law_975 : decode cL_law 975 = .ok (.iaload, 1) := by decide +kernel
theorem dL_law_976 : decode cL_law 976 = .ok (.aload_n 0, 1) := by decide +kernel
theorem dL_law_977 : decode cL_law 977 = .ok (.iload_n 3, 1) := by decide +kernel
theorem dL_law_978 : decode cL_law 978 = .ok (.iconst 2, 1) := by decide +kernel
theorem dL_law_979 : decode cL_law 979 = .ok (.iadd, 1) := by decide +kernel
theorem dL_law_980 : decode cL_law 980 = .ok (.iaload, 1) := by decide +kernel
theorem dL_law_981 : decode cL_law 981 = .ok (.aload_n 0, 1) := by decide +kernel
theorem dL_law_982 : decode cL_law 982 = .ok (.iload_n 3, 1) := by decide +kernel
theorem dL_law_983 : decode cL_law 983 = .ok (.iconst 3, 1) := by decide +kernel
theorem dL_law_984 : decode cL_law 984 = .ok (.iadd, 1) := by decide +kernel
theorem dL_law_985 : decode cL_law 985 = .ok (.iaload, 1) := by decide +kernel
theorem dL_law_986 : decode cL_law 986 = .ok (.invokevirtual 115, 3) := by decide +kernel
theorem dL_law_989 : decode cL_law 989 = .ok (.if_icmp .eq 331, 3) := by decide +kernel
theorem dL_law_992 : decode cL_law 992 = .ok (.iconst 0, 1) := by decide +kernel
theorem dL_law_993 : decode cL_law 993 = .ok (.ireturn, 1) := by decide +kernel
theorem dL_law_994 : decode cL_law 994 = .ok (.aload_n 1, 1) := by decide +kernel
theorem dL_law_995 : decode cL_law 995 = .ok (.aload_n 0, 1) := by decide +kernel
theorem dL_law_996 : decode cL_law 996 = .ok (.iload_n 3, 1) := by decide +kernel
theorem dL_law_997 : decode cL_law 997 = .ok (.iconst 1, 1) := by decide +kernel
theorem dL_law_998 : decode cL_law 998 = .ok (.iadd, 1) := by decide +kernel
theorem dL_law_999 : decode cL_law 999 = .ok (.iaload, 1) := by decide +kernel
theorem dL_law_1000 : decode cL_law 1000 = .ok (.invokevirtual 116, 3) := by decide +kernel
theorem dL_law_1003 : decode cL_law 1003 = .ok (.aload_n 2, 1) := by decide +kernel
theorem dL_law_1004 : decode cL_law 1004 = .ok (.aload_n 0, 1) := by decide +kernel
theorem dL_law_1005 : decode cL_law 1005 = .ok (.iload_n 3, 1) := by decide +kernel
theorem dL_law_1006 : decode cL_law 1006 = .ok (.iconst 1, 1) := by decide +kernel
theorem dL_law_1007 : decode cL_law 1007 = .ok (.iadd, 1) := by decide +kernel
theorem dL_law_1008 : decode cL_law 1008 = .ok (.iaload, 1) := by decide +kernel
theorem dL_law_1009 : decode cL_law 1009 = .ok (.invokevirtual 119, 3) := by decide +kernel
theorem dL_law_1012 : decode cL_law 1012 = .ok (.if_icmp .eq 308, 3) := by decide +kernel
theorem dL_law_1015 : decode cL_law 1015 = .ok (.iconst 0, 1) := by decide +kernel
theorem dL_law_1016 : decode cL_law 1016 = .ok (.ireturn, 1) := by decide +kernel
theorem dL_law_1017 : decode cL_law 1017 = .ok (.aload_n 1, 1) := by decide +kernel
theorem dL_law_1018 : decode cL_law 1018 = .ok (.aload_n 0, 1) := by decide +kernel
theorem dL_law_1019 : decode cL_law 1019 = .ok (.iload_n 3, 1) := by decide +kernel
theorem dL_law_1020 : decode cL_law 1020 = .ok (.iconst 1, 1) := by decide +kernel
theorem dL_law_1021 : decode cL_law 1021 = .ok (.iadd, 1) := by decide +kernel
theorem dL_law_1022 : decode cL_law 1022 = .ok (.iaload, 1) := by decide +kernel
theorem dL_law_1023 : decode cL_law 1023 = .ok (.aload_n 0, 1) := by decide +kernel
theorem dL_law_1024 : decode cL_law 1024 = .ok (.iload_n 3, 1) := by decide +kernel
theorem dL_law_1025 : decode cL_law 1025 = .ok (.iconst 2, 1) := by decide +kernel
theorem dL_law_1026 : decode cL_law 1026 = .ok (.iadd, 1) := by decide +kernel
theorem dL_law_1027 : decode cL_law 1027 = .ok (.iaload, 1) := by decide +kernel
theorem dL_law_1028 : decode cL_law 1028 = .ok (.aload_n 0, 1) := by decide +kernel
theorem dL_law_1029 : decode cL_law 1029 = .ok (.iload_n 3, 1) := by decide +kernel
theorem dL_law_1030 : decode cL_law 1030 = .ok (.iconst 3, 1) := by decide +kernel
theorem dL_law_1031 : decode cL_law 1031 = .ok (.iadd, 1) := by decide +kernel
theorem dL_law_1032 : decode cL_law 1032 = .ok (.iaload, 1) := by decide +kernel
theorem dL_law_1033 : decode cL_law 1033 = .ok (.invokevirtual 120, 3) := by decide +kernel
theorem dL_law_1036 : decode cL_law 1036 = .ok (.aload_n 2, 1) := by decide +kernel
theorem dL_law_1037 : decode cL_law 1037 = .ok (.aload_n 0, 1) := by decide +kernel
theorem dL_law_1038 : decode cL_law 1038 = .ok (.iload_n 3, 1) := by decide +kernel
theorem dL_law_1039 : decode cL_law 1039 = .ok (.iconst 1, 1) := by decide +kernel
theorem dL_law_1040 : decode cL_law 1040 = .ok (.iadd, 1) := by decide +kernel
theorem dL_law_1041 : decode cL_law 1041 = .ok (.iaload, 1) := by decide +kernel
theorem dL_law_1042 : decode cL_law 1042 = .ok (.aload_n 0, 1) := by decide +kernel
theorem dL_law_1043 : decode cL_law 1043 = .ok (.iload_n 3, 1) := by decide +kernel
theorem dL_law_1044 : decode cL_law 1044 = .ok (.iconst 2, 1) := by decide +kernel
theorem dL_law_1045 : decode cL_law 1045 = .ok (.iadd, 1) := by decide +kernel
theorem dL_law_1046 : decode cL_law 1046 = .ok (.iaload, 1) := by decide +kernel
theorem dL_law_1047 : decode cL_law 1047 = .ok (.aload_n 0, 1) := by decide +kernel
theorem dL_law_1048 : decode cL_law 1048 = .ok (.iload_n 3, 1) := by decide +kernel
theorem dL_law_1049 : decode cL_law 1049 = .ok (.iconst 3, 1) := by decide +kernel
theorem dL_law_1050 : decode cL_law 1050 = .ok (.iadd, 1) := by decide +kernel
theorem dL_law_1051 : decode cL_law 1051 = .ok (.iaload, 1) := by decide +kernel
theorem dL_law_1052 : decode cL_law 1052 = .ok (.invokevirtual 123, 3) := by decide +kernel
theorem dL_law_1055 : decode cL_law 1055 = .ok (.if_icmp .eq 265, 3) := by decide +kernel
theorem dL_law_1058 : decode cL_law 1058 = .ok (.iconst 0, 1) := by decide +kernel
theorem dL_law_1059 : decode cL_law 1059 = .ok (.ireturn, 1) := by decide +kernel
theorem dL_law_1060 : decode cL_law 1060 = .ok (.aload_n 1, 1) := by decide +kernel
theorem dL_law_1061 : decode cL_law 1061 = .ok (.aload_n 0, 1) := by decide +kernel
theorem dL_law_1062 : decode cL_law 1062 = .ok (.iload_n 3, 1) := by decide +kernel
theorem dL_law_1063 : decode cL_law 1063 = .ok (.iconst 1, 1) := by decide +kernel
theorem dL_law_1064 : decode cL_law 1064 = .ok (.iadd, 1) := by decide +kernel
theorem dL_law_1065 : decode cL_law 1065 = .ok (.iaload, 1) := by decide +kernel
theorem dL_law_1066 : decode cL_law 1066 = .ok (.aload_n 0, 1) := by decide +kernel
theorem dL_law_1067 : decode cL_law 1067 = .ok (.iload_n 3, 1) := by decide +kernel
theorem dL_law_1068 : decode cL_law 1068 = .ok (.iconst 2, 1) := by decide +kernel
theorem dL_law_1069 : decode cL_law 1069 = .ok (.iadd, 1) := by decide +kernel
theorem dL_law_1070 : decode cL_law 1070 = .ok (.iaload, 1) := by decide +kernel
theorem dL_law_1071 : decode cL_law 1071 = .ok (.aload_n 0, 1) := by decide +kernel
theorem dL_law_1072 : decode cL_law 1072 = .ok (.iload_n 3, 1) := by decide +kernel
theorem dL_law_1073 : decode cL_law 1073 = .ok (.iconst 3, 1) := by decide +kernel
theorem dL_law_1074 : decode cL_law 1074 = .ok (.iadd, 1) := by decide +kernel
theorem dL_law_1075 : decode cL_law 1075 = .ok (.iaload, 1) := by decide +kernel
theorem dL_law_1076 : decode cL_law 1076 = .ok (.invokevirtual 124, 3) := by decide +kernel
theorem dL_law_1079 : decode cL_law 1079 = .ok (.aload_n 2, 1) := by decide +kernel
theorem dL_law_1080 : decode cL_law 1080 = .ok (.aload_n 0, 1) := by decide +kernel
theorem dL_law_1081 : decode cL_law 1081 = .ok (.iload_n 3, 1) := by decide +kernel
theorem dL_law_1082 : decode cL_law 1082 = .ok (.iconst 1, 1) := by decide +kernel
theorem dL_law_1083 : decode cL_law 1083 = .ok (.iadd, 1) := by decide +kernel
theorem dL_law_1084 : decode cL_law 1084 = .ok (.iaload, 1) := by decide +kernel
theorem dL_law_1085 : decode cL_law 1085 = .ok (.aload_n 0, 1) := by decide +kernel
theorem dL_law_1086 : decode cL_law 1086 = .ok (.iload_n 3, 1) := by decide +kernel
theorem dL_law_1087 : decode cL_law 1087 = .ok (.iconst 2, 1) := by decide +kernel
theorem dL_law_1088 : decode cL_law 1088 = .ok (.iadd, 1) := by decide +kernel
theorem dL_law_1089 : decode cL_law 1089 = .ok (.iaload, 1) := by decide +kernel
theorem dL_law_1090 : decode cL_law 1090 = .ok (.aload_n 0, 1) := by decide +kernel
theorem dL_law_1091 : decode cL_law 1091 = .ok (.iload_n 3, 1) := by decide +kernel
theorem dL_law_1092 : decode cL_law 1092 = .ok (.iconst 3, 1) := by decide +kernel
theorem dL_law_1093 : decode cL_law 1093 = .ok (.iadd, 1) := by decide +kernel
theorem dL_law_1094 : decode cL_law 1094 = .ok (.iaload, 1) := by decide +kernel
theorem dL_law_1095 : decode cL_law 1095 = .ok (.invokevirtual 127, 3) := by decide +kernel
theorem dL_law_1098 : decode cL_law 1098 = .ok (.if_icmp .eq 222, 3) := by decide +kernel
theorem dL_law_1101 : decode cL_law 1101 = .ok (.iconst 0, 1) := by decide +kernel
theorem dL_law_1102 : decode cL_law 1102 = .ok (.ireturn, 1) := by decide +kernel
theorem dL_law_1103 : decode cL_law 1103 = .ok (.aload_n 1, 1) := by decide +kernel
theorem dL_law_1104 : decode cL_law 1104 = .ok (.aload_n 0, 1) := by decide +kernel
theorem dL_law_1105 : decode cL_law 1105 = .ok (.iload_n 3, 1) := by decide +kernel
theorem dL_law_1106 : decode cL_law 1106 = .ok (.iconst 1, 1) := by decide +kernel
theorem dL_law_1107 : decode cL_law 1107 = .ok (.iadd, 1) := by decide +kernel
theorem dL_law_1108 : decode cL_law 1108 = .ok (.iaload, 1) := by decide +kernel
theorem dL_law_1109 : decode cL_law 1109 = .ok (.aload_n 0, 1) := by decide +kernel
theorem dL_law_1110 : decode cL_law 1110 = .ok (.iload_n 3, 1) := by decide +kernel
theorem dL_law_1111 : decode cL_law 1111 = .ok (.iconst 2, 1) := by decide +kernel
theorem dL_law_1112 : decode cL_law 1112 = .ok (.iadd, 1) := by decide +kernel
theorem dL_law_1113 : decode cL_law 1113 = .ok (.iaload, 1) := by decide +kernel
theorem dL_law_1114 : decode cL_law 1114 = .ok (.aload_n 0, 1) := by decide +kernel
theorem dL_law_1115 : decode cL_law 1115 = .ok (.iload_n 3, 1) := by decide +kernel
theorem dL_law_1116 : decode cL_law 1116 = .ok (.iconst 3, 1) := by decide +kernel
theorem dL_law_1117 : decode cL_law 1117 = .ok (.iadd, 1) := by decide +kernel
theorem dL_law_1118 : decode cL_law 1118 = .ok (.iaload, 1) := by decide +kernel
theorem dL_law_1119 : decode cL_law 1119 = .ok (.aload_n 0, 1) := by decide +kernel
theorem dL_law_1120 : decode cL_law 1120 = .ok (.iload_n 3, 1) := by decide +kernel
theorem dL_law_1121 : decode cL_law 1121 = .ok (.iconst 4, 1) := by decide +kernel
theorem dL_law_1122 : decode cL_law 1122 = .ok (.iadd, 1) := by decide +kernel
theorem dL_law_1123 : decode cL_law 1123 = .ok (.iaload, 1) := by decide +kernel
theorem dL_law_1124 : decode cL_law 1124 = .ok (.aload_n 0, 1) := by decide +kernel
theorem dL_law_1125 : decode cL_law 1125 = .ok (.iload_n 3, 1) := by decide +kernel
theorem dL_law_1126 : decode cL_law 1126 = .ok (.iconst 5, 1) := by decide +kernel
theorem dL_law_1127 : decode cL_law 1127 = .ok (.iadd, 1) := by decide +kernel
theorem dL_law_1128 : decode cL_law 1128 = .ok (.iaload, 1) := by decide +kernel
theorem dL_law_1129 : decode cL_law 1129 = .ok (.invokevirtual 128, 3) := by decide +kernel
theorem dL_law_1132 : decode cL_law 1132 = .ok (.aload_n 2, 1) := by decide +kernel
theorem dL_law_1133 : decode cL_law 1133 = .ok (.aload_n 0, 1) := by decide +kernel
theorem dL_law_1134 : decode cL_law 1134 = .ok (.iload_n 3, 1) := by decide +kernel
theorem dL_law_1135 : decode cL_law 1135 = .ok (.iconst 1, 1) := by decide +kernel
theorem dL_law_1136 : decode cL_law 1136 = .ok (.iadd, 1) := by decide +kernel
theorem dL_law_1137 : decode cL_law 1137 = .ok (.iaload, 1) := by decide +kernel
theorem dL_law_1138 : decode cL_law 1138 = .ok (.aload_n 0, 1) := by decide +kernel
theorem dL_law_1139 : decode cL_law 1139 = .ok (.iload_n 3, 1) := by decide +kernel
theorem dL_law_1140 : decode cL_law 1140 = .ok (.iconst 2, 1) := by decide +kernel
theorem dL_law_1141 : decode cL_law 1141 = .ok (.iadd, 1) := by decide +kernel
theorem dL_law_1142 : decode cL_law 1142 = .ok (.iaload, 1) := by decide +kernel
theorem dL_law_1143 : decode cL_law 1143 = .ok (.aload_n 0, 1) := by decide +kernel
theorem dL_law_1144 : decode cL_law 1144 = .ok (.iload_n 3, 1) := by decide +kernel
theorem dL_law_1145 : decode cL_law 1145 = .ok (.iconst 3, 1) := by decide +kernel
theorem dL_law_1146 : decode cL_law 1146 = .ok (.iadd, 1) := by decide +kernel
theorem dL_law_1147 : decode cL_law 1147 = .ok (.iaload, 1) := by decide +kernel
theorem dL_law_1148 : decode cL_law 1148 = .ok (.aload_n 0, 1) := by decide +kernel
theorem dL_law_1149 : decode cL_law 1149 = .ok (.iload_n 3, 1) := by decide +kernel
theorem dL_law_1150 : decode cL_law 1150 = .ok (.iconst 4, 1) := by decide +kernel
theorem dL_law_1151 : decode cL_law 1151 = .ok (.iadd, 1) := by decide +kernel
theorem dL_law_1152 : decode cL_law 1152 = .ok (.iaload, 1) := by decide +kernel
theorem dL_law_1153 : decode cL_law 1153 = .ok (.aload_n 0, 1) := by decide +kernel
theorem dL_law_1154 : decode cL_law 1154 = .ok (.iload_n 3, 1) := by decide +kernel
theorem dL_law_1155 : decode cL_law 1155 = .ok (.iconst 5, 1) := by decide +kernel
theorem dL_law_1156 : decode cL_law 1156 = .ok (.iadd, 1) := by decide +kernel
theorem dL_law_1157 : decode cL_law 1157 = .ok (.iaload, 1) := by decide +kernel
theorem dL_law_1158 : decode cL_law 1158 = .ok (.invokevirtual 132, 3) := by decide +kernel
theorem dL_law_1161 : decode cL_law 1161 = .ok (.if_icmp .eq 159, 3) := by decide +kernel
theorem dL_law_1164 : decode cL_law 1164 = .ok (.iconst 0, 1) := by decide +kernel
theorem dL_law_1165 : decode cL_law 1165 = .ok (.ireturn, 1) := by decide +kernel
theorem dL_law_1166 : decode cL_law 1166 = .ok (.aload_n 1, 1) := by decide +kernel
theorem dL_law_1167 : decode cL_law 1167 = .ok (.aload_n 0, 1) := by decide +kernel
theorem dL_law_1168 : decode cL_law 1168 = .ok (.iload_n 3, 1) := by decide +kernel
theorem dL_law_1169 : decode cL_law 1169 = .ok (.iconst 1, 1) := by decide +kernel
theorem dL_law_1170 : decode cL_law 1170 = .ok (.iadd, 1) := by decide +kernel
theorem dL_law_1171 : decode cL_law 1171 = .ok (.iaload, 1) := by decide +kernel
theorem dL_law_1172 : decode cL_law 1172 = .ok (.invokevirtual 133, 3) := by decide +kernel
theorem dL_law_1175 : decode cL_law 1175 = .ok (.aload_n 2, 1) := by decide +kernel
theorem dL_law_1176 : decode cL_law 1176 = .ok (.aload_n 0, 1) := by decide +kernel
theorem dL_law_1177 : decode cL_law 1177 = .ok (.iload_n 3, 1) := by decide +kernel
theorem dL_law_1178 : decode cL_law 1178 = .ok (.iconst 1, 1) := by decide +kernel
theorem dL_law_1179 : decode cL_law 1179 = .ok (.iadd, 1) := by decide +kernel
theorem dL_law_1180 : decode cL_law 1180 = .ok (.iaload, 1) := by decide +kernel
theorem dL_law_1181 : decode cL_law 1181 = .ok (.invokevirtual 136, 3) := by decide +kernel
theorem dL_law_1184 : decode cL_law 1184 = .ok (.if_icmp .eq 136, 3) := by decide +kernel
theorem dL_law_1187 : decode cL_law 1187 = .ok (.iconst 0, 1) := by decide +kernel
theorem dL_law_1188 : decode cL_law 1188 = .ok (.ireturn, 1) := by decide +kernel
theorem dL_law_1189 : decode cL_law 1189 = .ok (.aload_n 1, 1) := by decide +kernel
theorem dL_law_1190 : decode cL_law 1190 = .ok (.aload_n 0, 1) := by decide +kernel
theorem dL_law_1191 : decode cL_law 1191 = .ok (.iload_n 3, 1) := by decide +kernel
theorem dL_law_1192 : decode cL_law 1192 = .ok (.iconst 1, 1) := by decide +kernel
theorem dL_law_1193 : decode cL_law 1193 = .ok (.iadd, 1) := by decide +kernel
theorem dL_law_1194 : decode cL_law 1194 = .ok (.iaload, 1) := by decide +kernel
theorem dL_law_1195 : decode cL_law 1195 = .ok (.invokevirtual 137, 3) := by decide +kernel
theorem dL_law_1198 : decode cL_law 1198 = .ok (.aload_n 2, 1) := by decide +kernel
theorem dL_law_1199 : decode cL_law 1199 = .ok (.aload_n 0, 1) := by decide +kernel
theorem dL_law_1200 : decode cL_law 1200 = .ok (.iload_n 3, 1) := by decide +kernel
theorem dL_law_1201 : decode cL_law 1201 = .ok (.iconst 1, 1) := by decide +kernel
theorem dL_law_1202 : decode cL_law 1202 = .ok (.iadd, 1) := by decide +kernel
theorem dL_law_1203 : decode cL_law 1203 = .ok (.iaload, 1) := by decide +kernel
theorem dL_law_1204 : decode cL_law 1204 = .ok (.invokevirtual 140, 3) := by decide +kernel
theorem dL_law_1207 : decode cL_law 1207 = .ok (.if_icmp .eq 113, 3) := by decide +kernel
theorem dL_law_1210 : decode cL_law 1210 = .ok (.iconst 0, 1) := by decide +kernel
theorem dL_law_1211 : decode cL_law 1211 = .ok (.ireturn, 1) := by decide +kernel
theorem dL_law_1212 : decode cL_law 1212 = .ok (.aload_n 1, 1) := by decide +kernel
theorem dL_law_1213 : decode cL_law 1213 = .ok (.invokevirtual 141, 3) := by decide +kernel
theorem dL_law_1216 : decode cL_law 1216 = .ok (.aload_n 2, 1) := by decide +kernel
theorem dL_law_1217 : decode cL_law 1217 = .ok (.invokevirtual 145, 3) := by decide +kernel
theorem dL_law_1220 : decode cL_law 1220 = .ok (.if_icmp .eq 100, 3) := by decide +kernel
theorem dL_law_1223 : decode cL_law 1223 = .ok (.iconst 0, 1) := by decide +kernel
theorem dL_law_1224 : decode cL_law 1224 = .ok (.ireturn, 1) := by decide +kernel
theorem dL_law_1225 : decode cL_law 1225 = .ok (.aload_n 1, 1) := by decide +kernel
theorem dL_law_1226 : decode cL_law 1226 = .ok (.invokevirtual 146, 3) := by decide +kernel
theorem dL_law_1229 : decode cL_law 1229 = .ok (.aload_n 2, 1) := by decide +kernel
theorem dL_law_1230 : decode cL_law 1230 = .ok (.invokevirtual 149, 3) := by decide +kernel
theorem dL_law_1233 : decode cL_law 1233 = .ok (.if_icmp .eq 87, 3) := by decide +kernel
theorem dL_law_1236 : decode cL_law 1236 = .ok (.iconst 0, 1) := by decide +kernel
theorem dL_law_1237 : decode cL_law 1237 = .ok (.ireturn, 1) := by decide +kernel
theorem dL_law_1238 : decode cL_law 1238 = .ok (.aload_n 1, 1) := by decide +kernel
theorem dL_law_1239 : decode cL_law 1239 = .ok (.aload_n 0, 1) := by decide +kernel
theorem dL_law_1240 : decode cL_law 1240 = .ok (.iload_n 3, 1) := by decide +kernel
theorem dL_law_1241 : decode cL_law 1241 = .ok (.iconst 1, 1) := by decide +kernel
theorem dL_law_1242 : decode cL_law 1242 = .ok (.iadd, 1) := by decide +kernel
theorem dL_law_1243 : decode cL_law 1243 = .ok (.iaload, 1) := by decide +kernel
theorem dL_law_1244 : decode cL_law 1244 = .ok (.invokevirtual 150, 3) := by decide +kernel
theorem dL_law_1247 : decode cL_law 1247 = .ok (.aload_n 2, 1) := by decide +kernel
theorem dL_law_1248 : decode cL_law 1248 = .ok (.aload_n 0, 1) := by decide +kernel
theorem dL_law_1249 : decode cL_law 1249 = .ok (.iload_n 3, 1) := by decide +kernel
theorem dL_law_1250 : decode cL_law 1250 = .ok (.iconst 1, 1) := by decide +kernel
theorem dL_law_1251 : decode cL_law 1251 = .ok (.iadd, 1) := by decide +kernel
theorem dL_law_1252 : decode cL_law 1252 = .ok (.iaload, 1) := by decide +kernel
theorem dL_law_1253 : decode cL_law 1253 = .ok (.invokevirtual 153, 3) := by decide +kernel
theorem dL_law_1256 : decode cL_law 1256 = .ok (.if_icmp .eq 64, 3) := by decide +kernel
theorem dL_law_1259 : decode cL_law 1259 = .ok (.iconst 0, 1) := by decide +kernel
theorem dL_law_1260 : decode cL_law 1260 = .ok (.ireturn, 1) := by decide +kernel
theorem dL_law_1261 : decode cL_law 1261 = .ok (.aload_n 1, 1) := by decide +kernel
theorem dL_law_1262 : decode cL_law 1262 = .ok (.invokevirtual 154, 3) := by decide +kernel
theorem dL_law_1265 : decode cL_law 1265 = .ok (.aload_n 2, 1) := by decide +kernel
theorem dL_law_1266 : decode cL_law 1266 = .ok (.invokevirtual 157, 3) := by decide +kernel
theorem dL_law_1269 : decode cL_law 1269 = .ok (.if_icmp .eq 51, 3) := by decide +kernel
theorem dL_law_1272 : decode cL_law 1272 = .ok (.iconst 0, 1) := by decide +kernel
theorem dL_law_1273 : decode cL_law 1273 = .ok (.ireturn, 1) := by decide +kernel
theorem dL_law_1274 : decode cL_law 1274 = .ok (.aload_n 1, 1) := by decide +kernel
theorem dL_law_1275 : decode cL_law 1275 = .ok (.aload_n 0, 1) := by decide +kernel
theorem dL_law_1276 : decode cL_law 1276 = .ok (.iload_n 3, 1) := by decide +kernel
theorem dL_law_1277 : decode cL_law 1277 = .ok (.iconst 1, 1) := by decide +kernel
theorem dL_law_1278 : decode cL_law 1278 = .ok (.iadd, 1) := by decide +kernel
theorem dL_law_1279 : decode cL_law 1279 = .ok (.iaload, 1) := by decide +kernel
theorem dL_law_1280 : decode cL_law 1280 = .ok (.invokevirtual 158, 3) := by decide +kernel
theorem dL_law_1283 : decode cL_law 1283 = .ok (.aload_n 2, 1) := by decide +kernel
theorem dL_law_1284 : decode cL_law 1284 = .ok (.aload_n 0, 1) := by decide +kernel
theorem dL_law_1285 : decode cL_law 1285 = .ok (.iload_n 3, 1) := by decide +kernel
theorem dL_law_1286 : decode cL_law 1286 = .ok (.iconst 1, 1) := by decide +kernel
theorem dL_law_1287 : decode cL_law 1287 = .ok (.iadd, 1) := by decide +kernel
theorem dL_law_1288 : decode cL_law 1288 = .ok (.iaload, 1) := by decide +kernel
theorem dL_law_1289 : decode cL_law 1289 = .ok (.invokevirtual 161, 3) := by decide +kernel
theorem dL_law_1292 : decode cL_law 1292 = .ok (.if_icmp .eq 28, 3) := by decide +kernel
theorem dL_law_1295 : decode cL_law 1295 = .ok (.iconst 0, 1) := by decide +kernel
theorem dL_law_1296 : decode cL_law 1296 = .ok (.ireturn, 1) := by decide +kernel
theorem dL_law_1297 : decode cL_law 1297 = .ok (.aload_n 1, 1) := by decide +kernel
theorem dL_law_1298 : decode cL_law 1298 = .ok (.aload_n 0, 1) := by decide +kernel
theorem dL_law_1299 : decode cL_law 1299 = .ok (.iload_n 3, 1) := by decide +kernel
theorem dL_law_1300 : decode cL_law 1300 = .ok (.iconst 1, 1) := by decide +kernel
theorem dL_law_1301 : decode cL_law 1301 = .ok (.iadd, 1) := by decide +kernel
theorem dL_law_1302 : decode cL_law 1302 = .ok (.iaload, 1) := by decide +kernel
theorem dL_law_1303 : decode cL_law 1303 = .ok (.invokevirtual 162, 3) := by decide +kernel
theorem dL_law_1306 : decode cL_law 1306 = .ok (.aload_n 2, 1) := by decide +kernel
theorem dL_law_1307 : decode cL_law 1307 = .ok (.aload_n 0, 1) := by decide +kernel
theorem dL_law_1308 : decode cL_law 1308 = .ok (.iload_n 3, 1) := by decide +kernel
theorem dL_law_1309 : decode cL_law 1309 = .ok (.iconst 1, 1) := by decide +kernel
theorem dL_law_1310 : decode cL_law 1310 = .ok (.iadd, 1) := by decide +kernel
theorem dL_law_1311 : decode cL_law 1311 = .ok (.iaload, 1) := by decide +kernel
theorem dL_law_1312 : decode cL_law 1312 = .ok (.invokevirtual 165, 3) := by decide +kernel
theorem dL_law_1315 : decode cL_law 1315 = .ok (.if_icmp .eq 5, 3) := by decide +kernel
theorem dL_law_1318 : decode cL_law 1318 = .ok (.iconst 0, 1) := by decide +kernel
theorem dL_law_1319 : decode cL_law 1319 = .ok (.ireturn, 1) := by decide +kernel
theorem dL_law_1320 : decode cL_law 1320 = .ok (.iinc 3 6, 3) := by decide +kernel
theorem dL_law_1323 : decode cL_law 1323 = .ok (.goto (-1305), 3) := by decide +kernel
theorem dL_law_1326 : decode cL_law 1326 = .ok (.iconst 1, 1) := by decide +kernel
theorem dL_law_1327 : decode cL_law 1327 = .ok (.ireturn, 1) := by decide +kernel
end
section
/-! words for the states -/
abbrev cI (n : Nat) (f : Nat → Int32) : AE := .inl (0, n, .inl f)
abbrev cRow (a : Nat) (sz : Int32) : AE := .inr (3, [.ref a, .int sz])
def bI (b : Bool) : Int32 := match b with
  | true => 1
  | false => 0
theorem bI_or (b : Bool) : bI b = 0 ∨ bI b = 1 := by cases b <;> first | exact Or.inl rfl | exact Or.inr rfl
theorem bI_t {P : Prop} {i : Decidable P} (h : P) : (1 : Int32) = bI (@decide P i) := by rw [decide_eq_true h]; rfl
theorem bI_f {P : Prop} {i : Decidable P} (h : ¬ P) : (0 : Int32) = bI (@decide P i) := by rw [decide_eq_false h]; rfl
theorem bI_0 {P : Prop} {i : Decidable P} (h : bI (@decide P i) = 0) : ¬ P := fun hp => by rw [decide_eq_true hp] at h; exact absurd h (by decide)
theorem bI_1 {P : Prop} {i : Decidable P} (h : ¬ bI (@decide P i) = 0) : P := by
  by_cases hp : P
  · exact hp
  · rw [decide_eq_false hp] at h
    exact absurd rfl h
theorem iL {x y : Int32} (h : ¬ x < y) : y ≤ x := Int32.not_lt.mp h
theorem iG {x y : Int32} (h : ¬ x ≤ y) : y < x := Int32.not_le.mp h
theorem iN {x y : Int32} (h : y ≤ x) : ¬ x < y := Int32.not_lt.mpr h
theorem iM {x y : Int32} (h : y < x) : ¬ x ≤ y := Int32.not_le.mpr h
/-- an int between 0 and a small number is a small number -/
theorem iK {x : Int32} {n : Nat} (h0 : 0 ≤ x) (h1 : x < nI n) (hn : n < 2 ^ 31) : ∃ k : Nat, k < n ∧ x = nI k := by
  obtain ⟨j, hj, rfl⟩ := nI_of (iN h0)
  exact ⟨j, (nI_ltI hj hn).mp h1, rfl⟩
theorem iK2 {x : Int32} {n : Nat} (h0 : 0 ≤ x) (h1 : x ≤ nI n) (hn : n < 2 ^ 31) : ∃ k : Nat, k ≤ n ∧ x = nI k := by
  obtain ⟨j, hj, rfl⟩ := nI_of (iN h0)
  exact ⟨j, (nI_leI hj hn).mp h1, rfl⟩
theorem upd_s {f : Nat → Int32} {k : Nat} {x : Int32} : upd f k x k = x := if_pos rfl
theorem upd_n {f : Nat → Int32} {k j : Nat} {x : Int32} (h : j ≠ k) : upd f k x j = f j := if_neg h
end
section
set_option maxRecDepth 100000 in
theorem c_X3_has (n : Nat) (f : Nat → Int32) (sz i : Int32) : AMet yX3_has cX3_has 2 (some (.boolean)) 0 0 0 [.ref 0, .int i] [cRow 1 sz, cI n f] (pI fun x h => x = bI (decide (0 ≤ i ∧ i < sz)) ∧ h = [cRow 1 sz, cI n f]) := by
  refine AMet.of (by decide) rfl (fun E ad0 hE => ?_)
  refine A_iload_n hE 1 dX3_has_0 rfl rfl ?_
  refine A_if_lt hE 4 16 dX3_has_1 rfl rfl (fun c1 => ?_) (fun c1 => ?_)
  · refine A_iconst hE 17 dX3_has_16 rfl (0) rfl ?_
    refine A_zret hE dX3_has_17 (by first | exact Or.inl rfl | exact Or.inr rfl) ⟨?_, rfl⟩
    exact bI_f (fun z => iN z.1 c1)
  · refine A_iload_n hE 5 dX3_has_4 rfl rfl ?_
    refine A_aload_n hE 6 dX3_has_5 rfl rfl ?_
    refine A_get hE 9 dX3_has_6 rfl fkX3_7 rfl rfl ?_
    refine A_icmp_ge hE 12 16 dX3_has_9 rfl rfl (fun c9 => ?_) (fun c9 => ?_)
    · refine A_iconst hE 17 dX3_has_16 rfl (0) rfl ?_
      refine A_zret hE dX3_has_17 (by first | exact Or.inl rfl | exact Or.inr rfl) ⟨?_, rfl⟩
      exact bI_f (fun z => absurd z.2 (iN c9))
    · refine A_iconst hE 13 dX3_has_12 rfl (1) rfl ?_
      refine A_goto hE 17 dX3_has_13 rfl ?_
      refine A_zret hE dX3_has_17 (by first | exact Or.inl rfl | exact Or.inr rfl) ⟨?_, rfl⟩
      exact bI_t ⟨iL c1, iG c9⟩
set_option maxRecDepth 100000 in
theorem c_X3_hasRun (n : Nat) (f : Nat → Int32) (sz i k : Int32) : AMet yX3_hasRun cX3_hasRun 3 (some (.boolean)) 0 0 0 [.ref 0, .int i, .int k] [cRow 1 sz, cI n f] (pI fun x h => x = bI (decide (0 ≤ k ∧ k ≤ sz ∧ 0 ≤ i ∧ i ≤ sz - k)) ∧ h = [cRow 1 sz, cI n f]) := by
  refine AMet.of (by decide) rfl (fun E ad0 hE => ?_)
  refine A_iload_n hE 1 dX3_hasRun_0 rfl rfl ?_
  refine A_if_lt hE 4 30 dX3_hasRun_1 rfl rfl (fun c1 => ?_) (fun c1 => ?_)
  · refine A_iconst hE 31 dX3_hasRun_30 rfl (0) rfl ?_
    refine A_zret hE dX3_hasRun_31 (by first | exact Or.inl rfl | exact Or.inr rfl) ⟨?_, rfl⟩
    exact bI_f (fun z => iN z.1 c1)
  · refine A_iload_n hE 5 dX3_hasRun_4 rfl rfl ?_
    refine A_aload_n hE 6 dX3_hasRun_5 rfl rfl ?_
    refine A_get hE 9 dX3_hasRun_6 rfl fkX3_7 rfl rfl ?_
    refine A_icmp_gt hE 12 30 dX3_hasRun_9 rfl rfl (fun c9 => ?_) (fun c9 => ?_)
    · refine A_iconst hE 31 dX3_hasRun_30 rfl (0) rfl ?_
      refine A_zret hE dX3_hasRun_31 (by first | exact Or.inl rfl | exact Or.inr rfl) ⟨?_, rfl⟩
      exact bI_f (fun z => iM c9 z.2.1)
    · refine A_iload_n hE 13 dX3_hasRun_12 rfl rfl ?_
      refine A_if_lt hE 16 30 dX3_hasRun_13 rfl rfl (fun c13 => ?_) (fun c13 => ?_)
      · refine A_iconst hE 31 dX3_hasRun_30 rfl (0) rfl ?_
        refine A_zret hE dX3_hasRun_31 (by first | exact Or.inl rfl | exact Or.inr rfl) ⟨?_, rfl⟩
        exact bI_f (fun z => iN z.2.2.1 c13)
      · refine A_iload_n hE 17 dX3_hasRun_16 rfl rfl ?_
        refine A_aload_n hE 18 dX3_hasRun_17 rfl rfl ?_
        refine A_get hE 21 dX3_hasRun_18 rfl fkX3_7 rfl rfl ?_
        refine A_iload_n hE 22 dX3_hasRun_21 rfl rfl ?_
        refine A_isub hE 23 dX3_hasRun_22 rfl ?_
        refine A_icmp_gt hE 26 30 dX3_hasRun_23 rfl rfl (fun c23 => ?_) (fun c23 => ?_)
        · refine A_iconst hE 31 dX3_hasRun_30 rfl (0) rfl ?_
          refine A_zret hE dX3_hasRun_31 (by first | exact Or.inl rfl | exact Or.inr rfl) ⟨?_, rfl⟩
          exact bI_f (fun z => iM c23 z.2.2.2)
        · refine A_iconst hE 27 dX3_hasRun_26 rfl (1) rfl ?_
          refine A_goto hE 31 dX3_hasRun_27 rfl ?_
          refine A_zret hE dX3_hasRun_31 (by first | exact Or.inl rfl | exact Or.inr rfl) ⟨?_, rfl⟩
          exact bI_t ⟨iL c1, Int32.not_lt.mp c9, iL c13, Int32.not_lt.mp c23⟩
set_option maxRecDepth 100000 in
theorem c_X3_add (n : Nat) (f : Nat → Int32) (k : Nat) (v : Int32) (hk : k ≤ n) (hn : Nat.ble n 1000 = true) : AMet yX3_add cX3_add 2 none 0 0 0 [.ref 0, .int v] [cRow 1 (nI k), cI n f] (pV fun h => h = [cRow 1 (nI (if k < n then k + 1 else k)), cI n (if k < n then upd f k v else f)]) := by
  refine AMet.of (by decide) rfl (fun E ad0 hE => ?_)
  have hn2 : n ≤ 1000 := Nat.le_of_ble_eq_true hn
  refine A_aload_n hE 1 dX3_add_0 rfl rfl ?_
  refine A_get hE 4 dX3_add_1 rfl fkX3_7 rfl rfl ?_
  refine A_aload_n hE 5 dX3_add_4 rfl rfl ?_
  refine A_get hE 8 dX3_add_5 rfl fkX3_19 rfl rfl ?_
  refine A_alen hE 9 dX3_add_8 rfl rfl ?_
  refine A_icmp_ge hE 12 32 dX3_add_9 rfl rfl (fun c9 => ?_) (fun c9 => ?_)
  · refine A_vret hE dX3_add_32 ?_
    have hk2 : ¬ k < n := fun z => absurd c9 (nI_ge z (by omega))
    rw [if_neg hk2, if_neg hk2]
  · have hk2 : k < n := (nI_ltI (by omega) (by omega)).mp (iG c9)
    refine A_aload_n hE 13 dX3_add_12 rfl rfl ?_
    refine A_get hE 16 dX3_add_13 rfl fkX3_19 rfl rfl ?_
    refine A_aload_n hE 17 dX3_add_16 rfl rfl ?_
    refine A_get hE 20 dX3_add_17 rfl fkX3_7 rfl rfl ?_
    refine A_iload_n hE 21 dX3_add_20 rfl rfl ?_
    refine A_iast hE 22 k dX3_add_21 rfl rfl rfl hk2 hn rfl ?_
    refine A_aload_n hE 23 dX3_add_22 rfl rfl ?_
    refine A_dup hE 24 dX3_add_23 rfl rfl ?_
    refine A_get hE 27 dX3_add_24 rfl fkX3_7 rfl rfl ?_
    refine A_iconst hE 28 dX3_add_27 rfl (1) rfl ?_
    refine A_iadd hE 29 dX3_add_28 rfl ?_
    refine A_put hE 32 dX3_add_29 rfl fkX3_7 rfl rfl rfl rfl ?_
    refine A_vret hE dX3_add_32 ?_
    rw [if_pos hk2, if_pos hk2, nI_1]
set_option maxRecDepth 100000 in
theorem c_X3_empty (n : Nat) (f : Nat → Int32) (sz : Int32) : AMet yX3_empty cX3_empty 1 none 0 0 0 [.ref 0] [cRow 1 sz, cI n f] (pV fun h => h = [cRow 1 0, cI n f]) := by
  refine AMet.of (by decide) rfl (fun E ad0 hE => ?_)
  refine A_aload_n hE 1 dX3_empty_0 rfl rfl ?_
  refine A_iconst hE 2 dX3_empty_1 rfl (0) rfl ?_
  refine A_put hE 5 dX3_empty_2 rfl fkX3_7 rfl rfl rfl rfl ?_
  refine A_vret hE dX3_empty_5 rfl
set_option maxRecDepth 100000 in
theorem c_X3_takeOver (n n2 : Nat) (f g : Nat → Int32) (sz : Int32) (k2 : Nat) (h1 : k2 ≤ n) (h2 : k2 ≤ n2) (hn : Nat.ble n 1000 = true) (hn2 : Nat.ble n2 1000 = true) : AMet yX3_takeOver cX3_takeOver 3 none 1 0 0 [.ref 0, .ref 2] [cRow 1 sz, cI n f, cRow 3 (nI k2), cI n2 g] (pV fun h => h = [cRow 1 (nI k2), cI n (fun z => if z < k2 then g z else f z), cRow 3 (nI k2), cI n2 g]) := by
  refine AMet.of (by decide) rfl (fun E ad0 hE => ?_)
  have hn' : n ≤ 1000 := Nat.le_of_ble_eq_true hn
  have hn2' : n2 ≤ 1000 := Nat.le_of_ble_eq_true hn2
  have loop : ∀ (m j : Nat), k2 - j = m → j ≤ k2 → AW E (rmD 1 0 0) 3 (QM E ad0 4 0 0 (pV fun h => h = [cRow 1 (nI k2), cI n (fun z => if z < k2 then g z else f z), cRow 3 (nI k2), cI n2 g])) ad0 4 0 0 6 [(0, .ref 0), (1, .ref 2), (2, .int (nI j))] [] [cRow 1 (nI j), cI n (fun z => if z < j then g z else f z), cRow 3 (nI k2), cI n2 g] := by
    intro m
    induction m with
    | zero =>
      intro j hm hj
      obtain rfl : j = k2 := by omega
      refine A_iload_n hE 7 dX3_takeOver_6 rfl rfl ?_
      refine A_aload_n hE 8 dX3_takeOver_7 rfl rfl ?_
      refine A_get hE 11 dX3_takeOver_8 rfl fkX3_7 rfl rfl ?_
      refine A_icmp_ge hE 14 30 dX3_takeOver_11 rfl rfl (fun c11 => ?_) (fun c11 => absurd (nI_le (Nat.le_refl j) (by omega)) c11)
      refine A_vret hE dX3_takeOver_30 rfl
    | succ m ih =>
      intro j hm hj
      have hlt : j < k2 := by omega
      refine A_iload_n hE 7 dX3_takeOver_6 rfl rfl ?_
      refine A_aload_n hE 8 dX3_takeOver_7 rfl rfl ?_
      refine A_get hE 11 dX3_takeOver_8 rfl fkX3_7 rfl rfl ?_
      refine A_icmp_ge hE 14 30 dX3_takeOver_11 rfl rfl (fun c11 => absurd c11 (nI_ge hlt (by omega))) (fun c11 => ?_)
      refine A_aload_n hE 15 dX3_takeOver_14 rfl rfl ?_
      refine A_aload_n hE 16 dX3_takeOver_15 rfl rfl ?_
      refine A_get hE 19 dX3_takeOver_16 rfl fkX3_19 rfl rfl ?_
      refine A_iload_n hE 20 dX3_takeOver_19 rfl rfl ?_
      refine A_iald hE 21 j dX3_takeOver_20 rfl rfl rfl (by omega) hn2 ?_
      refine A_callVv hE 24 (c_X3_add n (fun z => if z < j then g z else f z) j (g j) (by omega) hn) [0, 1] dX3_takeOver_21 rfl mkX3_26 rfl rfl rfl rfl rfl rfl rfl (Nat.le_of_ble_eq_true rfl) (Nat.le_of_ble_eq_true rfl) rfl (fun h21 g21 hp21 hw21 => ?_)
      obtain rfl := hp21
      rw [if_pos (show j < n by omega), if_pos (show j < n by omega)] at hw21
      obtain rfl := Option.some.inj hw21
      rw [show upd (fun z => if z < j then g z else f z) j (g j) = (fun z => if z < j + 1 then g z else f z) by
        funext z
        by_cases hz : z = j
        · subst hz; rw [upd_s, if_pos (by omega)]
        · rw [upd_n hz]; by_cases h2 : z < j
          · rw [if_pos h2, if_pos (by omega)]
          · rw [if_neg h2, if_neg (by omega)]]
      refine A_iinc hE 27 dX3_takeOver_24 rfl rfl (1) rfl rfl rfl ?_
      rw [nI_1]
      refine A_lv [0, 1, 2] rfl ?_
      refine A_goto hE 6 dX3_takeOver_27 rfl ?_
      exact ih (j + 1) (by omega) (by omega)
  refine A_lv [0, 1] rfl ?_
  refine A_aload_n hE 1 dX3_takeOver_0 rfl rfl ?_
  refine A_callVv hE 4 (c_X3_empty n f sz) [0, 1] dX3_takeOver_1 rfl mkX3_23 rfl rfl rfl rfl rfl rfl rfl (Nat.le_of_ble_eq_true rfl) (Nat.le_of_ble_eq_true rfl) rfl (fun h1 g1 hp1 hw1 => ?_)
  obtain rfl := hp1
  obtain rfl := Option.some.inj hw1
  refine A_iconst hE 5 dX3_takeOver_4 rfl (0) rfl ?_
  refine A_istore_n hE 6 dX3_takeOver_5 rfl rfl rfl ?_
  refine A_lv [0, 1, 2] rfl ?_
  refine (show _ = _ by funext z; rw [if_neg (Nat.not_lt_zero z)] : f = (fun z => if z < 0 then g z else f z)) ▸ ?_
  exact loop k2 0 (by omega) (Nat.zero_le _)
end
