section
-- ===== PART A: goes FIRST, ahead of the names: the tables' words, and 'selects' of the private methods out of them =====
/-- a private method of a class that the tables say can be made, by its rows of tables_1 -/
def lw_okq (q : MethodName × Nat) : Prop := (q.1.cls ≠ "java/lang/invoke/MethodHandle" ∧ q.1.cls ≠ "java/lang/invoke/VarHandle") ∧ Cond.instantiable q.1.cls q.2 ∈ tables_1 ∧ Cond.privateMethod q.1 ∈ tables_1 ∧ Cond.instanceMethod q.1 ∈ tables_1
theorem lw_p0 : lw_okq (⟨"LoanedRound", "error", "(I)I"⟩, 8) := ⟨⟨by decide +kernel, by decide +kernel⟩, List.mem_of_getElem? (i := 20) (by decide +kernel), List.mem_of_getElem? (i := 295) (by decide +kernel), List.mem_of_getElem? (i := 296) (by decide +kernel)⟩
theorem lw_p1 : lw_okq (⟨"LoanedRound$Round", "tellsAt", "(I)I"⟩, 14) := ⟨⟨by decide +kernel, by decide +kernel⟩, List.mem_of_getElem? (i := 78) (by decide +kernel), List.mem_of_getElem? (i := 320) (by decide +kernel), List.mem_of_getElem? (i := 321) (by decide +kernel)⟩
theorem lw_p2 : lw_okq (⟨"LoanedRound$Round", "leavesAt", "(I)I"⟩, 14) := ⟨⟨by decide +kernel, by decide +kernel⟩, List.mem_of_getElem? (i := 78) (by decide +kernel), List.mem_of_getElem? (i := 345) (by decide +kernel), List.mem_of_getElem? (i := 346) (by decide +kernel)⟩
theorem lw_p3 : lw_okq (⟨"LoanedRound", "becomeView", "(I)I"⟩, 8) := ⟨⟨by decide +kernel, by decide +kernel⟩, List.mem_of_getElem? (i := 20) (by decide +kernel), List.mem_of_getElem? (i := 382) (by decide +kernel), List.mem_of_getElem? (i := 383) (by decide +kernel)⟩
theorem lw_p4 : lw_okq (⟨"LoanedRound", "becomeSharp", "(I)I"⟩, 8) := ⟨⟨by decide +kernel, by decide +kernel⟩, List.mem_of_getElem? (i := 20) (by decide +kernel), List.mem_of_getElem? (i := 386) (by decide +kernel), List.mem_of_getElem? (i := 387) (by decide +kernel)⟩
theorem lw_p5 : lw_okq (⟨"LoanedRound", "becomeSteel", "(I)I"⟩, 8) := ⟨⟨by decide +kernel, by decide +kernel⟩, List.mem_of_getElem? (i := 20) (by decide +kernel), List.mem_of_getElem? (i := 390) (by decide +kernel), List.mem_of_getElem? (i := 391) (by decide +kernel)⟩
theorem lw_p6 : lw_okq (⟨"LoanedRound$Reader", "readT", "(I)V"⟩, 5) := ⟨⟨by decide +kernel, by decide +kernel⟩, List.mem_of_getElem? (i := 169) (by decide +kernel), List.mem_of_getElem? (i := 423) (by decide +kernel), List.mem_of_getElem? (i := 424) (by decide +kernel)⟩
theorem lw_p7 : lw_okq (⟨"LoanedRound$Reader", "readA", "(I)V"⟩, 5) := ⟨⟨by decide +kernel, by decide +kernel⟩, List.mem_of_getElem? (i := 169) (by decide +kernel), List.mem_of_getElem? (i := 427) (by decide +kernel), List.mem_of_getElem? (i := 428) (by decide +kernel)⟩
theorem lw_p8 : lw_okq (⟨"LoanedRound$Reader", "readB", "(I)V"⟩, 5) := ⟨⟨by decide +kernel, by decide +kernel⟩, List.mem_of_getElem? (i := 169) (by decide +kernel), List.mem_of_getElem? (i := 431) (by decide +kernel), List.mem_of_getElem? (i := 432) (by decide +kernel)⟩
theorem lw_p9 : lw_okq (⟨"LoanedRound$Reader", "readS", "(I)V"⟩, 5) := ⟨⟨by decide +kernel, by decide +kernel⟩, List.mem_of_getElem? (i := 169) (by decide +kernel), List.mem_of_getElem? (i := 435) (by decide +kernel), List.mem_of_getElem? (i := 436) (by decide +kernel)⟩
theorem lw_p10 : lw_okq (⟨"LoanedRound$Reader", "readP", "(I)V"⟩, 5) := ⟨⟨by decide +kernel, by decide +kernel⟩, List.mem_of_getElem? (i := 169) (by decide +kernel), List.mem_of_getElem? (i := 439) (by decide +kernel), List.mem_of_getElem? (i := 440) (by decide +kernel)⟩
theorem lw_p11 : lw_okq (⟨"LoanedRound$Reader", "readQ", "(I)V"⟩, 5) := ⟨⟨by decide +kernel, by decide +kernel⟩, List.mem_of_getElem? (i := 169) (by decide +kernel), List.mem_of_getElem? (i := 443) (by decide +kernel), List.mem_of_getElem? (i := 444) (by decide +kernel)⟩
theorem lw_p12 : lw_okq (⟨"LoanedRound$Reader", "isDigit", "()Z"⟩, 5) := ⟨⟨by decide +kernel, by decide +kernel⟩, List.mem_of_getElem? (i := 169) (by decide +kernel), List.mem_of_getElem? (i := 447) (by decide +kernel), List.mem_of_getElem? (i := 448) (by decide +kernel)⟩
theorem lw_p13 : lw_okq (⟨"LoanedRound$Reader", "next", "()I"⟩, 5) := ⟨⟨by decide +kernel, by decide +kernel⟩, List.mem_of_getElem? (i := 169) (by decide +kernel), List.mem_of_getElem? (i := 451) (by decide +kernel), List.mem_of_getElem? (i := 452) (by decide +kernel)⟩
theorem lw_p14 : lw_okq (⟨"LoanedRound$Reader", "readNumber", "()V"⟩, 5) := ⟨⟨by decide +kernel, by decide +kernel⟩, List.mem_of_getElem? (i := 169) (by decide +kernel), List.mem_of_getElem? (i := 459) (by decide +kernel), List.mem_of_getElem? (i := 460) (by decide +kernel)⟩
theorem lw_p15 : lw_okq (⟨"LoanedRound$Reader", "nameNext", "()I"⟩, 5) := ⟨⟨by decide +kernel, by decide +kernel⟩, List.mem_of_getElem? (i := 169) (by decide +kernel), List.mem_of_getElem? (i := 464) (by decide +kernel), List.mem_of_getElem? (i := 465) (by decide +kernel)⟩
def lw_privs_1 : List (MethodName × Nat) := [(⟨"LoanedRound", "error", "(I)I"⟩, 8), (⟨"LoanedRound$Round", "tellsAt", "(I)I"⟩, 14), (⟨"LoanedRound$Round", "leavesAt", "(I)I"⟩, 14), (⟨"LoanedRound", "becomeView", "(I)I"⟩, 8), (⟨"LoanedRound", "becomeSharp", "(I)I"⟩, 8), (⟨"LoanedRound", "becomeSteel", "(I)I"⟩, 8), (⟨"LoanedRound$Reader", "readT", "(I)V"⟩, 5), (⟨"LoanedRound$Reader", "readA", "(I)V"⟩, 5), (⟨"LoanedRound$Reader", "readB", "(I)V"⟩, 5), (⟨"LoanedRound$Reader", "readS", "(I)V"⟩, 5), (⟨"LoanedRound$Reader", "readP", "(I)V"⟩, 5), (⟨"LoanedRound$Reader", "readQ", "(I)V"⟩, 5), (⟨"LoanedRound$Reader", "isDigit", "()Z"⟩, 5), (⟨"LoanedRound$Reader", "next", "()I"⟩, 5), (⟨"LoanedRound$Reader", "readNumber", "()V"⟩, 5), (⟨"LoanedRound$Reader", "nameNext", "()I"⟩, 5)]
theorem lw_r1 : ∀ q ∈ lw_privs_1, lw_okq q := List.forall_mem_cons.mpr ⟨lw_p0, List.forall_mem_cons.mpr ⟨lw_p1, List.forall_mem_cons.mpr ⟨lw_p2, List.forall_mem_cons.mpr ⟨lw_p3, List.forall_mem_cons.mpr ⟨lw_p4, List.forall_mem_cons.mpr ⟨lw_p5, List.forall_mem_cons.mpr ⟨lw_p6, List.forall_mem_cons.mpr ⟨lw_p7, List.forall_mem_cons.mpr ⟨lw_p8, List.forall_mem_cons.mpr ⟨lw_p9, List.forall_mem_cons.mpr ⟨lw_p10, List.forall_mem_cons.mpr ⟨lw_p11, List.forall_mem_cons.mpr ⟨lw_p12, List.forall_mem_cons.mpr ⟨lw_p13, List.forall_mem_cons.mpr ⟨lw_p14, List.forall_mem_cons.mpr ⟨lw_p15, fun _ h => absurd h List.not_mem_nil⟩⟩⟩⟩⟩⟩⟩⟩⟩⟩⟩⟩⟩⟩⟩⟩
theorem lw_p16 : lw_okq (⟨"LoanedRound$Reader", "isNext", "(C)Z"⟩, 5) := ⟨⟨by decide +kernel, by decide +kernel⟩, List.mem_of_getElem? (i := 169) (by decide +kernel), List.mem_of_getElem? (i := 550) (by decide +kernel), List.mem_of_getElem? (i := 551) (by decide +kernel)⟩
theorem lw_p17 : lw_okq (⟨"LoanedRound$Reader", "readClosing", "()V"⟩, 5) := ⟨⟨by decide +kernel, by decide +kernel⟩, List.mem_of_getElem? (i := 169) (by decide +kernel), List.mem_of_getElem? (i := 554) (by decide +kernel), List.mem_of_getElem? (i := 555) (by decide +kernel)⟩
theorem lw_p18 : lw_okq (⟨"LoanedRound$Reader", "fail", "()V"⟩, 5) := ⟨⟨by decide +kernel, by decide +kernel⟩, List.mem_of_getElem? (i := 169) (by decide +kernel), List.mem_of_getElem? (i := 558) (by decide +kernel), List.mem_of_getElem? (i := 559) (by decide +kernel)⟩
theorem lw_p19 : lw_okq (⟨"LoanedRound$Round", "nextPlace", "()I"⟩, 14) := ⟨⟨by decide +kernel, by decide +kernel⟩, List.mem_of_getElem? (i := 78) (by decide +kernel), List.mem_of_getElem? (i := 608) (by decide +kernel), List.mem_of_getElem? (i := 609) (by decide +kernel)⟩
theorem lw_p20 : lw_okq (⟨"LoanedRound$Thought", "viewWithout", "(II)I"⟩, 4) := ⟨⟨by decide +kernel, by decide +kernel⟩, List.mem_of_getElem? (i := 196) (by decide +kernel), List.mem_of_getElem? (i := 701) (by decide +kernel), List.mem_of_getElem? (i := 702) (by decide +kernel)⟩
theorem lw_p21 : lw_okq (⟨"LoanedRound$Thought", "isFitting", "(ILLoanedRound$Row;)Z"⟩, 4) := ⟨⟨by decide +kernel, by decide +kernel⟩, List.mem_of_getElem? (i := 196) (by decide +kernel), List.mem_of_getElem? (i := 732) (by decide +kernel), List.mem_of_getElem? (i := 733) (by decide +kernel)⟩
theorem lw_p22 : lw_okq (⟨"LoanedRound$Voices", "speak", "(IIII)I"⟩, 5) := ⟨⟨by decide +kernel, by decide +kernel⟩, List.mem_of_getElem? (i := 219) (by decide +kernel), List.mem_of_getElem? (i := 746) (by decide +kernel), List.mem_of_getElem? (i := 747) (by decide +kernel)⟩
theorem lw_p23 : lw_okq (⟨"LoanedRound$Voices", "part", "(I)I"⟩, 5) := ⟨⟨by decide +kernel, by decide +kernel⟩, List.mem_of_getElem? (i := 219) (by decide +kernel), List.mem_of_getElem? (i := 757) (by decide +kernel), List.mem_of_getElem? (i := 758) (by decide +kernel)⟩
theorem lw_p24 : lw_okq (⟨"LoanedRoundModel", "error", "(I)I"⟩, 20) := ⟨⟨by decide +kernel, by decide +kernel⟩, List.mem_of_getElem? (i := 848) (by decide +kernel), List.mem_of_getElem? (i := 922) (by decide +kernel), List.mem_of_getElem? (i := 923) (by decide +kernel)⟩
theorem lw_p25 : lw_okq (⟨"LoanedRoundModel", "whole", "()Z"⟩, 20) := ⟨⟨by decide +kernel, by decide +kernel⟩, List.mem_of_getElem? (i := 848) (by decide +kernel), List.mem_of_getElem? (i := 932) (by decide +kernel), List.mem_of_getElem? (i := 933) (by decide +kernel)⟩
theorem lw_p26 : lw_okq (⟨"LoanedRoundModel", "both", "()Z"⟩, 20) := ⟨⟨by decide +kernel, by decide +kernel⟩, List.mem_of_getElem? (i := 848) (by decide +kernel), List.mem_of_getElem? (i := 936) (by decide +kernel), List.mem_of_getElem? (i := 937) (by decide +kernel)⟩
theorem lw_p27 : lw_okq (⟨"LoanedRoundModel", "compared", "()Z"⟩, 20) := ⟨⟨by decide +kernel, by decide +kernel⟩, List.mem_of_getElem? (i := 848) (by decide +kernel), List.mem_of_getElem? (i := 940) (by decide +kernel), List.mem_of_getElem? (i := 941) (by decide +kernel)⟩
theorem lw_p28 : lw_okq (⟨"LoanedRoundModel", "sum", "()Z"⟩, 20) := ⟨⟨by decide +kernel, by decide +kernel⟩, List.mem_of_getElem? (i := 848) (by decide +kernel), List.mem_of_getElem? (i := 944) (by decide +kernel), List.mem_of_getElem? (i := 945) (by decide +kernel)⟩
theorem lw_p29 : lw_okq (⟨"LoanedRoundModel", "product", "()Z"⟩, 20) := ⟨⟨by decide +kernel, by decide +kernel⟩, List.mem_of_getElem? (i := 848) (by decide +kernel), List.mem_of_getElem? (i := 948) (by decide +kernel), List.mem_of_getElem? (i := 949) (by decide +kernel)⟩
theorem lw_p30 : lw_okq (⟨"LoanedRoundModel", "one", "()Z"⟩, 20) := ⟨⟨by decide +kernel, by decide +kernel⟩, List.mem_of_getElem? (i := 848) (by decide +kernel), List.mem_of_getElem? (i := 952) (by decide +kernel), List.mem_of_getElem? (i := 953) (by decide +kernel)⟩
theorem lw_p31 : lw_okq (⟨"LoanedRoundModel", "look", "()I"⟩, 20) := ⟨⟨by decide +kernel, by decide +kernel⟩, List.mem_of_getElem? (i := 848) (by decide +kernel), List.mem_of_getElem? (i := 956) (by decide +kernel), List.mem_of_getElem? (i := 957) (by decide +kernel)⟩
def lw_privs_2 : List (MethodName × Nat) := [(⟨"LoanedRound$Reader", "isNext", "(C)Z"⟩, 5), (⟨"LoanedRound$Reader", "readClosing", "()V"⟩, 5), (⟨"LoanedRound$Reader", "fail", "()V"⟩, 5), (⟨"LoanedRound$Round", "nextPlace", "()I"⟩, 14), (⟨"LoanedRound$Thought", "viewWithout", "(II)I"⟩, 4), (⟨"LoanedRound$Thought", "isFitting", "(ILLoanedRound$Row;)Z"⟩, 4), (⟨"LoanedRound$Voices", "speak", "(IIII)I"⟩, 5), (⟨"LoanedRound$Voices", "part", "(I)I"⟩, 5), (⟨"LoanedRoundModel", "error", "(I)I"⟩, 20), (⟨"LoanedRoundModel", "whole", "()Z"⟩, 20), (⟨"LoanedRoundModel", "both", "()Z"⟩, 20), (⟨"LoanedRoundModel", "compared", "()Z"⟩, 20), (⟨"LoanedRoundModel", "sum", "()Z"⟩, 20), (⟨"LoanedRoundModel", "product", "()Z"⟩, 20), (⟨"LoanedRoundModel", "one", "()Z"⟩, 20), (⟨"LoanedRoundModel", "look", "()I"⟩, 20)]
theorem lw_r2 : ∀ q ∈ lw_privs_2, lw_okq q := List.forall_mem_cons.mpr ⟨lw_p16, List.forall_mem_cons.mpr ⟨lw_p17, List.forall_mem_cons.mpr ⟨lw_p18, List.forall_mem_cons.mpr ⟨lw_p19, List.forall_mem_cons.mpr ⟨lw_p20, List.forall_mem_cons.mpr ⟨lw_p21, List.forall_mem_cons.mpr ⟨lw_p22, List.forall_mem_cons.mpr ⟨lw_p23, List.forall_mem_cons.mpr ⟨lw_p24, List.forall_mem_cons.mpr ⟨lw_p25, List.forall_mem_cons.mpr ⟨lw_p26, List.forall_mem_cons.mpr ⟨lw_p27, List.forall_mem_cons.mpr ⟨lw_p28, List.forall_mem_cons.mpr ⟨lw_p29, List.forall_mem_cons.mpr ⟨lw_p30, List.forall_mem_cons.mpr ⟨lw_p31, fun _ h => absurd h List.not_mem_nil⟩⟩⟩⟩⟩⟩⟩⟩⟩⟩⟩⟩⟩⟩⟩⟩
theorem lw_p32 : lw_okq (⟨"LoanedRoundModel", "isName", "(I)Z"⟩, 20) := ⟨⟨by decide +kernel, by decide +kernel⟩, List.mem_of_getElem? (i := 848) (by decide +kernel), List.mem_of_getElem? (i := 960) (by decide +kernel), List.mem_of_getElem? (i := 961) (by decide +kernel)⟩
theorem lw_p33 : lw_okq (⟨"LoanedRoundModel", "step1", "(II)V"⟩, 20) := ⟨⟨by decide +kernel, by decide +kernel⟩, List.mem_of_getElem? (i := 848) (by decide +kernel), List.mem_of_getElem? (i := 964) (by decide +kernel), List.mem_of_getElem? (i := 965) (by decide +kernel)⟩
theorem lw_p34 : lw_okq (⟨"LoanedRoundModel", "opens", "()Z"⟩, 20) := ⟨⟨by decide +kernel, by decide +kernel⟩, List.mem_of_getElem? (i := 848) (by decide +kernel), List.mem_of_getElem? (i := 968) (by decide +kernel), List.mem_of_getElem? (i := 969) (by decide +kernel)⟩
theorem lw_p35 : lw_okq (⟨"LoanedRoundModel", "hasText", "(I)Z"⟩, 20) := ⟨⟨by decide +kernel, by decide +kernel⟩, List.mem_of_getElem? (i := 848) (by decide +kernel), List.mem_of_getElem? (i := 976) (by decide +kernel), List.mem_of_getElem? (i := 977) (by decide +kernel)⟩
theorem lw_p36 : lw_okq (⟨"LoanedRoundModel", "lays1", "(III)V"⟩, 20) := ⟨⟨by decide +kernel, by decide +kernel⟩, List.mem_of_getElem? (i := 848) (by decide +kernel), List.mem_of_getElem? (i := 987) (by decide +kernel), List.mem_of_getElem? (i := 988) (by decide +kernel)⟩
theorem lw_p37 : lw_okq (⟨"LoanedRoundModel", "isHome", "(I)Z"⟩, 20) := ⟨⟨by decide +kernel, by decide +kernel⟩, List.mem_of_getElem? (i := 848) (by decide +kernel), List.mem_of_getElem? (i := 995) (by decide +kernel), List.mem_of_getElem? (i := 996) (by decide +kernel)⟩
theorem lw_p38 : lw_okq (⟨"LoanedRoundModel", "saidAt", "(I)I"⟩, 20) := ⟨⟨by decide +kernel, by decide +kernel⟩, List.mem_of_getElem? (i := 848) (by decide +kernel), List.mem_of_getElem? (i := 999) (by decide +kernel), List.mem_of_getElem? (i := 1000) (by decide +kernel)⟩
theorem lw_p39 : lw_okq (⟨"LoanedRoundModel", "tellsOf", "(I)I"⟩, 20) := ⟨⟨by decide +kernel, by decide +kernel⟩, List.mem_of_getElem? (i := 848) (by decide +kernel), List.mem_of_getElem? (i := 1003) (by decide +kernel), List.mem_of_getElem? (i := 1004) (by decide +kernel)⟩
theorem lw_p40 : lw_okq (⟨"LoanedRoundModel", "its", "(II)I"⟩, 20) := ⟨⟨by decide +kernel, by decide +kernel⟩, List.mem_of_getElem? (i := 848) (by decide +kernel), List.mem_of_getElem? (i := 1007) (by decide +kernel), List.mem_of_getElem? (i := 1008) (by decide +kernel)⟩
theorem lw_p41 : lw_okq (⟨"LoanedRoundModel", "givenBy", "(IIII)I"⟩, 20) := ⟨⟨by decide +kernel, by decide +kernel⟩, List.mem_of_getElem? (i := 848) (by decide +kernel), List.mem_of_getElem? (i := 1011) (by decide +kernel), List.mem_of_getElem? (i := 1012) (by decide +kernel)⟩
theorem lw_p42 : lw_okq (⟨"LoanedRoundModel", "worked", "(I)I"⟩, 20) := ⟨⟨by decide +kernel, by decide +kernel⟩, List.mem_of_getElem? (i := 848) (by decide +kernel), List.mem_of_getElem? (i := 1015) (by decide +kernel), List.mem_of_getElem? (i := 1016) (by decide +kernel)⟩
theorem lw_p43 : lw_okq (⟨"LoanedRoundModel", "behindAt", "(I)I"⟩, 20) := ⟨⟨by decide +kernel, by decide +kernel⟩, List.mem_of_getElem? (i := 848) (by decide +kernel), List.mem_of_getElem? (i := 1028) (by decide +kernel), List.mem_of_getElem? (i := 1029) (by decide +kernel)⟩
theorem lw_p44 : lw_okq (⟨"LoanedRoundModel", "leavesOf", "(I)I"⟩, 20) := ⟨⟨by decide +kernel, by decide +kernel⟩, List.mem_of_getElem? (i := 848) (by decide +kernel), List.mem_of_getElem? (i := 1032) (by decide +kernel), List.mem_of_getElem? (i := 1033) (by decide +kernel)⟩
theorem lw_p45 : lw_okq (⟨"LoanedRoundModel", "bluntsOf", "(I)I"⟩, 20) := ⟨⟨by decide +kernel, by decide +kernel⟩, List.mem_of_getElem? (i := 848) (by decide +kernel), List.mem_of_getElem? (i := 1036) (by decide +kernel), List.mem_of_getElem? (i := 1037) (by decide +kernel)⟩
theorem lw_p46 : lw_okq (⟨"LoanedRoundModel", "change1", "(II)I"⟩, 20) := ⟨⟨by decide +kernel, by decide +kernel⟩, List.mem_of_getElem? (i := 848) (by decide +kernel), List.mem_of_getElem? (i := 1055) (by decide +kernel), List.mem_of_getElem? (i := 1056) (by decide +kernel)⟩
theorem lw_p47 : lw_okq (⟨"LoanedRoundModel", "goesOn", "(I)V"⟩, 20) := ⟨⟨by decide +kernel, by decide +kernel⟩, List.mem_of_getElem? (i := 848) (by decide +kernel), List.mem_of_getElem? (i := 1079) (by decide +kernel), List.mem_of_getElem? (i := 1080) (by decide +kernel)⟩
def lw_privs_3 : List (MethodName × Nat) := [(⟨"LoanedRoundModel", "isName", "(I)Z"⟩, 20), (⟨"LoanedRoundModel", "step1", "(II)V"⟩, 20), (⟨"LoanedRoundModel", "opens", "()Z"⟩, 20), (⟨"LoanedRoundModel", "hasText", "(I)Z"⟩, 20), (⟨"LoanedRoundModel", "lays1", "(III)V"⟩, 20), (⟨"LoanedRoundModel", "isHome", "(I)Z"⟩, 20), (⟨"LoanedRoundModel", "saidAt", "(I)I"⟩, 20), (⟨"LoanedRoundModel", "tellsOf", "(I)I"⟩, 20), (⟨"LoanedRoundModel", "its", "(II)I"⟩, 20), (⟨"LoanedRoundModel", "givenBy", "(IIII)I"⟩, 20), (⟨"LoanedRoundModel", "worked", "(I)I"⟩, 20), (⟨"LoanedRoundModel", "behindAt", "(I)I"⟩, 20), (⟨"LoanedRoundModel", "leavesOf", "(I)I"⟩, 20), (⟨"LoanedRoundModel", "bluntsOf", "(I)I"⟩, 20), (⟨"LoanedRoundModel", "change1", "(II)I"⟩, 20), (⟨"LoanedRoundModel", "goesOn", "(I)V"⟩, 20)]
theorem lw_r3 : ∀ q ∈ lw_privs_3, lw_okq q := List.forall_mem_cons.mpr ⟨lw_p32, List.forall_mem_cons.mpr ⟨lw_p33, List.forall_mem_cons.mpr ⟨lw_p34, List.forall_mem_cons.mpr ⟨lw_p35, List.forall_mem_cons.mpr ⟨lw_p36, List.forall_mem_cons.mpr ⟨lw_p37, List.forall_mem_cons.mpr ⟨lw_p38, List.forall_mem_cons.mpr ⟨lw_p39, List.forall_mem_cons.mpr ⟨lw_p40, List.forall_mem_cons.mpr ⟨lw_p41, List.forall_mem_cons.mpr ⟨lw_p42, List.forall_mem_cons.mpr ⟨lw_p43, List.forall_mem_cons.mpr ⟨lw_p44, List.forall_mem_cons.mpr ⟨lw_p45, List.forall_mem_cons.mpr ⟨lw_p46, List.forall_mem_cons.mpr ⟨lw_p47, fun _ h => absurd h List.not_mem_nil⟩⟩⟩⟩⟩⟩⟩⟩⟩⟩⟩⟩⟩⟩⟩⟩
theorem lw_p48 : lw_okq (⟨"LoanedRoundModel", "day1", "()V"⟩, 20) := ⟨⟨by decide +kernel, by decide +kernel⟩, List.mem_of_getElem? (i := 848) (by decide +kernel), List.mem_of_getElem? (i := 1083) (by decide +kernel), List.mem_of_getElem? (i := 1084) (by decide +kernel)⟩
theorem lw_p49 : lw_okq (⟨"LoanedRoundModel", "nextOne", "()I"⟩, 20) := ⟨⟨by decide +kernel, by decide +kernel⟩, List.mem_of_getElem? (i := 848) (by decide +kernel), List.mem_of_getElem? (i := 1087) (by decide +kernel), List.mem_of_getElem? (i := 1088) (by decide +kernel)⟩
theorem lw_p50 : lw_okq (⟨"LoanedRoundModel", "saves", "()V"⟩, 20) := ⟨⟨by decide +kernel, by decide +kernel⟩, List.mem_of_getElem? (i := 848) (by decide +kernel), List.mem_of_getElem? (i := 1108) (by decide +kernel), List.mem_of_getElem? (i := 1109) (by decide +kernel)⟩
theorem lw_p51 : lw_okq (⟨"LoanedRoundModel", "heardAll", "()I"⟩, 20) := ⟨⟨by decide +kernel, by decide +kernel⟩, List.mem_of_getElem? (i := 848) (by decide +kernel), List.mem_of_getElem? (i := 1112) (by decide +kernel), List.mem_of_getElem? (i := 1113) (by decide +kernel)⟩
theorem lw_p52 : lw_okq (⟨"LoanedRoundModel", "putsBack", "()V"⟩, 20) := ⟨⟨by decide +kernel, by decide +kernel⟩, List.mem_of_getElem? (i := 848) (by decide +kernel), List.mem_of_getElem? (i := 1116) (by decide +kernel), List.mem_of_getElem? (i := 1117) (by decide +kernel)⟩
theorem lw_p53 : lw_okq (⟨"LoanedRoundModel", "changePlaces", "(II)V"⟩, 20) := ⟨⟨by decide +kernel, by decide +kernel⟩, List.mem_of_getElem? (i := 848) (by decide +kernel), List.mem_of_getElem? (i := 1135) (by decide +kernel), List.mem_of_getElem? (i := 1136) (by decide +kernel)⟩
theorem lw_p54 : lw_okq (⟨"LoanedRoundModel", "viewWith", "(II)I"⟩, 20) := ⟨⟨by decide +kernel, by decide +kernel⟩, List.mem_of_getElem? (i := 848) (by decide +kernel), List.mem_of_getElem? (i := 1146) (by decide +kernel), List.mem_of_getElem? (i := 1147) (by decide +kernel)⟩
theorem lw_p55 : lw_okq (⟨"LoanedRoundModel", "kindNow", "()I"⟩, 20) := ⟨⟨by decide +kernel, by decide +kernel⟩, List.mem_of_getElem? (i := 848) (by decide +kernel), List.mem_of_getElem? (i := 1168) (by decide +kernel), List.mem_of_getElem? (i := 1169) (by decide +kernel)⟩
theorem lw_p56 : lw_okq (⟨"LoanedRoundModel", "cutsAs", "(II)I"⟩, 20) := ⟨⟨by decide +kernel, by decide +kernel⟩, List.mem_of_getElem? (i := 848) (by decide +kernel), List.mem_of_getElem? (i := 1172) (by decide +kernel), List.mem_of_getElem? (i := 1173) (by decide +kernel)⟩
theorem lw_p57 : lw_okq (⟨"LoanedRoundModel", "begins", "(I)V"⟩, 20) := ⟨⟨by decide +kernel, by decide +kernel⟩, List.mem_of_getElem? (i := 848) (by decide +kernel), List.mem_of_getElem? (i := 1176) (by decide +kernel), List.mem_of_getElem? (i := 1177) (by decide +kernel)⟩
theorem lw_p58 : lw_okq (⟨"LoanedRoundModel", "saysAs", "(II)I"⟩, 20) := ⟨⟨by decide +kernel, by decide +kernel⟩, List.mem_of_getElem? (i := 848) (by decide +kernel), List.mem_of_getElem? (i := 1180) (by decide +kernel), List.mem_of_getElem? (i := 1181) (by decide +kernel)⟩
theorem lw_p59 : lw_okq (⟨"LoanedRoundModel", "mNow", "()I"⟩, 20) := ⟨⟨by decide +kernel, by decide +kernel⟩, List.mem_of_getElem? (i := 848) (by decide +kernel), List.mem_of_getElem? (i := 1184) (by decide +kernel), List.mem_of_getElem? (i := 1185) (by decide +kernel)⟩
theorem lw_p60 : lw_okq (⟨"LoanedRoundModel", "steelsAs", "(II)I"⟩, 20) := ⟨⟨by decide +kernel, by decide +kernel⟩, List.mem_of_getElem? (i := 848) (by decide +kernel), List.mem_of_getElem? (i := 1188) (by decide +kernel), List.mem_of_getElem? (i := 1189) (by decide +kernel)⟩
theorem lw_p61 : lw_okq (⟨"LoanedRoundModel", "partsAs", "(II)I"⟩, 20) := ⟨⟨by decide +kernel, by decide +kernel⟩, List.mem_of_getElem? (i := 848) (by decide +kernel), List.mem_of_getElem? (i := 1192) (by decide +kernel), List.mem_of_getElem? (i := 1193) (by decide +kernel)⟩
theorem lw_p62 : lw_okq (⟨"LoanedRoundModel", "lacks", "(I)I"⟩, 20) := ⟨⟨by decide +kernel, by decide +kernel⟩, List.mem_of_getElem? (i := 848) (by decide +kernel), List.mem_of_getElem? (i := 1216) (by decide +kernel), List.mem_of_getElem? (i := 1217) (by decide +kernel)⟩
theorem lw_p63 : lw_okq (⟨"LoanedRoundModel", "pastNow", "()I"⟩, 20) := ⟨⟨by decide +kernel, by decide +kernel⟩, List.mem_of_getElem? (i := 848) (by decide +kernel), List.mem_of_getElem? (i := 1247) (by decide +kernel), List.mem_of_getElem? (i := 1248) (by decide +kernel)⟩
def lw_privs_4 : List (MethodName × Nat) := [(⟨"LoanedRoundModel", "day1", "()V"⟩, 20), (⟨"LoanedRoundModel", "nextOne", "()I"⟩, 20), (⟨"LoanedRoundModel", "saves", "()V"⟩, 20), (⟨"LoanedRoundModel", "heardAll", "()I"⟩, 20), (⟨"LoanedRoundModel", "putsBack", "()V"⟩, 20), (⟨"LoanedRoundModel", "changePlaces", "(II)V"⟩, 20), (⟨"LoanedRoundModel", "viewWith", "(II)I"⟩, 20), (⟨"LoanedRoundModel", "kindNow", "()I"⟩, 20), (⟨"LoanedRoundModel", "cutsAs", "(II)I"⟩, 20), (⟨"LoanedRoundModel", "begins", "(I)V"⟩, 20), (⟨"LoanedRoundModel", "saysAs", "(II)I"⟩, 20), (⟨"LoanedRoundModel", "mNow", "()I"⟩, 20), (⟨"LoanedRoundModel", "steelsAs", "(II)I"⟩, 20), (⟨"LoanedRoundModel", "partsAs", "(II)I"⟩, 20), (⟨"LoanedRoundModel", "lacks", "(I)I"⟩, 20), (⟨"LoanedRoundModel", "pastNow", "()I"⟩, 20)]
theorem lw_r4 : ∀ q ∈ lw_privs_4, lw_okq q := List.forall_mem_cons.mpr ⟨lw_p48, List.forall_mem_cons.mpr ⟨lw_p49, List.forall_mem_cons.mpr ⟨lw_p50, List.forall_mem_cons.mpr ⟨lw_p51, List.forall_mem_cons.mpr ⟨lw_p52, List.forall_mem_cons.mpr ⟨lw_p53, List.forall_mem_cons.mpr ⟨lw_p54, List.forall_mem_cons.mpr ⟨lw_p55, List.forall_mem_cons.mpr ⟨lw_p56, List.forall_mem_cons.mpr ⟨lw_p57, List.forall_mem_cons.mpr ⟨lw_p58, List.forall_mem_cons.mpr ⟨lw_p59, List.forall_mem_cons.mpr ⟨lw_p60, List.forall_mem_cons.mpr ⟨lw_p61, List.forall_mem_cons.mpr ⟨lw_p62, List.forall_mem_cons.mpr ⟨lw_p63, fun _ h => absurd h List.not_mem_nil⟩⟩⟩⟩⟩⟩⟩⟩⟩⟩⟩⟩⟩⟩⟩⟩
def lw_privs : List (MethodName × Nat) := lw_privs_1 ++ (lw_privs_2 ++ (lw_privs_3 ++ (lw_privs_4)))
def lw_tbl : List Cond := k2_sels lw_privs ++ tables_1
theorem lw_privs_ok : ∀ q ∈ lw_privs, lw_okq q := by
  show ∀ q ∈ lw_privs_1 ++ (lw_privs_2 ++ (lw_privs_3 ++ (lw_privs_4))), lw_okq q
  exact List.forall_mem_append.mpr ⟨lw_r1, List.forall_mem_append.mpr ⟨lw_r2, List.forall_mem_append.mpr ⟨lw_r3, lw_r4⟩⟩⟩
end
section
/-! names of the classes, their fields, the methods: out of the printed names -/
def RX0 : String := "LoanedRound$Law"
def TX0 : u_T := fun k => match k with
  | 0 => ("LoanedRound$Law", "steps", "LLoanedRound$Row;", true)
  | 1 => ("LoanedRound$Law", "hold", "[I", true)
  | _ => ("LoanedRound$Law", "use", "I", true)
def tyX0 : Nat → FieldType := fun k => match k with
  | 0 => .object "LoanedRound$Row"
  | 1 => .array .int
  | _ => .int
theorem nmX0 : ∀ a, a < 3 → ∀ b, b < 3 → a ≠ b → (TX0 a).2.1 ≠ (TX0 b).2.1 := by decide +kernel
theorem tyX0_ok : ∀ k, k < 3 → parseFieldDescriptor (TX0 k).2.2.1 = some (tyX0 k) := by decide +kernel
abbrev cX0_init : ByteArray := prog_2_method_1_code
def yX0_init : MethodName := ⟨RX0, "<init>", "(I)V"⟩
abbrev cX0_takeSteps : ByteArray := prog_2_method_2_code
def yX0_takeSteps : MethodName := ⟨RX0, "takeSteps", "(LLoanedRound$Row;)V"⟩
abbrev cX0_gives : ByteArray := prog_2_method_3_code
def yX0_gives : MethodName := ⟨RX0, "gives", "(III)I"⟩
abbrev cX0_worth : ByteArray := prog_2_method_4_code
def yX0_worth : MethodName := ⟨RX0, "worth", "(IIII)I"⟩
abbrev cX0_combine : ByteArray := prog_2_method_5_code
def yX0_combine : MethodName := ⟨RX0, "combine", "(III)I"⟩
def RX1 : String := "LoanedRound$Reader"
def TX1 : u_T := fun k => match k with
  | 0 => ("LoanedRound$Reader", "steps", "LLoanedRound$Row;", true)
  | 1 => ("LoanedRound$Reader", "tape", "LLoanedRound$Row;", false)
  | 2 => ("LoanedRound$Reader", "names", "Ljava/lang/String;", false)
  | 3 => ("LoanedRound$Reader", "place", "I", false)
  | _ => ("LoanedRound$Reader", "fault", "I", false)
def tyX1 : Nat → FieldType := fun k => match k with
  | 0 => .object "LoanedRound$Row"
  | 1 => .object "LoanedRound$Row"
  | 2 => .object "java/lang/String"
  | 3 => .int
  | _ => .int
theorem nmX1 : ∀ a, a < 5 → ∀ b, b < 5 → a ≠ b → (TX1 a).2.1 ≠ (TX1 b).2.1 := by decide +kernel
theorem tyX1_ok : ∀ k, k < 5 → parseFieldDescriptor (TX1 k).2.2.1 = some (tyX1 k) := by decide +kernel
abbrev cX1_init : ByteArray := prog_3_method_1_code
def yX1_init : MethodName := ⟨RX1, "<init>", "()V"⟩
abbrev cX1_read : ByteArray := prog_3_method_2_code
def yX1_read : MethodName := ⟨RX1, "read", "(LLoanedRound$Row;I)I"⟩
abbrev cX1_next : ByteArray := prog_3_method_3_code
def yX1_next : MethodName := ⟨RX1, "next", "()I"⟩
abbrev cX1_fail : ByteArray := prog_3_method_4_code
def yX1_fail : MethodName := ⟨RX1, "fail", "()V"⟩
abbrev cX1_isNext : ByteArray := prog_3_method_5_code
def yX1_isNext : MethodName := ⟨RX1, "isNext", "(C)Z"⟩
abbrev cX1_readT : ByteArray := prog_3_method_6_code
def yX1_readT : MethodName := ⟨RX1, "readT", "(I)V"⟩
abbrev cX1_readA : ByteArray := prog_3_method_7_code
def yX1_readA : MethodName := ⟨RX1, "readA", "(I)V"⟩
abbrev cX1_readB : ByteArray := prog_3_method_8_code
def yX1_readB : MethodName := ⟨RX1, "readB", "(I)V"⟩
abbrev cX1_readS : ByteArray := prog_3_method_9_code
def yX1_readS : MethodName := ⟨RX1, "readS", "(I)V"⟩
abbrev cX1_readP : ByteArray := prog_3_method_10_code
def yX1_readP : MethodName := ⟨RX1, "readP", "(I)V"⟩
abbrev cX1_readQ : ByteArray := prog_3_method_11_code
def yX1_readQ : MethodName := ⟨RX1, "readQ", "(I)V"⟩
abbrev cX1_readClosing : ByteArray := prog_3_method_12_code
def yX1_readClosing : MethodName := ⟨RX1, "readClosing", "()V"⟩
abbrev cX1_readNumber : ByteArray := prog_3_method_13_code
def yX1_readNumber : MethodName := ⟨RX1, "readNumber", "()V"⟩
abbrev cX1_isDigit : ByteArray := prog_3_method_14_code
def yX1_isDigit : MethodName := ⟨RX1, "isDigit", "()Z"⟩
abbrev cX1_nameNext : ByteArray := prog_3_method_15_code
def yX1_nameNext : MethodName := ⟨RX1, "nameNext", "()I"⟩
def RX2 : String := "LoanedRound$Round"
def TX2 : u_T := fun k => match k with
  | 0 => ("LoanedRound$Round", "said", "LLoanedRound$Law;", true)
  | 1 => ("LoanedRound$Round", "behind", "LLoanedRound$Law;", true)
  | 2 => ("LoanedRound$Round", "kinds", "[I", true)
  | 3 => ("LoanedRound$Round", "ms", "[I", true)
  | 4 => ("LoanedRound$Round", "heard", "[I", true)
  | 5 => ("LoanedRound$Round", "turns", "[I", true)
  | 6 => ("LoanedRound$Round", "past", "I", false)
  | 7 => ("LoanedRound$Round", "homes", "I", false)
  | 8 => ("LoanedRound$Round", "day", "I", false)
  | 9 => ("LoanedRound$Round", "view", "I", false)
  | 10 => ("LoanedRound$Round", "sharp", "I", false)
  | 11 => ("LoanedRound$Round", "steel", "I", false)
  | 12 => ("LoanedRound$Round", "at", "I", false)
  | _ => ("LoanedRound$Round", "z", "I", false)
def tyX2 : Nat → FieldType := fun k => match k with
  | 0 => .object "LoanedRound$Law"
  | 1 => .object "LoanedRound$Law"
  | 2 => .array .int
  | 3 => .array .int
  | 4 => .array .int
  | 5 => .array .int
  | 6 => .int
  | 7 => .int
  | 8 => .int
  | 9 => .int
  | 10 => .int
  | 11 => .int
  | 12 => .int
  | _ => .int
theorem nmX2 : ∀ a, a < 14 → ∀ b, b < 14 → a ≠ b → (TX2 a).2.1 ≠ (TX2 b).2.1 := by decide +kernel
theorem tyX2_ok : ∀ k, k < 14 → parseFieldDescriptor (TX2 k).2.2.1 = some (tyX2 k) := by decide +kernel
abbrev cX2_init : ByteArray := prog_4_method_1_code
def yX2_init : MethodName := ⟨RX2, "<init>", "(LLoanedRound$Law;LLoanedRound$Law;)V"⟩
abbrev cX2_takeOver : ByteArray := prog_4_method_2_code
def yX2_takeOver : MethodName := ⟨RX2, "takeOver", "(LLoanedRound$Round;)V"⟩
abbrev cX2_has : ByteArray := prog_4_method_3_code
def yX2_has : MethodName := ⟨RX2, "has", "(I)Z"⟩
abbrev cX2_takeIn : ByteArray := prog_4_method_4_code
def yX2_takeIn : MethodName := ⟨RX2, "takeIn", "(I)I"⟩
abbrev cX2_pastAt : ByteArray := prog_4_method_5_code
def yX2_pastAt : MethodName := ⟨RX2, "pastAt", "(I)I"⟩
abbrev cX2_putPast : ByteArray := prog_4_method_6_code
def yX2_putPast : MethodName := ⟨RX2, "putPast", "(II)V"⟩
abbrev cX2_saidAt : ByteArray := prog_4_method_7_code
def yX2_saidAt : MethodName := ⟨RX2, "saidAt", "(I)I"⟩
abbrev cX2_behindAt : ByteArray := prog_4_method_8_code
def yX2_behindAt : MethodName := ⟨RX2, "behindAt", "(I)I"⟩
abbrev cX2_tellsAt : ByteArray := prog_4_method_9_code
def yX2_tellsAt : MethodName := ⟨RX2, "tellsAt", "(I)I"⟩
abbrev cX2_leavesAt : ByteArray := prog_4_method_10_code
def yX2_leavesAt : MethodName := ⟨RX2, "leavesAt", "(I)I"⟩
abbrev cX2_bluntsAt : ByteArray := prog_4_method_11_code
def yX2_bluntsAt : MethodName := ⟨RX2, "bluntsAt", "(I)I"⟩
abbrev cX2_passDays : ByteArray := prog_4_method_12_code
def yX2_passDays : MethodName := ⟨RX2, "passDays", "(I)V"⟩
abbrev cX2_passDaysFor : ByteArray := prog_4_method_13_code
def yX2_passDaysFor : MethodName := ⟨RX2, "passDaysFor", "(II)V"⟩
abbrev cX2_hear : ByteArray := prog_4_method_14_code
def yX2_hear : MethodName := ⟨RX2, "hear", "()V"⟩
abbrev cX2_carryOn : ByteArray := prog_4_method_15_code
def yX2_carryOn : MethodName := ⟨RX2, "carryOn", "()V"⟩
abbrev cX2_nextPlace : ByteArray := prog_4_method_16_code
def yX2_nextPlace : MethodName := ⟨RX2, "nextPlace", "()I"⟩
abbrev cX2_drawPlace : ByteArray := prog_4_method_17_code
def yX2_drawPlace : MethodName := ⟨RX2, "drawPlace", "()V"⟩
abbrev cX2_heardTogether : ByteArray := prog_4_method_18_code
def yX2_heardTogether : MethodName := ⟨RX2, "heardTogether", "()I"⟩
abbrev cX2_takeHeard : ByteArray := prog_4_method_19_code
def yX2_takeHeard : MethodName := ⟨RX2, "takeHeard", "(LLoanedRound$Row;)I"⟩
abbrev cX2_rightTurns : ByteArray := prog_4_method_20_code
def yX2_rightTurns : MethodName := ⟨RX2, "rightTurns", "(LLoanedRound$Row;)I"⟩
abbrev cX2_rightSaid : ByteArray := prog_4_method_21_code
def yX2_rightSaid : MethodName := ⟨RX2, "rightSaid", "(LLoanedRound$Row;)I"⟩
abbrev cX2_changePlaces : ByteArray := prog_4_method_22_code
def yX2_changePlaces : MethodName := ⟨RX2, "changePlaces", "(II)V"⟩
abbrev cX2_changeNumbers : ByteArray := prog_4_method_23_code
def yX2_changeNumbers : MethodName := ⟨RX2, "changeNumbers", "([III)V"⟩
def RX3 : String := "LoanedRound$Row"
def TX3 : u_T := fun k => match k with
  | 0 => ("LoanedRound$Row", "numbers", "[I", true)
  | _ => ("LoanedRound$Row", "size", "I", false)
def tyX3 : Nat → FieldType := fun k => match k with
  | 0 => .array .int
  | _ => .int
theorem nmX3 : ∀ a, a < 2 → ∀ b, b < 2 → a ≠ b → (TX3 a).2.1 ≠ (TX3 b).2.1 := by decide +kernel
theorem tyX3_ok : ∀ k, k < 2 → parseFieldDescriptor (TX3 k).2.2.1 = some (tyX3 k) := by decide +kernel
abbrev cX3_init : ByteArray := prog_5_method_1_code
def yX3_init : MethodName := ⟨RX3, "<init>", "(I)V"⟩
abbrev cX3_has : ByteArray := prog_5_method_2_code
def yX3_has : MethodName := ⟨RX3, "has", "(I)Z"⟩
abbrev cX3_hasRun : ByteArray := prog_5_method_3_code
def yX3_hasRun : MethodName := ⟨RX3, "hasRun", "(II)Z"⟩
abbrev cX3_add : ByteArray := prog_5_method_4_code
def yX3_add : MethodName := ⟨RX3, "add", "(I)V"⟩
abbrev cX3_empty : ByteArray := prog_5_method_5_code
def yX3_empty : MethodName := ⟨RX3, "empty", "()V"⟩
abbrev cX3_takeOver : ByteArray := prog_5_method_6_code
def yX3_takeOver : MethodName := ⟨RX3, "takeOver", "(LLoanedRound$Row;)V"⟩
def RX4 : String := "LoanedRound$Sheet"
def TX4 : u_T := fun k => match k with
  | 0 => ("LoanedRound$Sheet", "numbers", "LLoanedRound$Row;", true)
  | _ => ("LoanedRound$Sheet", "bits", "I", false)
def tyX4 : Nat → FieldType := fun k => match k with
  | 0 => .object "LoanedRound$Row"
  | _ => .int
theorem nmX4 : ∀ a, a < 2 → ∀ b, b < 2 → a ≠ b → (TX4 a).2.1 ≠ (TX4 b).2.1 := by decide +kernel
theorem tyX4_ok : ∀ k, k < 2 → parseFieldDescriptor (TX4 k).2.2.1 = some (tyX4 k) := by decide +kernel
abbrev cX4_init : ByteArray := prog_6_method_1_code
def yX4_init : MethodName := ⟨RX4, "<init>", "()V"⟩
abbrev cX4_isWidth : ByteArray := prog_6_method_2_code
def yX4_isWidth : MethodName := ⟨RX4, "isWidth", "(I)Z"⟩
abbrev cX4_isMissing : ByteArray := prog_6_method_3_code
def yX4_isMissing : MethodName := ⟨RX4, "isMissing", "()Z"⟩
abbrev cX4_layOut : ByteArray := prog_6_method_4_code
def yX4_layOut : MethodName := ⟨RX4, "layOut", "(II)V"⟩
abbrev cX4_lowestBits : ByteArray := prog_6_method_5_code
def yX4_lowestBits : MethodName := ⟨RX4, "lowestBits", "(I)I"⟩
def RX5 : String := "LoanedRound$State"
def TX5 : u_T := fun k => match k with
  | 0 => ("LoanedRound$State", "said", "LLoanedRound$Law;", true)
  | 1 => ("LoanedRound$State", "behind", "LLoanedRound$Law;", true)
  | 2 => ("LoanedRound$State", "round", "LLoanedRound$Round;", true)
  | 3 => ("LoanedRound$State", "tape", "LLoanedRound$Row;", true)
  | _ => ("LoanedRound$State", "waiting", "LLoanedRound$Row;", true)
def tyX5 : Nat → FieldType := fun k => match k with
  | 0 => .object "LoanedRound$Law"
  | 1 => .object "LoanedRound$Law"
  | 2 => .object "LoanedRound$Round"
  | 3 => .object "LoanedRound$Row"
  | _ => .object "LoanedRound$Row"
theorem nmX5 : ∀ a, a < 5 → ∀ b, b < 5 → a ≠ b → (TX5 a).2.1 ≠ (TX5 b).2.1 := by decide +kernel
theorem tyX5_ok : ∀ k, k < 5 → parseFieldDescriptor (TX5 k).2.2.1 = some (tyX5 k) := by decide +kernel
abbrev cX5_init : ByteArray := prog_7_method_1_code
def yX5_init : MethodName := ⟨RX5, "<init>", "()V"⟩
abbrev cX5_lawOf : ByteArray := prog_7_method_2_code
def yX5_lawOf : MethodName := ⟨RX5, "lawOf", "(I)LLoanedRound$Law;"⟩
abbrev cX5_takeOver : ByteArray := prog_7_method_3_code
def yX5_takeOver : MethodName := ⟨RX5, "takeOver", "(LLoanedRound$State;)V"⟩
def RX6 : String := "LoanedRound$Thought"
def TX6 : u_T := fun k => match k with
  | 0 => ("LoanedRound$Thought", "truth", "LLoanedRound$Round;", true)
  | 1 => ("LoanedRound$Thought", "trial", "LLoanedRound$Round;", true)
  | 2 => ("LoanedRound$Thought", "which", "I", false)
  | _ => ("LoanedRound$Thought", "much", "I", false)
def tyX6 : Nat → FieldType := fun k => match k with
  | 0 => .object "LoanedRound$Round"
  | 1 => .object "LoanedRound$Round"
  | 2 => .int
  | _ => .int
theorem nmX6 : ∀ a, a < 4 → ∀ b, b < 4 → a ≠ b → (TX6 a).2.1 ≠ (TX6 b).2.1 := by decide +kernel
theorem tyX6_ok : ∀ k, k < 4 → parseFieldDescriptor (TX6 k).2.2.1 = some (tyX6 k) := by decide +kernel
abbrev cX6_init : ByteArray := prog_8_method_1_code
def yX6_init : MethodName := ⟨RX6, "<init>", "(LLoanedRound$Round;)V"⟩
abbrev cX6_daysOn : ByteArray := prog_8_method_2_code
def yX6_daysOn : MethodName := ⟨RX6, "daysOn", "(I)LLoanedRound$Round;"⟩
abbrev cX6_daysUntil : ByteArray := prog_8_method_3_code
def yX6_daysUntil : MethodName := ⟨RX6, "daysUntil", "(II)I"⟩
abbrev cX6_seekStart : ByteArray := prog_8_method_4_code
def yX6_seekStart : MethodName := ⟨RX6, "seekStart", "(II)V"⟩
abbrev cX6_seekSwap : ByteArray := prog_8_method_5_code
def yX6_seekSwap : MethodName := ⟨RX6, "seekSwap", "(I)V"⟩
abbrev cX6_fewestPast : ByteArray := prog_8_method_6_code
def yX6_fewestPast : MethodName := ⟨RX6, "fewestPast", "(II)I"⟩
abbrev cX6_viewWithout : ByteArray := prog_8_method_7_code
def yX6_viewWithout : MethodName := ⟨RX6, "viewWithout", "(II)I"⟩
abbrev cX6_likelyViews : ByteArray := prog_8_method_8_code
def yX6_likelyViews : MethodName := ⟨RX6, "likelyViews", "(III)I"⟩
abbrev cX6_placesThatFit : ByteArray := prog_8_method_9_code
def yX6_placesThatFit : MethodName := ⟨RX6, "placesThatFit", "(LLoanedRound$Row;)I"⟩
abbrev cX6_isFitting : ByteArray := prog_8_method_10_code
def yX6_isFitting : MethodName := ⟨RX6, "isFitting", "(ILLoanedRound$Row;)Z"⟩
def RX7 : String := "LoanedRound$Voices"
def TX7 : u_T := fun k => match k with
  | 0 => ("LoanedRound$Voices", "trace", "LLoanedRound$Row;", true)
  | 1 => ("LoanedRound$Voices", "parted", "Z", false)
  | 2 => ("LoanedRound$Voices", "kind", "I", false)
  | 3 => ("LoanedRound$Voices", "k", "I", false)
  | _ => ("LoanedRound$Voices", "m", "I", false)
def tyX7 : Nat → FieldType := fun k => match k with
  | 0 => .object "LoanedRound$Row"
  | 1 => .boolean
  | 2 => .int
  | 3 => .int
  | _ => .int
theorem nmX7 : ∀ a, a < 5 → ∀ b, b < 5 → a ≠ b → (TX7 a).2.1 ≠ (TX7 b).2.1 := by decide +kernel
theorem tyX7_ok : ∀ k, k < 5 → parseFieldDescriptor (TX7 k).2.2.1 = some (tyX7 k) := by decide +kernel
abbrev cX7_init : ByteArray := prog_9_method_1_code
def yX7_init : MethodName := ⟨RX7, "<init>", "()V"⟩
abbrev cX7_answer : ByteArray := prog_9_method_2_code
def yX7_answer : MethodName := ⟨RX7, "answer", "(LLoanedRound$Round;III)I"⟩
abbrev cX7_speak : ByteArray := prog_9_method_3_code
def yX7_speak : MethodName := ⟨RX7, "speak", "(IIII)I"⟩
abbrev cX7_ownerOf : ByteArray := prog_9_method_4_code
def yX7_ownerOf : MethodName := ⟨RX7, "ownerOf", "(II)I"⟩
abbrev cX7_part : ByteArray := prog_9_method_5_code
def yX7_part : MethodName := ⟨RX7, "part", "(I)I"⟩
def RX8 : String := "LoanedRound"
def TX8 : u_T := fun k => match k with
  | 0 => ("LoanedRound", "now", "LLoanedRound$State;", true)
  | 1 => ("LoanedRound", "kept", "LLoanedRound$State;", true)
  | 2 => ("LoanedRound", "reader", "LLoanedRound$Reader;", true)
  | 3 => ("LoanedRound", "thought", "LLoanedRound$Thought;", true)
  | 4 => ("LoanedRound", "voices", "LLoanedRound$Voices;", true)
  | 5 => ("LoanedRound", "sheets", "[LLoanedRound$Sheet;", true)
  | 6 => ("LoanedRound", "errors", "[I", true)
  | _ => ("LoanedRound", "images", "I", false)
def tyX8 : Nat → FieldType := fun k => match k with
  | 0 => .object "LoanedRound$State"
  | 1 => .object "LoanedRound$State"
  | 2 => .object "LoanedRound$Reader"
  | 3 => .object "LoanedRound$Thought"
  | 4 => .object "LoanedRound$Voices"
  | 5 => .array (.object "LoanedRound$Sheet")
  | 6 => .array .int
  | _ => .int
theorem nmX8 : ∀ a, a < 8 → ∀ b, b < 8 → a ≠ b → (TX8 a).2.1 ≠ (TX8 b).2.1 := by decide +kernel
theorem tyX8_ok : ∀ k, k < 8 → parseFieldDescriptor (TX8 k).2.2.1 = some (tyX8 k) := by decide +kernel
abbrev cX8_init : ByteArray := prog_1_method_1_code
def yX8_init : MethodName := ⟨RX8, "<init>", "()V"⟩
abbrev cX8_home : ByteArray := prog_1_method_2_code
def yX8_home : MethodName := ⟨RX8, "home", "(I)I"⟩
abbrev cX8_homeIs : ByteArray := prog_1_method_3_code
def yX8_homeIs : MethodName := ⟨RX8, "homeIs", "(II)I"⟩
abbrev cX8_become : ByteArray := prog_1_method_4_code
def yX8_become : MethodName := ⟨RX8, "become", "(II)I"⟩
abbrev cX8_as : ByteArray := prog_1_method_5_code
def yX8_as : MethodName := ⟨RX8, "as", "(II)I"⟩
abbrev cX8_past : ByteArray := prog_1_method_6_code
def yX8_past : MethodName := ⟨RX8, "past", "(II)I"⟩
abbrev cX8_goes : ByteArray := prog_1_method_7_code
def yX8_goes : MethodName := ⟨RX8, "goes", "(I)I"⟩
abbrev cX8_set : ByteArray := prog_1_method_8_code
def yX8_set : MethodName := ⟨RX8, "set", "(II)I"⟩
abbrev cX8_hears : ByteArray := prog_1_method_9_code
def yX8_hears : MethodName := ⟨RX8, "hears", "(II)I"⟩
abbrev cX8_feed : ByteArray := prog_1_method_10_code
def yX8_feed : MethodName := ⟨RX8, "feed", "(JI)I"⟩
abbrev cX8_text : ByteArray := prog_1_method_11_code
def yX8_text : MethodName := ⟨RX8, "text", "(I)I"⟩
abbrev cX8_untell : ByteArray := prog_1_method_12_code
def yX8_untell : MethodName := ⟨RX8, "untell", "(I)I"⟩
abbrev cX8_law : ByteArray := prog_1_method_13_code
def yX8_law : MethodName := ⟨RX8, "law", "(IIII)I"⟩
abbrev cX8_days : ByteArray := prog_1_method_14_code
def yX8_days : MethodName := ⟨RX8, "days", "(I)I"⟩
abbrev cX8_loose : ByteArray := prog_1_method_15_code
def yX8_loose : MethodName := ⟨RX8, "loose", "(I)I"⟩
abbrev cX8_day : ByteArray := prog_1_method_16_code
def yX8_day : MethodName := ⟨RX8, "day", "(I)I"⟩
abbrev cX8_seed : ByteArray := prog_1_method_17_code
def yX8_seed : MethodName := ⟨RX8, "seed", "(I)I"⟩
abbrev cX8_then : ByteArray := prog_1_method_18_code
def yX8_then : MethodName := ⟨RX8, "then", "(II)I"⟩
abbrev cX8_soonest : ByteArray := prog_1_method_19_code
def yX8_soonest : MethodName := ⟨RX8, "soonest", "(II)I"⟩
abbrev cX8_startFor : ByteArray := prog_1_method_20_code
def yX8_startFor : MethodName := ⟨RX8, "startFor", "(III)I"⟩
abbrev cX8_swapFor : ByteArray := prog_1_method_21_code
def yX8_swapFor : MethodName := ⟨RX8, "swapFor", "(II)I"⟩
abbrev cX8_spare : ByteArray := prog_1_method_22_code
def yX8_spare : MethodName := ⟨RX8, "spare", "(II)I"⟩
abbrev cX8_odds : ByteArray := prog_1_method_23_code
def yX8_odds : MethodName := ⟨RX8, "odds", "(IIII)I"⟩
abbrev cX8_fits : ByteArray := prog_1_method_24_code
def yX8_fits : MethodName := ⟨RX8, "fits", "(II)I"⟩
abbrev cX8_voice : ByteArray := prog_1_method_25_code
def yX8_voice : MethodName := ⟨RX8, "voice", "(III)I"⟩
abbrev cX8_body : ByteArray := prog_1_method_26_code
def yX8_body : MethodName := ⟨RX8, "body", "(I)I"⟩
abbrev cX8_sheet : ByteArray := prog_1_method_27_code
def yX8_sheet : MethodName := ⟨RX8, "sheet", "(III)I"⟩
abbrev cX8_put : ByteArray := prog_1_method_28_code
def yX8_put : MethodName := ⟨RX8, "put", "(III)I"⟩
abbrev cX8_move : ByteArray := prog_1_method_29_code
def yX8_move : MethodName := ⟨RX8, "move", "(IIIII)I"⟩
abbrev cX8_hearAll : ByteArray := prog_1_method_30_code
def yX8_hearAll : MethodName := ⟨RX8, "hearAll", "(I)I"⟩
abbrev cX8_judge : ByteArray := prog_1_method_31_code
def yX8_judge : MethodName := ⟨RX8, "judge", "(I)I"⟩
abbrev cX8_image : ByteArray := prog_1_method_32_code
def yX8_image : MethodName := ⟨RX8, "image", "()I"⟩
abbrev cX8_restore : ByteArray := prog_1_method_33_code
def yX8_restore : MethodName := ⟨RX8, "restore", "()I"⟩
abbrev cX8_tell : ByteArray := prog_1_method_34_code
def yX8_tell : MethodName := ⟨RX8, "tell", "(I)I"⟩
abbrev cX8_check : ByteArray := prog_1_method_35_code
def yX8_check : MethodName := ⟨RX8, "check", "()I"⟩
abbrev cX8_count : ByteArray := prog_1_method_36_code
def yX8_count : MethodName := ⟨RX8, "count", "(I)I"⟩
abbrev cX8_told : ByteArray := prog_1_method_37_code
def yX8_told : MethodName := ⟨RX8, "told", "(I)I"⟩
abbrev cX8_error : ByteArray := prog_1_method_38_code
def yX8_error : MethodName := ⟨RX8, "error", "(I)I"⟩
abbrev cX8_becomeView : ByteArray := prog_1_method_39_code
def yX8_becomeView : MethodName := ⟨RX8, "becomeView", "(I)I"⟩
abbrev cX8_becomeSharp : ByteArray := prog_1_method_40_code
def yX8_becomeSharp : MethodName := ⟨RX8, "becomeSharp", "(I)I"⟩
abbrev cX8_becomeSteel : ByteArray := prog_1_method_41_code
def yX8_becomeSteel : MethodName := ⟨RX8, "becomeSteel", "(I)I"⟩
abbrev cX8_isWithin : ByteArray := prog_1_method_42_code
def yX8_isWithin : MethodName := ⟨RX8, "isWithin", "(III)Z"⟩
abbrev cX8_isUse : ByteArray := prog_1_method_43_code
def yX8_isUse : MethodName := ⟨RX8, "isUse", "(I)Z"⟩
abbrev cX8_isSheet : ByteArray := prog_1_method_44_code
def yX8_isSheet : MethodName := ⟨RX8, "isSheet", "(I)Z"⟩
abbrev cX8_isOfKind : ByteArray := prog_1_method_45_code
def yX8_isOfKind : MethodName := ⟨RX8, "isOfKind", "(II)Z"⟩
abbrev cX8_greatestShared : ByteArray := prog_1_method_46_code
def yX8_greatestShared : MethodName := ⟨RX8, "greatestShared", "(II)I"⟩
def RX9 : String := "LoanedRoundModel"
def TX9 : u_T := fun k => match k with
  | 0 => ("LoanedRoundModel", "s", "[I", true)
  | 1 => ("LoanedRoundModel", "kept", "[I", true)
  | 2 => ("LoanedRoundModel", "beside", "[I", true)
  | 3 => ("LoanedRoundModel", "images", "I", false)
  | 4 => ("LoanedRoundModel", "errors", "[I", true)
  | 5 => ("LoanedRoundModel", "at", "I", false)
  | 6 => ("LoanedRoundModel", "open", "I", false)
  | 7 => ("LoanedRoundModel", "steps", "I", false)
  | 8 => ("LoanedRoundModel", "use", "I", false)
  | 9 => ("LoanedRoundModel", "step", "[I", true)
  | 10 => ("LoanedRoundModel", "named", "[I", true)
  | 11 => ("LoanedRoundModel", "pile", "[I", true)
  | 12 => ("LoanedRoundModel", "traced", "I", false)
  | 13 => ("LoanedRoundModel", "trace", "[I", true)
  | 14 => ("LoanedRoundModel", "speaks", "I", false)
  | 15 => ("LoanedRoundModel", "isParted", "Z", false)
  | 16 => ("LoanedRoundModel", "bits", "[I", true)
  | 17 => ("LoanedRoundModel", "sizes", "[I", true)
  | 18 => ("LoanedRoundModel", "number", "[I", true)
  | _ => ("LoanedRoundModel", "aside", "[I", true)
def tyX9 : Nat → FieldType := fun k => match k with
  | 0 => .array .int
  | 1 => .array .int
  | 2 => .array .int
  | 3 => .int
  | 4 => .array .int
  | 5 => .int
  | 6 => .int
  | 7 => .int
  | 8 => .int
  | 9 => .array .int
  | 10 => .array .int
  | 11 => .array .int
  | 12 => .int
  | 13 => .array .int
  | 14 => .int
  | 15 => .boolean
  | 16 => .array .int
  | 17 => .array .int
  | 18 => .array .int
  | _ => .array .int
theorem nmX9 : ∀ a, a < 20 → ∀ b, b < 20 → a ≠ b → (TX9 a).2.1 ≠ (TX9 b).2.1 := by decide +kernel
theorem tyX9_ok : ∀ k, k < 20 → parseFieldDescriptor (TX9 k).2.2.1 = some (tyX9 k) := by decide +kernel
abbrev cX9_init : ByteArray := prog_11_method_1_code
def yX9_init : MethodName := ⟨RX9, "<init>", "()V"⟩
abbrev cX9_error : ByteArray := prog_11_method_2_code
def yX9_error : MethodName := ⟨RX9, "error", "(I)I"⟩
abbrev cX9_in : ByteArray := prog_11_method_3_code
def yX9_in : MethodName := ⟨RX9, "in", "(III)Z"⟩
abbrev cX9_held : ByteArray := prog_11_method_4_code
def yX9_held : MethodName := ⟨RX9, "held", "(III)I"⟩
abbrev cX9_copyAll : ByteArray := prog_11_method_5_code
def yX9_copyAll : MethodName := ⟨RX9, "copyAll", "([I[I)V"⟩
abbrev cX9_saves : ByteArray := prog_11_method_6_code
def yX9_saves : MethodName := ⟨RX9, "saves", "()V"⟩
abbrev cX9_putsBack : ByteArray := prog_11_method_7_code
def yX9_putsBack : MethodName := ⟨RX9, "putsBack", "()V"⟩
abbrev cX9_isHome : ByteArray := prog_11_method_8_code
def yX9_isHome : MethodName := ⟨RX9, "isHome", "(I)Z"⟩
abbrev cX9_its : ByteArray := prog_11_method_9_code
def yX9_its : MethodName := ⟨RX9, "its", "(II)I"⟩
abbrev cX9_lays1 : ByteArray := prog_11_method_10_code
def yX9_lays1 : MethodName := ⟨RX9, "lays1", "(III)V"⟩
abbrev cX9_change1 : ByteArray := prog_11_method_11_code
def yX9_change1 : MethodName := ⟨RX9, "change1", "(II)I"⟩
abbrev cX9_feed : ByteArray := prog_11_method_12_code
def yX9_feed : MethodName := ⟨RX9, "feed", "(JI)I"⟩
abbrev cX9_look : ByteArray := prog_11_method_13_code
def yX9_look : MethodName := ⟨RX9, "look", "()I"⟩
abbrev cX9_isName : ByteArray := prog_11_method_14_code
def yX9_isName : MethodName := ⟨RX9, "isName", "(I)Z"⟩
abbrev cX9_step1 : ByteArray := prog_11_method_15_code
def yX9_step1 : MethodName := ⟨RX9, "step1", "(II)V"⟩
abbrev cX9_whole : ByteArray := prog_11_method_16_code
def yX9_whole : MethodName := ⟨RX9, "whole", "()Z"⟩
abbrev cX9_both : ByteArray := prog_11_method_17_code
def yX9_both : MethodName := ⟨RX9, "both", "()Z"⟩
abbrev cX9_compared : ByteArray := prog_11_method_18_code
def yX9_compared : MethodName := ⟨RX9, "compared", "()Z"⟩
abbrev cX9_sum : ByteArray := prog_11_method_19_code
def yX9_sum : MethodName := ⟨RX9, "sum", "()Z"⟩
abbrev cX9_product : ByteArray := prog_11_method_20_code
def yX9_product : MethodName := ⟨RX9, "product", "()Z"⟩
abbrev cX9_opens : ByteArray := prog_11_method_21_code
def yX9_opens : MethodName := ⟨RX9, "opens", "()Z"⟩
abbrev cX9_one : ByteArray := prog_11_method_22_code
def yX9_one : MethodName := ⟨RX9, "one", "()Z"⟩
abbrev cX9_hasText : ByteArray := prog_11_method_23_code
def yX9_hasText : MethodName := ⟨RX9, "hasText", "(I)Z"⟩
abbrev cX9_text : ByteArray := prog_11_method_24_code
def yX9_text : MethodName := ⟨RX9, "text", "(I)I"⟩
abbrev cX9_untell : ByteArray := prog_11_method_25_code
def yX9_untell : MethodName := ⟨RX9, "untell", "(I)I"⟩
abbrev cX9_joined : ByteArray := prog_11_method_26_code
def yX9_joined : MethodName := ⟨RX9, "joined", "(III)I"⟩
abbrev cX9_worked : ByteArray := prog_11_method_27_code
def yX9_worked : MethodName := ⟨RX9, "worked", "(I)I"⟩
abbrev cX9_tellsOf : ByteArray := prog_11_method_28_code
def yX9_tellsOf : MethodName := ⟨RX9, "tellsOf", "(I)I"⟩
abbrev cX9_leavesOf : ByteArray := prog_11_method_29_code
def yX9_leavesOf : MethodName := ⟨RX9, "leavesOf", "(I)I"⟩
abbrev cX9_bluntsOf : ByteArray := prog_11_method_30_code
def yX9_bluntsOf : MethodName := ⟨RX9, "bluntsOf", "(I)I"⟩
abbrev cX9_restOf : ByteArray := prog_11_method_31_code
def yX9_restOf : MethodName := ⟨RX9, "restOf", "(I)I"⟩
abbrev cX9_givenBy : ByteArray := prog_11_method_32_code
def yX9_givenBy : MethodName := ⟨RX9, "givenBy", "(IIII)I"⟩
abbrev cX9_saidAt : ByteArray := prog_11_method_33_code
def yX9_saidAt : MethodName := ⟨RX9, "saidAt", "(I)I"⟩
abbrev cX9_behindAt : ByteArray := prog_11_method_34_code
def yX9_behindAt : MethodName := ⟨RX9, "behindAt", "(I)I"⟩
abbrev cX9_nextOne : ByteArray := prog_11_method_35_code
def yX9_nextOne : MethodName := ⟨RX9, "nextOne", "()I"⟩
abbrev cX9_day1 : ByteArray := prog_11_method_36_code
def yX9_day1 : MethodName := ⟨RX9, "day1", "()V"⟩
abbrev cX9_goesOn : ByteArray := prog_11_method_37_code
def yX9_goesOn : MethodName := ⟨RX9, "goesOn", "(I)V"⟩
abbrev cX9_heardAll : ByteArray := prog_11_method_38_code
def yX9_heardAll : MethodName := ⟨RX9, "heardAll", "()I"⟩
abbrev cX9_isKm : ByteArray := prog_11_method_39_code
def yX9_isKm : MethodName := ⟨RX9, "isKm", "(I)Z"⟩
abbrev cX9_home : ByteArray := prog_11_method_40_code
def yX9_home : MethodName := ⟨RX9, "home", "(I)I"⟩
abbrev cX9_homeIs : ByteArray := prog_11_method_41_code
def yX9_homeIs : MethodName := ⟨RX9, "homeIs", "(II)I"⟩
abbrev cX9_become : ByteArray := prog_11_method_42_code
def yX9_become : MethodName := ⟨RX9, "become", "(II)I"⟩
abbrev cX9_as : ByteArray := prog_11_method_43_code
def yX9_as : MethodName := ⟨RX9, "as", "(II)I"⟩
abbrev cX9_past : ByteArray := prog_11_method_44_code
def yX9_past : MethodName := ⟨RX9, "past", "(II)I"⟩
abbrev cX9_goes : ByteArray := prog_11_method_45_code
def yX9_goes : MethodName := ⟨RX9, "goes", "(I)I"⟩
abbrev cX9_set : ByteArray := prog_11_method_46_code
def yX9_set : MethodName := ⟨RX9, "set", "(II)I"⟩
abbrev cX9_hears : ByteArray := prog_11_method_47_code
def yX9_hears : MethodName := ⟨RX9, "hears", "(II)I"⟩
abbrev cX9_law : ByteArray := prog_11_method_48_code
def yX9_law : MethodName := ⟨RX9, "law", "(IIII)I"⟩
abbrev cX9_days : ByteArray := prog_11_method_49_code
def yX9_days : MethodName := ⟨RX9, "days", "(I)I"⟩
abbrev cX9_loose : ByteArray := prog_11_method_50_code
def yX9_loose : MethodName := ⟨RX9, "loose", "(I)I"⟩
abbrev cX9_day : ByteArray := prog_11_method_51_code
def yX9_day : MethodName := ⟨RX9, "day", "(I)I"⟩
abbrev cX9_seed : ByteArray := prog_11_method_52_code
def yX9_seed : MethodName := ⟨RX9, "seed", "(I)I"⟩
abbrev cX9_then : ByteArray := prog_11_method_53_code
def yX9_then : MethodName := ⟨RX9, "then", "(II)I"⟩
abbrev cX9_soonest : ByteArray := prog_11_method_54_code
def yX9_soonest : MethodName := ⟨RX9, "soonest", "(II)I"⟩
abbrev cX9_isAsked : ByteArray := prog_11_method_55_code
def yX9_isAsked : MethodName := ⟨RX9, "isAsked", "(II)Z"⟩
abbrev cX9_startFor : ByteArray := prog_11_method_56_code
def yX9_startFor : MethodName := ⟨RX9, "startFor", "(III)I"⟩
abbrev cX9_changePlaces : ByteArray := prog_11_method_57_code
def yX9_changePlaces : MethodName := ⟨RX9, "changePlaces", "(II)V"⟩
abbrev cX9_swapFor : ByteArray := prog_11_method_58_code
def yX9_swapFor : MethodName := ⟨RX9, "swapFor", "(II)I"⟩
abbrev cX9_ones : ByteArray := prog_11_method_59_code
def yX9_ones : MethodName := ⟨RX9, "ones", "(I)I"⟩
abbrev cX9_viewWith : ByteArray := prog_11_method_60_code
def yX9_viewWith : MethodName := ⟨RX9, "viewWith", "(II)I"⟩
abbrev cX9_spare : ByteArray := prog_11_method_61_code
def yX9_spare : MethodName := ⟨RX9, "spare", "(II)I"⟩
abbrev cX9_common : ByteArray := prog_11_method_62_code
def yX9_common : MethodName := ⟨RX9, "common", "(II)I"⟩
abbrev cX9_odds : ByteArray := prog_11_method_63_code
def yX9_odds : MethodName := ⟨RX9, "odds", "(IIII)I"⟩
abbrev cX9_fits : ByteArray := prog_11_method_64_code
def yX9_fits : MethodName := ⟨RX9, "fits", "(II)I"⟩
abbrev cX9_begins : ByteArray := prog_11_method_65_code
def yX9_begins : MethodName := ⟨RX9, "begins", "(I)V"⟩
abbrev cX9_above : ByteArray := prog_11_method_66_code
def yX9_above : MethodName := ⟨RX9, "above", "(I)I"⟩
abbrev cX9_kindNow : ByteArray := prog_11_method_67_code
def yX9_kindNow : MethodName := ⟨RX9, "kindNow", "()I"⟩
abbrev cX9_mNow : ByteArray := prog_11_method_68_code
def yX9_mNow : MethodName := ⟨RX9, "mNow", "()I"⟩
abbrev cX9_cutsAs : ByteArray := prog_11_method_69_code
def yX9_cutsAs : MethodName := ⟨RX9, "cutsAs", "(II)I"⟩
abbrev cX9_saysAs : ByteArray := prog_11_method_70_code
def yX9_saysAs : MethodName := ⟨RX9, "saysAs", "(II)I"⟩
abbrev cX9_steelsAs : ByteArray := prog_11_method_71_code
def yX9_steelsAs : MethodName := ⟨RX9, "steelsAs", "(II)I"⟩
abbrev cX9_partsAs : ByteArray := prog_11_method_72_code
def yX9_partsAs : MethodName := ⟨RX9, "partsAs", "(II)I"⟩
abbrev cX9_voice : ByteArray := prog_11_method_73_code
def yX9_voice : MethodName := ⟨RX9, "voice", "(III)I"⟩
abbrev cX9_body : ByteArray := prog_11_method_74_code
def yX9_body : MethodName := ⟨RX9, "body", "(I)I"⟩
abbrev cX9_isSheet : ByteArray := prog_11_method_75_code
def yX9_isSheet : MethodName := ⟨RX9, "isSheet", "(I)Z"⟩
abbrev cX9_sheet : ByteArray := prog_11_method_76_code
def yX9_sheet : MethodName := ⟨RX9, "sheet", "(III)I"⟩
abbrev cX9_put : ByteArray := prog_11_method_77_code
def yX9_put : MethodName := ⟨RX9, "put", "(III)I"⟩
abbrev cX9_move : ByteArray := prog_11_method_78_code
def yX9_move : MethodName := ⟨RX9, "move", "(IIIII)I"⟩
abbrev cX9_lacks : ByteArray := prog_11_method_79_code
def yX9_lacks : MethodName := ⟨RX9, "lacks", "(I)I"⟩
abbrev cX9_hearAll : ByteArray := prog_11_method_80_code
def yX9_hearAll : MethodName := ⟨RX9, "hearAll", "(I)I"⟩
abbrev cX9_judge : ByteArray := prog_11_method_81_code
def yX9_judge : MethodName := ⟨RX9, "judge", "(I)I"⟩
abbrev cX9_image : ByteArray := prog_11_method_82_code
def yX9_image : MethodName := ⟨RX9, "image", "()I"⟩
abbrev cX9_restore : ByteArray := prog_11_method_83_code
def yX9_restore : MethodName := ⟨RX9, "restore", "()I"⟩
abbrev cX9_tell : ByteArray := prog_11_method_84_code
def yX9_tell : MethodName := ⟨RX9, "tell", "(I)I"⟩
abbrev cX9_check : ByteArray := prog_11_method_85_code
def yX9_check : MethodName := ⟨RX9, "check", "()I"⟩
abbrev cX9_pastNow : ByteArray := prog_11_method_86_code
def yX9_pastNow : MethodName := ⟨RX9, "pastNow", "()I"⟩
abbrev cX9_count : ByteArray := prog_11_method_87_code
def yX9_count : MethodName := ⟨RX9, "count", "(I)I"⟩
abbrev cX9_told : ByteArray := prog_11_method_88_code
def yX9_told : MethodName := ⟨RX9, "told", "(I)I"⟩
def RJ11 : String := "java/lang/Character"
def TJ11 : u_T := fun k => match k with
  | _ => ("", "", "", false)
def tyJ11 : Nat → FieldType := fun k => match k with
  | _ => .int
theorem nmJ11 : ∀ a, a < 0 → ∀ b, b < 0 → a ≠ b → (TJ11 a).2.1 ≠ (TJ11 b).2.1 := by decide +kernel
theorem tyJ11_ok : ∀ k, k < 0 → parseFieldDescriptor (TJ11 k).2.2.1 = some (tyJ11 k) := by decide +kernel
abbrev cJ11_isValidCodePoint_9a6ad : ByteArray := prog_12_method_11_code
def yJ11_isValidCodePoint_9a6ad : MethodName := ⟨RJ11, "isValidCodePoint", "(I)Z"⟩
abbrev cJ11_highSurrogate_5068e : ByteArray := prog_12_method_28_code
def yJ11_highSurrogate_5068e : MethodName := ⟨RJ11, "highSurrogate", "(I)C"⟩
abbrev cJ11_lowSurrogate_5068e : ByteArray := prog_12_method_29_code
def yJ11_lowSurrogate_5068e : MethodName := ⟨RJ11, "lowSurrogate", "(I)C"⟩
def RJ6 : String := "java/lang/Integer"
def TJ6 : u_T := fun k => match k with
  | _ => ("", "", "", false)
def tyJ6 : Nat → FieldType := fun k => match k with
  | _ => .int
theorem nmJ6 : ∀ a, a < 0 → ∀ b, b < 0 → a ≠ b → (TJ6 a).2.1 ≠ (TJ6 b).2.1 := by decide +kernel
theorem tyJ6_ok : ∀ k, k < 0 → parseFieldDescriptor (TJ6 k).2.2.1 = some (tyJ6 k) := by decide +kernel
abbrev cJ6_bitCount_0f7a4 : ByteArray := prog_13_method_49_code
def yJ6_bitCount_0f7a4 : MethodName := ⟨RJ6, "bitCount", "(I)I"⟩
def RJ9 : String := "java/lang/Math"
def TJ9 : u_T := fun k => match k with
  | _ => ("", "", "", false)
def tyJ9 : Nat → FieldType := fun k => match k with
  | _ => .int
theorem nmJ9 : ∀ a, a < 0 → ∀ b, b < 0 → a ≠ b → (TJ9 a).2.1 ≠ (TJ9 b).2.1 := by decide +kernel
theorem tyJ9_ok : ∀ k, k < 0 → parseFieldDescriptor (TJ9 k).2.2.1 = some (tyJ9 k) := by decide +kernel
abbrev cJ9_floorMod_7cf53 : ByteArray := prog_14_method_50_code
def yJ9_floorMod_7cf53 : MethodName := ⟨RJ9, "floorMod", "(II)I"⟩
abbrev cJ9_max_7cf53 : ByteArray := prog_14_method_65_code
def yJ9_max_7cf53 : MethodName := ⟨RJ9, "max", "(II)I"⟩
abbrev cJ9_min_7cf53 : ByteArray := prog_14_method_69_code
def yJ9_min_7cf53 : MethodName := ⟨RJ9, "min", "(II)I"⟩
def RJ0 : String := "java/lang/String"
def TJ0 : u_T := fun k => match k with
  | _ => ("", "", "", false)
def tyJ0 : Nat → FieldType := fun k => match k with
  | _ => .int
theorem nmJ0 : ∀ a, a < 0 → ∀ b, b < 0 → a ≠ b → (TJ0 a).2.1 ≠ (TJ0 b).2.1 := by decide +kernel
theorem tyJ0_ok : ∀ k, k < 0 → parseFieldDescriptor (TJ0 k).2.2.1 = some (tyJ0 k) := by decide +kernel
abbrev cJ0_length_8abf5 : ByteArray := prog_15_method_54_code
def yJ0_length_8abf5 : MethodName := ⟨RJ0, "length", "()I"⟩
abbrev cJ0_indexOf_0f7a4 : ByteArray := prog_15_method_79_code
def yJ0_indexOf_0f7a4 : MethodName := ⟨RJ0, "indexOf", "(I)I"⟩
abbrev cJ0_indexOf_7cf53 : ByteArray := prog_15_method_80_code
def yJ0_indexOf_7cf53 : MethodName := ⟨RJ0, "indexOf", "(II)I"⟩
abbrev cJ0_coder_7d493 : ByteArray := prog_15_method_152_code
def yJ0_coder_7d493 : MethodName := ⟨RJ0, "coder", "()B"⟩
abbrev cJ0_isLatin1_aae02 : ByteArray := prog_15_method_154_code
def yJ0_isLatin1_aae02 : MethodName := ⟨RJ0, "isLatin1", "()Z"⟩
abbrev cJ0_checkBoundsBeginEnd_23922 : ByteArray := prog_15_method_158_code
def yJ0_checkBoundsBeginEnd_23922 : MethodName := ⟨RJ0, "checkBoundsBeginEnd", "(III)V"⟩
def RJ1 : String := "java/lang/StringLatin1"
def TJ1 : u_T := fun k => match k with
  | _ => ("", "", "", false)
def tyJ1 : Nat → FieldType := fun k => match k with
  | _ => .int
theorem nmJ1 : ∀ a, a < 0 → ∀ b, b < 0 → a ≠ b → (TJ1 a).2.1 ≠ (TJ1 b).2.1 := by decide +kernel
theorem tyJ1_ok : ∀ k, k < 0 → parseFieldDescriptor (TJ1 k).2.2.1 = some (tyJ1 k) := by decide +kernel
abbrev cJ1_canEncode_9a6ad : ByteArray := prog_16_method_4_code
def yJ1_canEncode_9a6ad : MethodName := ⟨RJ1, "canEncode", "(I)Z"⟩
abbrev cJ1_indexOf_4cfef : ByteArray := prog_16_method_22_code
def yJ1_indexOf_4cfef : MethodName := ⟨RJ1, "indexOf", "([BIII)I"⟩
abbrev cJ1_indexOfChar_4cfef : ByteArray := prog_16_method_23_code
def yJ1_indexOfChar_4cfef : MethodName := ⟨RJ1, "indexOfChar", "([BIII)I"⟩
def RJ2 : String := "java/lang/StringUTF16"
def TJ2 : u_T := fun k => match k with
  | _ => ("", "", "", false)
def tyJ2 : Nat → FieldType := fun k => match k with
  | _ => .int
theorem nmJ2 : ∀ a, a < 0 → ∀ b, b < 0 → a ≠ b → (TJ2 a).2.1 ≠ (TJ2 b).2.1 := by decide +kernel
theorem tyJ2_ok : ∀ k, k < 0 → parseFieldDescriptor (TJ2 k).2.2.1 = some (tyJ2 k) := by decide +kernel
abbrev cJ2_getChar_3b067 : ByteArray := prog_17_method_5_code
def yJ2_getChar_3b067 : MethodName := ⟨RJ2, "getChar", "([BI)C"⟩
abbrev cJ2_length_9d52b : ByteArray := prog_17_method_6_code
def yJ2_length_9d52b : MethodName := ⟨RJ2, "length", "([B)I"⟩
abbrev cJ2_indexOf_4cfef : ByteArray := prog_17_method_40_code
def yJ2_indexOf_4cfef : MethodName := ⟨RJ2, "indexOf", "([BIII)I"⟩
abbrev cJ2_indexOfChar_4cfef : ByteArray := prog_17_method_47_code
def yJ2_indexOfChar_4cfef : MethodName := ⟨RJ2, "indexOfChar", "([BIII)I"⟩
abbrev cJ2_indexOfCharUnsafe_4cfef : ByteArray := prog_17_method_48_code
def yJ2_indexOfCharUnsafe_4cfef : MethodName := ⟨RJ2, "indexOfCharUnsafe", "([BIII)I"⟩
abbrev cJ2_indexOfSupplementary_4cfef : ByteArray := prog_17_method_49_code
def yJ2_indexOfSupplementary_4cfef : MethodName := ⟨RJ2, "indexOfSupplementary", "([BIII)I"⟩
abbrev cJ2_checkBoundsBeginEnd_d044e : ByteArray := prog_17_method_93_code
def yJ2_checkBoundsBeginEnd_d044e : MethodName := ⟨RJ2, "checkBoundsBeginEnd", "(II[B)V"⟩
def RJ10 : String := "java/lang/System"
def TJ10 : u_T := fun k => match k with
  | _ => ("", "", "", false)
def tyJ10 : Nat → FieldType := fun k => match k with
  | _ => .int
theorem nmJ10 : ∀ a, a < 0 → ∀ b, b < 0 → a ≠ b → (TJ10 a).2.1 ≠ (TJ10 b).2.1 := by decide +kernel
theorem tyJ10_ok : ∀ k, k < 0 → parseFieldDescriptor (TJ10 k).2.2.1 = some (tyJ10 k) := by decide +kernel
def RJ3 : String := "jdk/internal/util/Preconditions"
def TJ3 : u_T := fun k => match k with
  | _ => ("", "", "", false)
def tyJ3 : Nat → FieldType := fun k => match k with
  | _ => .int
theorem nmJ3 : ∀ a, a < 0 → ∀ b, b < 0 → a ≠ b → (TJ3 a).2.1 ≠ (TJ3 b).2.1 := by decide +kernel
theorem tyJ3_ok : ∀ k, k < 0 → parseFieldDescriptor (TJ3 k).2.2.1 = some (tyJ3 k) := by decide +kernel
abbrev cJ3_checkFromToIndex_8c36e : ByteArray := prog_19_method_12_code
def yJ3_checkFromToIndex_8c36e : MethodName := ⟨RJ3, "checkFromToIndex", "(IIILjava/util/function/BiFunction;)I"⟩
def RL : String := "LoanedRoundLaw"
abbrev cL_law : ByteArray := code
def yL_law : MethodName := ⟨RL, "law", "([I)Z"⟩
abbrev vwCl : List vw_C := [(RX0, TX0, 3), (RX1, TX1, 5), (RX2, TX2, 14), (RX3, TX3, 2), (RX4, TX4, 2), (RX5, TX5, 5), (RX6, TX6, 4), (RX7, TX7, 5), (RX8, TX8, 8), (RX9, TX9, 20)]
/-- the words that stay true while the machine runs -/
def lw_g : List Cond := lw_tbl.filter goodWord
theorem lg_m {w : Cond} (i : Nat) (h : lw_tbl[i]? = some w) (hg : goodWord w = true) : w ∈ lw_g := List.mem_filter.mpr ⟨List.mem_of_getElem? h, hg⟩
theorem lg_good {y : MethodName} {b : ByteArray} {n : Nat} {r : Option FieldType} (h : Cond.code y b n r ∈ lw_g) : GoodIn lw_g (Cond.code y b n r :: lw_g) := by
  intro w hw
  have hm : w ∈ lw_g := by
    rcases List.mem_cons.mp hw with rfl | h1
    · exact h
    · exact h1
  exact ⟨hm, good_of_word (List.mem_filter.mp hm).2⟩
/-- a class whose objects the worlds hold -/
def CK (ci : Nat) (C : String) (T : u_T) (N : Nat) : Prop := vwCl[ci]? = some (C, T, N) ∧ (∀ w ∈ u_ws C T N, w ∈ lw_g) ∧ (∃ ty : Nat → FieldType, ∀ k, k < N → parseFieldDescriptor (T k).2.2.1 = some (ty k)) ∧ (∀ a, a < N → ∀ b, b < N → a ≠ b → (T a).2.1 ≠ (T b).2.1)
/-- field number k of class number ci, as place idx of the class own links it -/
def FK (own : String) (idx ci k : Nat) (fin : Bool) (ty : FieldType) : Prop := ∃ (C : String) (T : u_T) (N : Nat), CK ci C T N ∧ k < N ∧ Cond.fieldLink own idx C (T k).2.1 (T k).2.2.1 ∈ lw_g ∧ (T k).1 = C ∧ (T k).2.2.2 = fin ∧ parseFieldDescriptor (T k).2.2.1 = some ty
/-- a method, as place idx of the class own links it: its code, its words -/
def MK (own : String) (idx : Nat) (y : MethodName) (cc : ByteArray) (nL : Nat) (ret : Option FieldType) (np : Nat) : Prop := Cond.methodLink own idx y ∈ lw_g ∧ Cond.code y cc nL ret ∈ lw_g ∧ Cond.initialized y.cls ∈ lw_g ∧ y.cls ≠ "java/lang/invoke/MethodHandle" ∧ y.cls ≠ "java/lang/invoke/VarHandle" ∧ (parseMethodDescriptor y.desc).map (fun d => d.parameters.length) = some np
def MKV (own : String) (idx : Nat) (y : MethodName) (cc : ByteArray) (nL : Nat) (ret : Option FieldType) (np : Nat) (ci : Nat) : Prop := MK own idx y cc nL ret np ∧ Cond.instanceMethod y ∈ lw_g ∧ Cond.selects y.cls y y ∈ lw_g ∧ ∃ (T : u_T) (N : Nat), vwCl[ci]? = some (y.cls, T, N)
def MKS (own : String) (idx : Nat) (y : MethodName) (cc : ByteArray) (nL : Nat) (ret : Option FieldType) (np : Nat) : Prop := MK own idx y cc nL ret np ∧ Cond.static y ∈ lw_g
def MKI (own : String) (idx : Nat) (y : MethodName) (cc : ByteArray) (nL : Nat) (np : Nat) : Prop := MK own idx y cc nL none np ∧ Cond.instanceMethod y ∈ lw_g ∧ y.name = "<init>"

theorem layX0 : ∀ w ∈ u_ws RX0 TX0 3, w ∈ lw_g := by
  intro w hw
  rw [show u_ws RX0 TX0 3 = [134, 136, 138].filterMap (fun i => lw_tbl[i]?) by decide +kernel] at hw
  obtain ⟨i, -, hi⟩ := List.mem_filterMap.mp hw
  have hg : ∀ w ∈ u_ws RX0 TX0 3, goodWord w = true := by decide +kernel
  refine lg_m i hi (hg w ?_)
  rw [show u_ws RX0 TX0 3 = [134, 136, 138].filterMap (fun i => lw_tbl[i]?) by decide +kernel]
  exact hw
theorem ckX0 : CK 0 RX0 TX0 3 := ⟨rfl, layX0, ⟨tyX0, tyX0_ok⟩, nmX0⟩
theorem layX1 : ∀ w ∈ u_ws RX1 TX1 5, w ∈ lw_g := by
  intro w hw
  rw [show u_ws RX1 TX1 5 = [247, 249, 251, 253, 255].filterMap (fun i => lw_tbl[i]?) by decide +kernel] at hw
  obtain ⟨i, -, hi⟩ := List.mem_filterMap.mp hw
  have hg : ∀ w ∈ u_ws RX1 TX1 5, goodWord w = true := by decide +kernel
  refine lg_m i hi (hg w ?_)
  rw [show u_ws RX1 TX1 5 = [247, 249, 251, 253, 255].filterMap (fun i => lw_tbl[i]?) by decide +kernel]
  exact hw
theorem ckX1 : CK 1 RX1 TX1 5 := ⟨rfl, layX1, ⟨tyX1, tyX1_ok⟩, nmX1⟩
theorem layX2 : ∀ w ∈ u_ws RX2 TX2 14, w ∈ lw_g := by
  intro w hw
  rw [show u_ws RX2 TX2 14 = [182, 184, 186, 188, 190, 192, 194, 196, 198, 200, 202, 204, 206, 208].filterMap (fun i => lw_tbl[i]?) by decide +kernel] at hw
  obtain ⟨i, -, hi⟩ := List.mem_filterMap.mp hw
  have hg : ∀ w ∈ u_ws RX2 TX2 14, goodWord w = true := by decide +kernel
  refine lg_m i hi (hg w ?_)
  rw [show u_ws RX2 TX2 14 = [182, 184, 186, 188, 190, 192, 194, 196, 198, 200, 202, 204, 206, 208].filterMap (fun i => lw_tbl[i]?) by decide +kernel]
  exact hw
theorem ckX2 : CK 2 RX2 TX2 14 := ⟨rfl, layX2, ⟨tyX2, tyX2_ok⟩, nmX2⟩
theorem layX3 : ∀ w ∈ u_ws RX3 TX3 2, w ∈ lw_g := by
  intro w hw
  rw [show u_ws RX3 TX3 2 = [123, 125].filterMap (fun i => lw_tbl[i]?) by decide +kernel] at hw
  obtain ⟨i, -, hi⟩ := List.mem_filterMap.mp hw
  have hg : ∀ w ∈ u_ws RX3 TX3 2, goodWord w = true := by decide +kernel
  refine lg_m i hi (hg w ?_)
  rw [show u_ws RX3 TX3 2 = [123, 125].filterMap (fun i => lw_tbl[i]?) by decide +kernel]
  exact hw
theorem ckX3 : CK 3 RX3 TX3 2 := ⟨rfl, layX3, ⟨tyX3, tyX3_ok⟩, nmX3⟩
theorem layX4 : ∀ w ∈ u_ws RX4 TX4 2, w ∈ lw_g := by
  intro w hw
  rw [show u_ws RX4 TX4 2 = [321, 323].filterMap (fun i => lw_tbl[i]?) by decide +kernel] at hw
  obtain ⟨i, -, hi⟩ := List.mem_filterMap.mp hw
  have hg : ∀ w ∈ u_ws RX4 TX4 2, goodWord w = true := by decide +kernel
  refine lg_m i hi (hg w ?_)
  rw [show u_ws RX4 TX4 2 = [321, 323].filterMap (fun i => lw_tbl[i]?) by decide +kernel]
  exact hw
theorem ckX4 : CK 4 RX4 TX4 2 := ⟨rfl, layX4, ⟨tyX4, tyX4_ok⟩, nmX4⟩
theorem layX5 : ∀ w ∈ u_ws RX5 TX5 5, w ∈ lw_g := by
  intro w hw
  rw [show u_ws RX5 TX5 5 = [221, 223, 225, 227, 229].filterMap (fun i => lw_tbl[i]?) by decide +kernel] at hw
  obtain ⟨i, -, hi⟩ := List.mem_filterMap.mp hw
  have hg : ∀ w ∈ u_ws RX5 TX5 5, goodWord w = true := by decide +kernel
  refine lg_m i hi (hg w ?_)
  rw [show u_ws RX5 TX5 5 = [221, 223, 225, 227, 229].filterMap (fun i => lw_tbl[i]?) by decide +kernel]
  exact hw
theorem ckX5 : CK 5 RX5 TX5 5 := ⟨rfl, layX5, ⟨tyX5, tyX5_ok⟩, nmX5⟩
theorem layX6 : ∀ w ∈ u_ws RX6 TX6 4, w ∈ lw_g := by
  intro w hw
  rw [show u_ws RX6 TX6 4 = [273, 275, 277, 279].filterMap (fun i => lw_tbl[i]?) by decide +kernel] at hw
  obtain ⟨i, -, hi⟩ := List.mem_filterMap.mp hw
  have hg : ∀ w ∈ u_ws RX6 TX6 4, goodWord w = true := by decide +kernel
  refine lg_m i hi (hg w ?_)
  rw [show u_ws RX6 TX6 4 = [273, 275, 277, 279].filterMap (fun i => lw_tbl[i]?) by decide +kernel]
  exact hw
theorem ckX6 : CK 6 RX6 TX6 4 := ⟨rfl, layX6, ⟨tyX6, tyX6_ok⟩, nmX6⟩
theorem layX7 : ∀ w ∈ u_ws RX7 TX7 5, w ∈ lw_g := by
  intro w hw
  rw [show u_ws RX7 TX7 5 = [297, 299, 301, 303, 305].filterMap (fun i => lw_tbl[i]?) by decide +kernel] at hw
  obtain ⟨i, -, hi⟩ := List.mem_filterMap.mp hw
  have hg : ∀ w ∈ u_ws RX7 TX7 5, goodWord w = true := by decide +kernel
  refine lg_m i hi (hg w ?_)
  rw [show u_ws RX7 TX7 5 = [297, 299, 301, 303, 305].filterMap (fun i => lw_tbl[i]?) by decide +kernel]
  exact hw
theorem ckX7 : CK 7 RX7 TX7 5 := ⟨rfl, layX7, ⟨tyX7, tyX7_ok⟩, nmX7⟩
theorem layX8 : ∀ w ∈ u_ws RX8 TX8 8, w ∈ lw_g := by
  intro w hw
  rw [show u_ws RX8 TX8 8 = [334, 336, 338, 340, 342, 344, 346, 348].filterMap (fun i => lw_tbl[i]?) by decide +kernel] at hw
  obtain ⟨i, -, hi⟩ := List.mem_filterMap.mp hw
  have hg : ∀ w ∈ u_ws RX8 TX8 8, goodWord w = true := by decide +kernel
  refine lg_m i hi (hg w ?_)
  rw [show u_ws RX8 TX8 8 = [334, 336, 338, 340, 342, 344, 346, 348].filterMap (fun i => lw_tbl[i]?) by decide +kernel]
  exact hw
theorem ckX8 : CK 8 RX8 TX8 8 := ⟨rfl, layX8, ⟨tyX8, tyX8_ok⟩, nmX8⟩
theorem layX9 : ∀ w ∈ u_ws RX9 TX9 20, w ∈ lw_g := by
  intro w hw
  rw [show u_ws RX9 TX9 20 = [937, 939, 941, 943, 945, 947, 949, 951, 953, 955, 957, 959, 961, 963, 965, 967, 969, 971, 973, 975].filterMap (fun i => lw_tbl[i]?) by decide +kernel] at hw
  obtain ⟨i, -, hi⟩ := List.mem_filterMap.mp hw
  have hg : ∀ w ∈ u_ws RX9 TX9 20, goodWord w = true := by decide +kernel
  refine lg_m i hi (hg w ?_)
  rw [show u_ws RX9 TX9 20 = [937, 939, 941, 943, 945, 947, 949, 951, 953, 955, 957, 959, 961, 963, 965, 967, 969, 971, 973, 975].filterMap (fun i => lw_tbl[i]?) by decide +kernel]
  exact hw
theorem ckX9 : CK 9 RX9 TX9 20 := ⟨rfl, layX9, ⟨tyX9, tyX9_ok⟩, nmX9⟩
theorem fkX3_19 : FK RX3 19 3 0 true (.array .int) := ⟨_, _, _, ckX3, Nat.le_of_ble_eq_true rfl, lg_m 112 (by decide +kernel) rfl, rfl, rfl, by decide +kernel⟩
theorem fkX1_57 : FK RX1 57 3 0 true (.array .int) := ⟨_, _, _, ckX3, Nat.le_of_ble_eq_true rfl, lg_m 113 (by decide +kernel) rfl, rfl, rfl, by decide +kernel⟩
theorem fkX0_35 : FK RX0 35 3 0 true (.array .int) := ⟨_, _, _, ckX3, Nat.le_of_ble_eq_true rfl, lg_m 114 (by decide +kernel) rfl, rfl, rfl, by decide +kernel⟩
theorem fkX6_94 : FK RX6 94 3 0 true (.array .int) := ⟨_, _, _, ckX3, Nat.le_of_ble_eq_true rfl, lg_m 115 (by decide +kernel) rfl, rfl, rfl, by decide +kernel⟩
theorem fkX2_116 : FK RX2 116 3 0 true (.array .int) := ⟨_, _, _, ckX3, Nat.le_of_ble_eq_true rfl, lg_m 116 (by decide +kernel) rfl, rfl, rfl, by decide +kernel⟩
theorem fkX8_248 : FK RX8 248 3 0 true (.array .int) := ⟨_, _, _, ckX3, Nat.le_of_ble_eq_true rfl, lg_m 117 (by decide +kernel) rfl, rfl, rfl, by decide +kernel⟩
theorem fkX3_7 : FK RX3 7 3 1 false .int := ⟨_, _, _, ckX3, Nat.le_of_ble_eq_true rfl, lg_m 118 (by decide +kernel) rfl, rfl, rfl, by decide +kernel⟩
theorem fkX0_32 : FK RX0 32 3 1 false .int := ⟨_, _, _, ckX3, Nat.le_of_ble_eq_true rfl, lg_m 119 (by decide +kernel) rfl, rfl, rfl, by decide +kernel⟩
theorem fkX8_129 : FK RX8 129 3 1 false .int := ⟨_, _, _, ckX3, Nat.le_of_ble_eq_true rfl, lg_m 120 (by decide +kernel) rfl, rfl, rfl, by decide +kernel⟩
theorem fkX6_89 : FK RX6 89 3 1 false .int := ⟨_, _, _, ckX3, Nat.le_of_ble_eq_true rfl, lg_m 121 (by decide +kernel) rfl, rfl, rfl, by decide +kernel⟩
theorem fkX2_111 : FK RX2 111 3 1 false .int := ⟨_, _, _, ckX3, Nat.le_of_ble_eq_true rfl, lg_m 122 (by decide +kernel) rfl, rfl, rfl, by decide +kernel⟩
theorem fkX0_14 : FK RX0 14 0 0 true (.object "LoanedRound$Row") := ⟨_, _, _, ckX0, Nat.le_of_ble_eq_true rfl, lg_m 129 (by decide +kernel) rfl, rfl, rfl, by decide +kernel⟩
theorem fkX5_42 : FK RX5 42 0 0 true (.object "LoanedRound$Row") := ⟨_, _, _, ckX0, Nat.le_of_ble_eq_true rfl, lg_m 130 (by decide +kernel) rfl, rfl, rfl, by decide +kernel⟩
theorem fkX8_161 : FK RX8 161 0 0 true (.object "LoanedRound$Row") := ⟨_, _, _, ckX0, Nat.le_of_ble_eq_true rfl, lg_m 131 (by decide +kernel) rfl, rfl, rfl, by decide +kernel⟩
theorem fkX0_20 : FK RX0 20 0 1 true (.array .int) := ⟨_, _, _, ckX0, Nat.le_of_ble_eq_true rfl, lg_m 132 (by decide +kernel) rfl, rfl, rfl, by decide +kernel⟩
theorem fkX0_24 : FK RX0 24 0 2 true .int := ⟨_, _, _, ckX0, Nat.le_of_ble_eq_true rfl, lg_m 133 (by decide +kernel) rfl, rfl, rfl, by decide +kernel⟩
theorem fkX6_24 : FK RX6 24 2 0 true (.object "LoanedRound$Law") := ⟨_, _, _, ckX2, Nat.le_of_ble_eq_true rfl, lg_m 147 (by decide +kernel) rfl, rfl, rfl, by decide +kernel⟩
theorem fkX2_49 : FK RX2 49 2 0 true (.object "LoanedRound$Law") := ⟨_, _, _, ckX2, Nat.le_of_ble_eq_true rfl, lg_m 148 (by decide +kernel) rfl, rfl, rfl, by decide +kernel⟩
theorem fkX6_28 : FK RX6 28 2 1 true (.object "LoanedRound$Law") := ⟨_, _, _, ckX2, Nat.le_of_ble_eq_true rfl, lg_m 149 (by decide +kernel) rfl, rfl, rfl, by decide +kernel⟩
theorem fkX2_53 : FK RX2 53 2 1 true (.object "LoanedRound$Law") := ⟨_, _, _, ckX2, Nat.le_of_ble_eq_true rfl, lg_m 150 (by decide +kernel) rfl, rfl, rfl, by decide +kernel⟩
theorem fkX2_9 : FK RX2 9 2 2 true (.array .int) := ⟨_, _, _, ckX2, Nat.le_of_ble_eq_true rfl, lg_m 151 (by decide +kernel) rfl, rfl, rfl, by decide +kernel⟩
theorem fkX7_37 : FK RX7 37 2 2 true (.array .int) := ⟨_, _, _, ckX2, Nat.le_of_ble_eq_true rfl, lg_m 152 (by decide +kernel) rfl, rfl, rfl, by decide +kernel⟩
theorem fkX8_81 : FK RX8 81 2 2 true (.array .int) := ⟨_, _, _, ckX2, Nat.le_of_ble_eq_true rfl, lg_m 153 (by decide +kernel) rfl, rfl, rfl, by decide +kernel⟩
theorem fkX2_15 : FK RX2 15 2 3 true (.array .int) := ⟨_, _, _, ckX2, Nat.le_of_ble_eq_true rfl, lg_m 154 (by decide +kernel) rfl, rfl, rfl, by decide +kernel⟩
theorem fkX7_43 : FK RX7 43 2 3 true (.array .int) := ⟨_, _, _, ckX2, Nat.le_of_ble_eq_true rfl, lg_m 155 (by decide +kernel) rfl, rfl, rfl, by decide +kernel⟩
theorem fkX8_84 : FK RX8 84 2 3 true (.array .int) := ⟨_, _, _, ckX2, Nat.le_of_ble_eq_true rfl, lg_m 156 (by decide +kernel) rfl, rfl, rfl, by decide +kernel⟩
theorem fkX2_18 : FK RX2 18 2 4 true (.array .int) := ⟨_, _, _, ckX2, Nat.le_of_ble_eq_true rfl, lg_m 157 (by decide +kernel) rfl, rfl, rfl, by decide +kernel⟩
theorem fkX6_45 : FK RX6 45 2 4 true (.array .int) := ⟨_, _, _, ckX2, Nat.le_of_ble_eq_true rfl, lg_m 158 (by decide +kernel) rfl, rfl, rfl, by decide +kernel⟩
theorem fkX8_87 : FK RX8 87 2 4 true (.array .int) := ⟨_, _, _, ckX2, Nat.le_of_ble_eq_true rfl, lg_m 159 (by decide +kernel) rfl, rfl, rfl, by decide +kernel⟩
theorem fkX2_21 : FK RX2 21 2 5 true (.array .int) := ⟨_, _, _, ckX2, Nat.le_of_ble_eq_true rfl, lg_m 160 (by decide +kernel) rfl, rfl, rfl, by decide +kernel⟩
theorem fkX8_90 : FK RX8 90 2 5 true (.array .int) := ⟨_, _, _, ckX2, Nat.le_of_ble_eq_true rfl, lg_m 161 (by decide +kernel) rfl, rfl, rfl, by decide +kernel⟩
theorem fkX2_24 : FK RX2 24 2 6 false .int := ⟨_, _, _, ckX2, Nat.le_of_ble_eq_true rfl, lg_m 162 (by decide +kernel) rfl, rfl, rfl, by decide +kernel⟩
theorem fkX6_72 : FK RX6 72 2 6 false .int := ⟨_, _, _, ckX2, Nat.le_of_ble_eq_true rfl, lg_m 163 (by decide +kernel) rfl, rfl, rfl, by decide +kernel⟩
theorem fkX8_290 : FK RX8 290 2 6 false .int := ⟨_, _, _, ckX2, Nat.le_of_ble_eq_true rfl, lg_m 164 (by decide +kernel) rfl, rfl, rfl, by decide +kernel⟩
theorem fkX2_28 : FK RX2 28 2 7 false .int := ⟨_, _, _, ckX2, Nat.le_of_ble_eq_true rfl, lg_m 165 (by decide +kernel) rfl, rfl, rfl, by decide +kernel⟩
theorem fkX8_69 : FK RX8 69 2 7 false .int := ⟨_, _, _, ckX2, Nat.le_of_ble_eq_true rfl, lg_m 166 (by decide +kernel) rfl, rfl, rfl, by decide +kernel⟩
theorem fkX6_53 : FK RX6 53 2 7 false .int := ⟨_, _, _, ckX2, Nat.le_of_ble_eq_true rfl, lg_m 167 (by decide +kernel) rfl, rfl, rfl, by decide +kernel⟩
theorem fkX2_31 : FK RX2 31 2 8 false .int := ⟨_, _, _, ckX2, Nat.le_of_ble_eq_true rfl, lg_m 168 (by decide +kernel) rfl, rfl, rfl, by decide +kernel⟩
theorem fkX8_166 : FK RX8 166 2 8 false .int := ⟨_, _, _, ckX2, Nat.le_of_ble_eq_true rfl, lg_m 169 (by decide +kernel) rfl, rfl, rfl, by decide +kernel⟩
theorem fkX2_34 : FK RX2 34 2 9 false .int := ⟨_, _, _, ckX2, Nat.le_of_ble_eq_true rfl, lg_m 170 (by decide +kernel) rfl, rfl, rfl, by decide +kernel⟩
theorem fkX6_82 : FK RX6 82 2 9 false .int := ⟨_, _, _, ckX2, Nat.le_of_ble_eq_true rfl, lg_m 171 (by decide +kernel) rfl, rfl, rfl, by decide +kernel⟩
theorem fkX8_172 : FK RX8 172 2 9 false .int := ⟨_, _, _, ckX2, Nat.le_of_ble_eq_true rfl, lg_m 172 (by decide +kernel) rfl, rfl, rfl, by decide +kernel⟩
theorem fkX2_37 : FK RX2 37 2 10 false .int := ⟨_, _, _, ckX2, Nat.le_of_ble_eq_true rfl, lg_m 173 (by decide +kernel) rfl, rfl, rfl, by decide +kernel⟩
theorem fkX8_185 : FK RX8 185 2 10 false .int := ⟨_, _, _, ckX2, Nat.le_of_ble_eq_true rfl, lg_m 174 (by decide +kernel) rfl, rfl, rfl, by decide +kernel⟩
theorem fkX2_40 : FK RX2 40 2 11 false .int := ⟨_, _, _, ckX2, Nat.le_of_ble_eq_true rfl, lg_m 175 (by decide +kernel) rfl, rfl, rfl, by decide +kernel⟩
theorem fkX8_287 : FK RX8 287 2 11 false .int := ⟨_, _, _, ckX2, Nat.le_of_ble_eq_true rfl, lg_m 176 (by decide +kernel) rfl, rfl, rfl, by decide +kernel⟩
theorem fkX2_43 : FK RX2 43 2 12 false .int := ⟨_, _, _, ckX2, Nat.le_of_ble_eq_true rfl, lg_m 177 (by decide +kernel) rfl, rfl, rfl, by decide +kernel⟩
theorem fkX6_56 : FK RX6 56 2 12 false .int := ⟨_, _, _, ckX2, Nat.le_of_ble_eq_true rfl, lg_m 178 (by decide +kernel) rfl, rfl, rfl, by decide +kernel⟩
theorem fkX8_113 : FK RX8 113 2 12 false .int := ⟨_, _, _, ckX2, Nat.le_of_ble_eq_true rfl, lg_m 179 (by decide +kernel) rfl, rfl, rfl, by decide +kernel⟩
theorem fkX2_46 : FK RX2 46 2 13 false .int := ⟨_, _, _, ckX2, Nat.le_of_ble_eq_true rfl, lg_m 180 (by decide +kernel) rfl, rfl, rfl, by decide +kernel⟩
theorem fkX8_178 : FK RX8 178 2 13 false .int := ⟨_, _, _, ckX2, Nat.le_of_ble_eq_true rfl, lg_m 181 (by decide +kernel) rfl, rfl, rfl, by decide +kernel⟩
theorem fkX5_14 : FK RX5 14 5 0 true (.object "LoanedRound$Law") := ⟨_, _, _, ckX5, Nat.le_of_ble_eq_true rfl, lg_m 213 (by decide +kernel) rfl, rfl, rfl, by decide +kernel⟩
theorem fkX5_20 : FK RX5 20 5 1 true (.object "LoanedRound$Law") := ⟨_, _, _, ckX5, Nat.le_of_ble_eq_true rfl, lg_m 214 (by decide +kernel) rfl, rfl, rfl, by decide +kernel⟩
theorem fkX5_28 : FK RX5 28 5 2 true (.object "LoanedRound$Round") := ⟨_, _, _, ckX5, Nat.le_of_ble_eq_true rfl, lg_m 215 (by decide +kernel) rfl, rfl, rfl, by decide +kernel⟩
theorem fkX8_28 : FK RX8 28 5 2 true (.object "LoanedRound$Round") := ⟨_, _, _, ckX5, Nat.le_of_ble_eq_true rfl, lg_m 216 (by decide +kernel) rfl, rfl, rfl, by decide +kernel⟩
theorem fkX5_35 : FK RX5 35 5 3 true (.object "LoanedRound$Row") := ⟨_, _, _, ckX5, Nat.le_of_ble_eq_true rfl, lg_m 217 (by decide +kernel) rfl, rfl, rfl, by decide +kernel⟩
theorem fkX8_125 : FK RX8 125 5 3 true (.object "LoanedRound$Row") := ⟨_, _, _, ckX5, Nat.le_of_ble_eq_true rfl, lg_m 218 (by decide +kernel) rfl, rfl, rfl, by decide +kernel⟩
theorem fkX5_39 : FK RX5 39 5 4 true (.object "LoanedRound$Row") := ⟨_, _, _, ckX5, Nat.le_of_ble_eq_true rfl, lg_m 219 (by decide +kernel) rfl, rfl, rfl, by decide +kernel⟩
theorem fkX8_281 : FK RX8 281 5 4 true (.object "LoanedRound$Row") := ⟨_, _, _, ckX5, Nat.le_of_ble_eq_true rfl, lg_m 220 (by decide +kernel) rfl, rfl, rfl, by decide +kernel⟩
theorem fkX1_14 : FK RX1 14 1 0 true (.object "LoanedRound$Row") := ⟨_, _, _, ckX1, Nat.le_of_ble_eq_true rfl, lg_m 241 (by decide +kernel) rfl, rfl, rfl, by decide +kernel⟩
theorem fkX8_152 : FK RX8 152 1 0 true (.object "LoanedRound$Row") := ⟨_, _, _, ckX1, Nat.le_of_ble_eq_true rfl, lg_m 242 (by decide +kernel) rfl, rfl, rfl, by decide +kernel⟩
theorem fkX1_20 : FK RX1 20 1 1 false (.object "LoanedRound$Row") := ⟨_, _, _, ckX1, Nat.le_of_ble_eq_true rfl, lg_m 243 (by decide +kernel) rfl, rfl, rfl, by decide +kernel⟩
theorem fkX1_25 : FK RX1 25 1 2 false (.object "java/lang/String") := ⟨_, _, _, ckX1, Nat.le_of_ble_eq_true rfl, lg_m 244 (by decide +kernel) rfl, rfl, rfl, by decide +kernel⟩
theorem fkX1_29 : FK RX1 29 1 3 false .int := ⟨_, _, _, ckX1, Nat.le_of_ble_eq_true rfl, lg_m 245 (by decide +kernel) rfl, rfl, rfl, by decide +kernel⟩
theorem fkX1_33 : FK RX1 33 1 4 false .int := ⟨_, _, _, ckX1, Nat.le_of_ble_eq_true rfl, lg_m 246 (by decide +kernel) rfl, rfl, rfl, by decide +kernel⟩
theorem fkX6_18 : FK RX6 18 6 0 true (.object "LoanedRound$Round") := ⟨_, _, _, ckX6, Nat.le_of_ble_eq_true rfl, lg_m 267 (by decide +kernel) rfl, rfl, rfl, by decide +kernel⟩
theorem fkX6_34 : FK RX6 34 6 1 true (.object "LoanedRound$Round") := ⟨_, _, _, ckX6, Nat.le_of_ble_eq_true rfl, lg_m 268 (by decide +kernel) rfl, rfl, rfl, by decide +kernel⟩
theorem fkX6_9 : FK RX6 9 6 2 false .int := ⟨_, _, _, ckX6, Nat.le_of_ble_eq_true rfl, lg_m 269 (by decide +kernel) rfl, rfl, rfl, by decide +kernel⟩
theorem fkX8_199 : FK RX8 199 6 2 false .int := ⟨_, _, _, ckX6, Nat.le_of_ble_eq_true rfl, lg_m 270 (by decide +kernel) rfl, rfl, rfl, by decide +kernel⟩
theorem fkX6_15 : FK RX6 15 6 3 false .int := ⟨_, _, _, ckX6, Nat.le_of_ble_eq_true rfl, lg_m 271 (by decide +kernel) rfl, rfl, rfl, by decide +kernel⟩
theorem fkX8_202 : FK RX8 202 6 3 false .int := ⟨_, _, _, ckX6, Nat.le_of_ble_eq_true rfl, lg_m 272 (by decide +kernel) rfl, rfl, rfl, by decide +kernel⟩
theorem fkX7_14 : FK RX7 14 7 0 true (.object "LoanedRound$Row") := ⟨_, _, _, ckX7, Nat.le_of_ble_eq_true rfl, lg_m 290 (by decide +kernel) rfl, rfl, rfl, by decide +kernel⟩
theorem fkX8_244 : FK RX8 244 7 0 true (.object "LoanedRound$Row") := ⟨_, _, _, ckX7, Nat.le_of_ble_eq_true rfl, lg_m 291 (by decide +kernel) rfl, rfl, rfl, by decide +kernel⟩
theorem fkX7_20 : FK RX7 20 7 1 false .boolean := ⟨_, _, _, ckX7, Nat.le_of_ble_eq_true rfl, lg_m 292 (by decide +kernel) rfl, rfl, rfl, by decide +kernel⟩
theorem fkX8_240 : FK RX8 240 7 1 false .boolean := ⟨_, _, _, ckX7, Nat.le_of_ble_eq_true rfl, lg_m 293 (by decide +kernel) rfl, rfl, rfl, by decide +kernel⟩
theorem fkX7_24 : FK RX7 24 7 2 false .int := ⟨_, _, _, ckX7, Nat.le_of_ble_eq_true rfl, lg_m 294 (by decide +kernel) rfl, rfl, rfl, by decide +kernel⟩
theorem fkX7_28 : FK RX7 28 7 3 false .int := ⟨_, _, _, ckX7, Nat.le_of_ble_eq_true rfl, lg_m 295 (by decide +kernel) rfl, rfl, rfl, by decide +kernel⟩
theorem fkX7_31 : FK RX7 31 7 4 false .int := ⟨_, _, _, ckX7, Nat.le_of_ble_eq_true rfl, lg_m 296 (by decide +kernel) rfl, rfl, rfl, by decide +kernel⟩
theorem fkX4_14 : FK RX4 14 4 0 true (.object "LoanedRound$Row") := ⟨_, _, _, ckX4, Nat.le_of_ble_eq_true rfl, lg_m 317 (by decide +kernel) rfl, rfl, rfl, by decide +kernel⟩
theorem fkX8_224 : FK RX8 224 4 0 true (.object "LoanedRound$Row") := ⟨_, _, _, ckX4, Nat.le_of_ble_eq_true rfl, lg_m 318 (by decide +kernel) rfl, rfl, rfl, by decide +kernel⟩
theorem fkX4_20 : FK RX4 20 4 1 false .int := ⟨_, _, _, ckX4, Nat.le_of_ble_eq_true rfl, lg_m 319 (by decide +kernel) rfl, rfl, rfl, by decide +kernel⟩
theorem fkX8_259 : FK RX8 259 4 1 false .int := ⟨_, _, _, ckX4, Nat.le_of_ble_eq_true rfl, lg_m 320 (by decide +kernel) rfl, rfl, rfl, by decide +kernel⟩
theorem fkX8_10 : FK RX8 10 8 0 true (.object "LoanedRound$State") := ⟨_, _, _, ckX8, Nat.le_of_ble_eq_true rfl, lg_m 326 (by decide +kernel) rfl, rfl, rfl, by decide +kernel⟩
theorem fkX8_16 : FK RX8 16 8 1 true (.object "LoanedRound$State") := ⟨_, _, _, ckX8, Nat.le_of_ble_eq_true rfl, lg_m 327 (by decide +kernel) rfl, rfl, rfl, by decide +kernel⟩
theorem fkX8_22 : FK RX8 22 8 2 true (.object "LoanedRound$Reader") := ⟨_, _, _, ckX8, Nat.le_of_ble_eq_true rfl, lg_m 328 (by decide +kernel) rfl, rfl, rfl, by decide +kernel⟩
theorem fkX8_35 : FK RX8 35 8 3 true (.object "LoanedRound$Thought") := ⟨_, _, _, ckX8, Nat.le_of_ble_eq_true rfl, lg_m 329 (by decide +kernel) rfl, rfl, rfl, by decide +kernel⟩
theorem fkX8_42 : FK RX8 42 8 4 true (.object "LoanedRound$Voices") := ⟨_, _, _, ckX8, Nat.le_of_ble_eq_true rfl, lg_m 330 (by decide +kernel) rfl, rfl, rfl, by decide +kernel⟩
theorem fkX8_48 : FK RX8 48 8 5 true (.array (.object "LoanedRound$Sheet")) := ⟨_, _, _, ckX8, Nat.le_of_ble_eq_true rfl, lg_m 331 (by decide +kernel) rfl, rfl, rfl, by decide +kernel⟩
theorem fkX8_52 : FK RX8 52 8 6 true (.array .int) := ⟨_, _, _, ckX8, Nat.le_of_ble_eq_true rfl, lg_m 332 (by decide +kernel) rfl, rfl, rfl, by decide +kernel⟩
theorem fkX8_56 : FK RX8 56 8 7 false .int := ⟨_, _, _, ckX8, Nat.le_of_ble_eq_true rfl, lg_m 333 (by decide +kernel) rfl, rfl, rfl, by decide +kernel⟩
theorem fkX9_7 : FK RX9 7 9 0 true (.array .int) := ⟨_, _, _, ckX9, Nat.le_of_ble_eq_true rfl, lg_m 917 (by decide +kernel) rfl, rfl, rfl, by decide +kernel⟩
theorem fkX9_13 : FK RX9 13 9 1 true (.array .int) := ⟨_, _, _, ckX9, Nat.le_of_ble_eq_true rfl, lg_m 918 (by decide +kernel) rfl, rfl, rfl, by decide +kernel⟩
theorem fkX9_16 : FK RX9 16 9 2 true (.array .int) := ⟨_, _, _, ckX9, Nat.le_of_ble_eq_true rfl, lg_m 919 (by decide +kernel) rfl, rfl, rfl, by decide +kernel⟩
theorem fkX9_236 : FK RX9 236 9 3 false .int := ⟨_, _, _, ckX9, Nat.le_of_ble_eq_true rfl, lg_m 920 (by decide +kernel) rfl, rfl, rfl, by decide +kernel⟩
theorem fkX9_19 : FK RX9 19 9 4 true (.array .int) := ⟨_, _, _, ckX9, Nat.le_of_ble_eq_true rfl, lg_m 921 (by decide +kernel) rfl, rfl, rfl, by decide +kernel⟩
theorem fkX9_57 : FK RX9 57 9 5 false .int := ⟨_, _, _, ckX9, Nat.le_of_ble_eq_true rfl, lg_m 922 (by decide +kernel) rfl, rfl, rfl, by decide +kernel⟩
theorem fkX9_91 : FK RX9 91 9 6 false .int := ⟨_, _, _, ckX9, Nat.le_of_ble_eq_true rfl, lg_m 923 (by decide +kernel) rfl, rfl, rfl, by decide +kernel⟩
theorem fkX9_64 : FK RX9 64 9 7 false .int := ⟨_, _, _, ckX9, Nat.le_of_ble_eq_true rfl, lg_m 924 (by decide +kernel) rfl, rfl, rfl, by decide +kernel⟩
theorem fkX9_61 : FK RX9 61 9 8 false .int := ⟨_, _, _, ckX9, Nat.le_of_ble_eq_true rfl, lg_m 925 (by decide +kernel) rfl, rfl, rfl, by decide +kernel⟩
theorem fkX9_22 : FK RX9 22 9 9 true (.array .int) := ⟨_, _, _, ckX9, Nat.le_of_ble_eq_true rfl, lg_m 926 (by decide +kernel) rfl, rfl, rfl, by decide +kernel⟩
theorem fkX9_25 : FK RX9 25 9 10 true (.array .int) := ⟨_, _, _, ckX9, Nat.le_of_ble_eq_true rfl, lg_m 927 (by decide +kernel) rfl, rfl, rfl, by decide +kernel⟩
theorem fkX9_28 : FK RX9 28 9 11 true (.array .int) := ⟨_, _, _, ckX9, Nat.le_of_ble_eq_true rfl, lg_m 928 (by decide +kernel) rfl, rfl, rfl, by decide +kernel⟩
theorem fkX9_198 : FK RX9 198 9 12 false .int := ⟨_, _, _, ckX9, Nat.le_of_ble_eq_true rfl, lg_m 929 (by decide +kernel) rfl, rfl, rfl, by decide +kernel⟩
theorem fkX9_31 : FK RX9 31 9 13 true (.array .int) := ⟨_, _, _, ckX9, Nat.le_of_ble_eq_true rfl, lg_m 930 (by decide +kernel) rfl, rfl, rfl, by decide +kernel⟩
theorem fkX9_201 : FK RX9 201 9 14 false .int := ⟨_, _, _, ckX9, Nat.le_of_ble_eq_true rfl, lg_m 931 (by decide +kernel) rfl, rfl, rfl, by decide +kernel⟩
theorem fkX9_222 : FK RX9 222 9 15 false .boolean := ⟨_, _, _, ckX9, Nat.le_of_ble_eq_true rfl, lg_m 932 (by decide +kernel) rfl, rfl, rfl, by decide +kernel⟩
theorem fkX9_34 : FK RX9 34 9 16 true (.array .int) := ⟨_, _, _, ckX9, Nat.le_of_ble_eq_true rfl, lg_m 933 (by decide +kernel) rfl, rfl, rfl, by decide +kernel⟩
theorem fkX9_37 : FK RX9 37 9 17 true (.array .int) := ⟨_, _, _, ckX9, Nat.le_of_ble_eq_true rfl, lg_m 934 (by decide +kernel) rfl, rfl, rfl, by decide +kernel⟩
theorem fkX9_40 : FK RX9 40 9 18 true (.array .int) := ⟨_, _, _, ckX9, Nat.le_of_ble_eq_true rfl, lg_m 935 (by decide +kernel) rfl, rfl, rfl, by decide +kernel⟩
theorem fkX9_43 : FK RX9 43 9 19 true (.array .int) := ⟨_, _, _, ckX9, Nat.le_of_ble_eq_true rfl, lg_m 936 (by decide +kernel) rfl, rfl, rfl, by decide +kernel⟩
theorem mkL_9 : MKI RL 9 yX8_init cX8_init 2 0 := ⟨⟨lg_m 85 (by decide +kernel) rfl, lg_m 87 (by decide +kernel) rfl, lg_m 65 (by decide +kernel) rfl, by decide +kernel, by decide +kernel, by decide +kernel⟩, lg_m 86 (by decide +kernel) rfl, rfl⟩
theorem mkX8_9 : MKI RX8 9 yX5_init cX5_init 1 0 := ⟨⟨lg_m 93 (by decide +kernel) rfl, lg_m 95 (by decide +kernel) rfl, lg_m 66 (by decide +kernel) rfl, by decide +kernel, by decide +kernel, by decide +kernel⟩, lg_m 94 (by decide +kernel) rfl, rfl⟩
theorem mkX5_11 : MKI RX5 11 yX0_init cX0_init 2 1 := ⟨⟨lg_m 99 (by decide +kernel) rfl, lg_m 101 (by decide +kernel) rfl, lg_m 67 (by decide +kernel) rfl, by decide +kernel, by decide +kernel, by decide +kernel⟩, lg_m 100 (by decide +kernel) rfl, rfl⟩
theorem mkX0_11 : MKI RX0 11 yX3_init cX3_init 2 1 := ⟨⟨lg_m 105 (by decide +kernel) rfl, lg_m 107 (by decide +kernel) rfl, lg_m 68 (by decide +kernel) rfl, by decide +kernel, by decide +kernel, by decide +kernel⟩, lg_m 106 (by decide +kernel) rfl, rfl⟩
theorem mkX3_13 : MKS RX3 13 yJ9_max_7cf53 cJ9_max_7cf53 2 (some (.int)) 2 := ⟨⟨lg_m 109 (by decide +kernel) rfl, lg_m 111 (by decide +kernel) rfl, lg_m 69 (by decide +kernel) rfl, by decide +kernel, by decide +kernel, by decide +kernel⟩, lg_m 110 (by decide +kernel) rfl⟩
theorem mkX5_25 : MKI RX5 25 yX2_init cX2_init 3 2 := ⟨⟨lg_m 143 (by decide +kernel) rfl, lg_m 145 (by decide +kernel) rfl, lg_m 70 (by decide +kernel) rfl, by decide +kernel, by decide +kernel, by decide +kernel⟩, lg_m 144 (by decide +kernel) rfl, rfl⟩
theorem mkX5_34 : MKI RX5 34 yX3_init cX3_init 2 1 := ⟨⟨lg_m 212 (by decide +kernel) rfl, lg_m 107 (by decide +kernel) rfl, lg_m 68 (by decide +kernel) rfl, by decide +kernel, by decide +kernel, by decide +kernel⟩, lg_m 106 (by decide +kernel) rfl, rfl⟩
theorem mkX8_21 : MKI RX8 21 yX1_init cX1_init 1 0 := ⟨⟨lg_m 234 (by decide +kernel) rfl, lg_m 236 (by decide +kernel) rfl, lg_m 71 (by decide +kernel) rfl, by decide +kernel, by decide +kernel, by decide +kernel⟩, lg_m 235 (by decide +kernel) rfl, rfl⟩
theorem mkX1_11 : MKI RX1 11 yX3_init cX3_init 2 1 := ⟨⟨lg_m 239 (by decide +kernel) rfl, lg_m 107 (by decide +kernel) rfl, lg_m 68 (by decide +kernel) rfl, by decide +kernel, by decide +kernel, by decide +kernel⟩, lg_m 106 (by decide +kernel) rfl, rfl⟩
theorem mkX8_32 : MKI RX8 32 yX6_init cX6_init 2 1 := ⟨⟨lg_m 261 (by decide +kernel) rfl, lg_m 263 (by decide +kernel) rfl, lg_m 72 (by decide +kernel) rfl, by decide +kernel, by decide +kernel, by decide +kernel⟩, lg_m 262 (by decide +kernel) rfl, rfl⟩
theorem mkX6_31 : MKI RX6 31 yX2_init cX2_init 3 2 := ⟨⟨lg_m 266 (by decide +kernel) rfl, lg_m 145 (by decide +kernel) rfl, lg_m 70 (by decide +kernel) rfl, by decide +kernel, by decide +kernel, by decide +kernel⟩, lg_m 144 (by decide +kernel) rfl, rfl⟩
theorem mkX8_41 : MKI RX8 41 yX7_init cX7_init 1 0 := ⟨⟨lg_m 284 (by decide +kernel) rfl, lg_m 286 (by decide +kernel) rfl, lg_m 73 (by decide +kernel) rfl, by decide +kernel, by decide +kernel, by decide +kernel⟩, lg_m 285 (by decide +kernel) rfl, rfl⟩
theorem mkX7_11 : MKI RX7 11 yX3_init cX3_init 2 1 := ⟨⟨lg_m 289 (by decide +kernel) rfl, lg_m 107 (by decide +kernel) rfl, lg_m 68 (by decide +kernel) rfl, by decide +kernel, by decide +kernel, by decide +kernel⟩, lg_m 106 (by decide +kernel) rfl, rfl⟩
theorem mkX8_60 : MKI RX8 60 yX4_init cX4_init 1 0 := ⟨⟨lg_m 311 (by decide +kernel) rfl, lg_m 313 (by decide +kernel) rfl, lg_m 74 (by decide +kernel) rfl, by decide +kernel, by decide +kernel, by decide +kernel⟩, lg_m 312 (by decide +kernel) rfl, rfl⟩
theorem mkX4_11 : MKI RX4 11 yX3_init cX3_init 2 1 := ⟨⟨lg_m 316 (by decide +kernel) rfl, lg_m 107 (by decide +kernel) rfl, lg_m 68 (by decide +kernel) rfl, by decide +kernel, by decide +kernel, by decide +kernel⟩, lg_m 106 (by decide +kernel) rfl, rfl⟩
theorem mkL_13 : MKV RL 13 yX8_home cX8_home 2 (some (.int)) 1 8 := ⟨⟨lg_m 351 (by decide +kernel) rfl, lg_m 354 (by decide +kernel) rfl, lg_m 65 (by decide +kernel) rfl, by decide +kernel, by decide +kernel, by decide +kernel⟩, lg_m 352 (by decide +kernel) rfl, lg_m 353 (by decide +kernel) rfl, _, _, rfl⟩
theorem mkX8_61 : MKS RX8 61 yX8_isWithin cX8_isWithin 3 (some (.boolean)) 3 := ⟨⟨lg_m 355 (by decide +kernel) rfl, lg_m 357 (by decide +kernel) rfl, lg_m 65 (by decide +kernel) rfl, by decide +kernel, by decide +kernel, by decide +kernel⟩, lg_m 356 (by decide +kernel) rfl⟩
theorem mkX8_65 : MKV RX8 65 yX8_error cX8_error 2 (some (.int)) 1 8 := ⟨⟨lg_m 358 (by decide +kernel) rfl, lg_m 361 (by decide +kernel) rfl, lg_m 65 (by decide +kernel) rfl, by decide +kernel, by decide +kernel, by decide +kernel⟩, lg_m 360 (by decide +kernel) rfl, lg_m 0 (by decide +kernel) rfl, _, _, rfl⟩
theorem mkX8_74 : MKV RX8 74 yX2_takeIn cX2_takeIn 2 (some (.int)) 1 2 := ⟨⟨lg_m 363 (by decide +kernel) rfl, lg_m 366 (by decide +kernel) rfl, lg_m 70 (by decide +kernel) rfl, by decide +kernel, by decide +kernel, by decide +kernel⟩, lg_m 364 (by decide +kernel) rfl, lg_m 365 (by decide +kernel) rfl, _, _, rfl⟩
theorem mkL_18 : MKV RL 18 yX8_homeIs cX8_homeIs 4 (some (.int)) 2 8 := ⟨⟨lg_m 367 (by decide +kernel) rfl, lg_m 370 (by decide +kernel) rfl, lg_m 65 (by decide +kernel) rfl, by decide +kernel, by decide +kernel, by decide +kernel⟩, lg_m 368 (by decide +kernel) rfl, lg_m 369 (by decide +kernel) rfl, _, _, rfl⟩
theorem mkX8_77 : MKV RX8 77 yX2_has cX2_has 2 (some (.boolean)) 1 2 := ⟨⟨lg_m 371 (by decide +kernel) rfl, lg_m 374 (by decide +kernel) rfl, lg_m 70 (by decide +kernel) rfl, by decide +kernel, by decide +kernel, by decide +kernel⟩, lg_m 372 (by decide +kernel) rfl, lg_m 373 (by decide +kernel) rfl, _, _, rfl⟩
theorem mkX8_93 : MKV RX8 93 yX2_pastAt cX2_pastAt 2 (some (.int)) 1 2 := ⟨⟨lg_m 375 (by decide +kernel) rfl, lg_m 378 (by decide +kernel) rfl, lg_m 70 (by decide +kernel) rfl, by decide +kernel, by decide +kernel, by decide +kernel⟩, lg_m 376 (by decide +kernel) rfl, lg_m 377 (by decide +kernel) rfl, _, _, rfl⟩
theorem mkX8_96 : MKV RX8 96 yX2_saidAt cX2_saidAt 2 (some (.int)) 1 2 := ⟨⟨lg_m 379 (by decide +kernel) rfl, lg_m 382 (by decide +kernel) rfl, lg_m 70 (by decide +kernel) rfl, by decide +kernel, by decide +kernel, by decide +kernel⟩, lg_m 380 (by decide +kernel) rfl, lg_m 381 (by decide +kernel) rfl, _, _, rfl⟩
theorem mkX2_62 : MKV RX2 62 yX2_tellsAt cX2_tellsAt 3 (some (.int)) 1 2 := ⟨⟨lg_m 383 (by decide +kernel) rfl, lg_m 386 (by decide +kernel) rfl, lg_m 70 (by decide +kernel) rfl, by decide +kernel, by decide +kernel, by decide +kernel⟩, lg_m 385 (by decide +kernel) rfl, lg_m 1 (by decide +kernel) rfl, _, _, rfl⟩
theorem mkX2_66 : MKV RX2 66 yX0_gives cX0_gives 7 (some (.int)) 3 0 := ⟨⟨lg_m 387 (by decide +kernel) rfl, lg_m 390 (by decide +kernel) rfl, lg_m 67 (by decide +kernel) rfl, by decide +kernel, by decide +kernel, by decide +kernel⟩, lg_m 388 (by decide +kernel) rfl, lg_m 389 (by decide +kernel) rfl, _, _, rfl⟩
theorem mkX0_38 : MKS RX0 38 yX0_worth cX0_worth 4 (some (.int)) 4 := ⟨⟨lg_m 391 (by decide +kernel) rfl, lg_m 393 (by decide +kernel) rfl, lg_m 67 (by decide +kernel) rfl, by decide +kernel, by decide +kernel, by decide +kernel⟩, lg_m 392 (by decide +kernel) rfl⟩
theorem mkX0_42 : MKS RX0 42 yX0_combine cX0_combine 3 (some (.int)) 3 := ⟨⟨lg_m 394 (by decide +kernel) rfl, lg_m 396 (by decide +kernel) rfl, lg_m 67 (by decide +kernel) rfl, by decide +kernel, by decide +kernel, by decide +kernel⟩, lg_m 395 (by decide +kernel) rfl⟩
theorem mkX0_46 : MKS RX0 46 yJ9_min_7cf53 cJ9_min_7cf53 2 (some (.int)) 2 := ⟨⟨lg_m 397 (by decide +kernel) rfl, lg_m 399 (by decide +kernel) rfl, lg_m 69 (by decide +kernel) rfl, by decide +kernel, by decide +kernel, by decide +kernel⟩, lg_m 398 (by decide +kernel) rfl⟩
theorem mkX0_52 : MKS RX0 52 yJ9_max_7cf53 cJ9_max_7cf53 2 (some (.int)) 2 := ⟨⟨lg_m 400 (by decide +kernel) rfl, lg_m 111 (by decide +kernel) rfl, lg_m 69 (by decide +kernel) rfl, by decide +kernel, by decide +kernel, by decide +kernel⟩, lg_m 110 (by decide +kernel) rfl⟩
theorem mkX0_55 : MKS RX0 55 yJ9_floorMod_7cf53 cJ9_floorMod_7cf53 3 (some (.int)) 2 := ⟨⟨lg_m 401 (by decide +kernel) rfl, lg_m 403 (by decide +kernel) rfl, lg_m 69 (by decide +kernel) rfl, by decide +kernel, by decide +kernel, by decide +kernel⟩, lg_m 402 (by decide +kernel) rfl⟩
theorem mkX8_99 : MKV RX8 99 yX2_behindAt cX2_behindAt 2 (some (.int)) 1 2 := ⟨⟨lg_m 404 (by decide +kernel) rfl, lg_m 407 (by decide +kernel) rfl, lg_m 70 (by decide +kernel) rfl, by decide +kernel, by decide +kernel, by decide +kernel⟩, lg_m 405 (by decide +kernel) rfl, lg_m 406 (by decide +kernel) rfl, _, _, rfl⟩
theorem mkX2_72 : MKV RX2 72 yX2_leavesAt cX2_leavesAt 6 (some (.int)) 1 2 := ⟨⟨lg_m 408 (by decide +kernel) rfl, lg_m 411 (by decide +kernel) rfl, lg_m 70 (by decide +kernel) rfl, by decide +kernel, by decide +kernel, by decide +kernel⟩, lg_m 410 (by decide +kernel) rfl, lg_m 2 (by decide +kernel) rfl, _, _, rfl⟩
theorem mkX8_102 : MKV RX8 102 yX2_bluntsAt cX2_bluntsAt 5 (some (.int)) 1 2 := ⟨⟨lg_m 412 (by decide +kernel) rfl, lg_m 415 (by decide +kernel) rfl, lg_m 70 (by decide +kernel) rfl, by decide +kernel, by decide +kernel, by decide +kernel⟩, lg_m 413 (by decide +kernel) rfl, lg_m 414 (by decide +kernel) rfl, _, _, rfl⟩
theorem mkL_23 : MKV RL 23 yX8_become cX8_become 4 (some (.int)) 2 8 := ⟨⟨lg_m 416 (by decide +kernel) rfl, lg_m 419 (by decide +kernel) rfl, lg_m 65 (by decide +kernel) rfl, by decide +kernel, by decide +kernel, by decide +kernel⟩, lg_m 417 (by decide +kernel) rfl, lg_m 418 (by decide +kernel) rfl, _, _, rfl⟩
theorem mkL_27 : MKV RL 27 yX8_as cX8_as 3 (some (.int)) 2 8 := ⟨⟨lg_m 420 (by decide +kernel) rfl, lg_m 423 (by decide +kernel) rfl, lg_m 65 (by decide +kernel) rfl, by decide +kernel, by decide +kernel, by decide +kernel⟩, lg_m 421 (by decide +kernel) rfl, lg_m 422 (by decide +kernel) rfl, _, _, rfl⟩
theorem mkX8_105 : MKS RX8 105 yX8_isOfKind cX8_isOfKind 3 (some (.boolean)) 2 := ⟨⟨lg_m 424 (by decide +kernel) rfl, lg_m 426 (by decide +kernel) rfl, lg_m 65 (by decide +kernel) rfl, by decide +kernel, by decide +kernel, by decide +kernel⟩, lg_m 425 (by decide +kernel) rfl⟩
theorem mkL_31 : MKV RL 31 yX8_past cX8_past 4 (some (.int)) 2 8 := ⟨⟨lg_m 429 (by decide +kernel) rfl, lg_m 432 (by decide +kernel) rfl, lg_m 65 (by decide +kernel) rfl, by decide +kernel, by decide +kernel, by decide +kernel⟩, lg_m 430 (by decide +kernel) rfl, lg_m 431 (by decide +kernel) rfl, _, _, rfl⟩
theorem mkX8_109 : MKV RX8 109 yX2_putPast cX2_putPast 3 none 2 2 := ⟨⟨lg_m 433 (by decide +kernel) rfl, lg_m 436 (by decide +kernel) rfl, lg_m 70 (by decide +kernel) rfl, by decide +kernel, by decide +kernel, by decide +kernel⟩, lg_m 434 (by decide +kernel) rfl, lg_m 435 (by decide +kernel) rfl, _, _, rfl⟩
theorem mkL_35 : MKV RL 35 yX8_goes cX8_goes 3 (some (.int)) 1 8 := ⟨⟨lg_m 437 (by decide +kernel) rfl, lg_m 440 (by decide +kernel) rfl, lg_m 65 (by decide +kernel) rfl, by decide +kernel, by decide +kernel, by decide +kernel⟩, lg_m 438 (by decide +kernel) rfl, lg_m 439 (by decide +kernel) rfl, _, _, rfl⟩
theorem mkL_39 : MKV RL 39 yX8_set cX8_set 3 (some (.int)) 2 8 := ⟨⟨lg_m 441 (by decide +kernel) rfl, lg_m 444 (by decide +kernel) rfl, lg_m 65 (by decide +kernel) rfl, by decide +kernel, by decide +kernel, by decide +kernel⟩, lg_m 442 (by decide +kernel) rfl, lg_m 443 (by decide +kernel) rfl, _, _, rfl⟩
theorem mkX8_116 : MKV RX8 116 yX8_becomeView cX8_becomeView 3 (some (.int)) 1 8 := ⟨⟨lg_m 445 (by decide +kernel) rfl, lg_m 448 (by decide +kernel) rfl, lg_m 65 (by decide +kernel) rfl, by decide +kernel, by decide +kernel, by decide +kernel⟩, lg_m 447 (by decide +kernel) rfl, lg_m 3 (by decide +kernel) rfl, _, _, rfl⟩
theorem mkX8_119 : MKV RX8 119 yX8_becomeSharp cX8_becomeSharp 3 (some (.int)) 1 8 := ⟨⟨lg_m 449 (by decide +kernel) rfl, lg_m 452 (by decide +kernel) rfl, lg_m 65 (by decide +kernel) rfl, by decide +kernel, by decide +kernel, by decide +kernel⟩, lg_m 451 (by decide +kernel) rfl, lg_m 4 (by decide +kernel) rfl, _, _, rfl⟩
theorem mkX8_122 : MKV RX8 122 yX8_becomeSteel cX8_becomeSteel 3 (some (.int)) 1 8 := ⟨⟨lg_m 453 (by decide +kernel) rfl, lg_m 456 (by decide +kernel) rfl, lg_m 65 (by decide +kernel) rfl, by decide +kernel, by decide +kernel, by decide +kernel⟩, lg_m 455 (by decide +kernel) rfl, lg_m 5 (by decide +kernel) rfl, _, _, rfl⟩
theorem mkL_43 : MKV RL 43 yX8_hears cX8_hears 4 (some (.int)) 2 8 := ⟨⟨lg_m 457 (by decide +kernel) rfl, lg_m 460 (by decide +kernel) rfl, lg_m 65 (by decide +kernel) rfl, by decide +kernel, by decide +kernel, by decide +kernel⟩, lg_m 458 (by decide +kernel) rfl, lg_m 459 (by decide +kernel) rfl, _, _, rfl⟩
theorem mkL_49 : MKV RL 49 yX8_feed cX8_feed 5 (some (.int)) 2 8 := ⟨⟨lg_m 461 (by decide +kernel) rfl, lg_m 464 (by decide +kernel) rfl, lg_m 65 (by decide +kernel) rfl, by decide +kernel, by decide +kernel, by decide +kernel⟩, lg_m 462 (by decide +kernel) rfl, lg_m 463 (by decide +kernel) rfl, _, _, rfl⟩
theorem mkX8_134 : MKV RX8 134 yX3_add cX3_add 2 none 1 3 := ⟨⟨lg_m 465 (by decide +kernel) rfl, lg_m 468 (by decide +kernel) rfl, lg_m 68 (by decide +kernel) rfl, by decide +kernel, by decide +kernel, by decide +kernel⟩, lg_m 466 (by decide +kernel) rfl, lg_m 467 (by decide +kernel) rfl, _, _, rfl⟩
theorem mkL_54 : MKV RL 54 yX8_text cX8_text 3 (some (.int)) 1 8 := ⟨⟨lg_m 469 (by decide +kernel) rfl, lg_m 472 (by decide +kernel) rfl, lg_m 65 (by decide +kernel) rfl, by decide +kernel, by decide +kernel, by decide +kernel⟩, lg_m 470 (by decide +kernel) rfl, lg_m 471 (by decide +kernel) rfl, _, _, rfl⟩
theorem mkX8_138 : MKS RX8 138 yX8_isUse cX8_isUse 1 (some (.boolean)) 1 := ⟨⟨lg_m 473 (by decide +kernel) rfl, lg_m 475 (by decide +kernel) rfl, lg_m 65 (by decide +kernel) rfl, by decide +kernel, by decide +kernel, by decide +kernel⟩, lg_m 474 (by decide +kernel) rfl⟩
theorem mkX8_141 : MKV RX8 141 yX1_read cX1_read 3 (some (.int)) 2 1 := ⟨⟨lg_m 476 (by decide +kernel) rfl, lg_m 479 (by decide +kernel) rfl, lg_m 71 (by decide +kernel) rfl, by decide +kernel, by decide +kernel, by decide +kernel⟩, lg_m 477 (by decide +kernel) rfl, lg_m 478 (by decide +kernel) rfl, _, _, rfl⟩
theorem mkX1_40 : MKV RX1 40 yX3_empty cX3_empty 1 none 0 3 := ⟨⟨lg_m 482 (by decide +kernel) rfl, lg_m 485 (by decide +kernel) rfl, lg_m 68 (by decide +kernel) rfl, by decide +kernel, by decide +kernel, by decide +kernel⟩, lg_m 483 (by decide +kernel) rfl, lg_m 484 (by decide +kernel) rfl, _, _, rfl⟩
theorem mkX1_43 : MKV RX1 43 yX1_readT cX1_readT 3 none 1 1 := ⟨⟨lg_m 486 (by decide +kernel) rfl, lg_m 489 (by decide +kernel) rfl, lg_m 71 (by decide +kernel) rfl, by decide +kernel, by decide +kernel, by decide +kernel⟩, lg_m 488 (by decide +kernel) rfl, lg_m 6 (by decide +kernel) rfl, _, _, rfl⟩
theorem mkX1_61 : MKV RX1 61 yX1_readA cX1_readA 3 none 1 1 := ⟨⟨lg_m 490 (by decide +kernel) rfl, lg_m 493 (by decide +kernel) rfl, lg_m 71 (by decide +kernel) rfl, by decide +kernel, by decide +kernel, by decide +kernel⟩, lg_m 492 (by decide +kernel) rfl, lg_m 7 (by decide +kernel) rfl, _, _, rfl⟩
theorem mkX1_71 : MKV RX1 71 yX1_readB cX1_readB 3 none 1 1 := ⟨⟨lg_m 494 (by decide +kernel) rfl, lg_m 497 (by decide +kernel) rfl, lg_m 71 (by decide +kernel) rfl, by decide +kernel, by decide +kernel, by decide +kernel⟩, lg_m 496 (by decide +kernel) rfl, lg_m 8 (by decide +kernel) rfl, _, _, rfl⟩
theorem mkX1_74 : MKV RX1 74 yX1_readS cX1_readS 4 none 1 1 := ⟨⟨lg_m 498 (by decide +kernel) rfl, lg_m 501 (by decide +kernel) rfl, lg_m 71 (by decide +kernel) rfl, by decide +kernel, by decide +kernel, by decide +kernel⟩, lg_m 500 (by decide +kernel) rfl, lg_m 9 (by decide +kernel) rfl, _, _, rfl⟩
theorem mkX1_77 : MKV RX1 77 yX1_readP cX1_readP 4 none 1 1 := ⟨⟨lg_m 502 (by decide +kernel) rfl, lg_m 505 (by decide +kernel) rfl, lg_m 71 (by decide +kernel) rfl, by decide +kernel, by decide +kernel, by decide +kernel⟩, lg_m 504 (by decide +kernel) rfl, lg_m 10 (by decide +kernel) rfl, _, _, rfl⟩
theorem mkX1_80 : MKV RX1 80 yX1_readQ cX1_readQ 2 none 1 1 := ⟨⟨lg_m 506 (by decide +kernel) rfl, lg_m 509 (by decide +kernel) rfl, lg_m 71 (by decide +kernel) rfl, by decide +kernel, by decide +kernel, by decide +kernel⟩, lg_m 508 (by decide +kernel) rfl, lg_m 11 (by decide +kernel) rfl, _, _, rfl⟩
theorem mkX1_83 : MKV RX1 83 yX1_isDigit cX1_isDigit 1 (some (.boolean)) 0 1 := ⟨⟨lg_m 510 (by decide +kernel) rfl, lg_m 513 (by decide +kernel) rfl, lg_m 71 (by decide +kernel) rfl, by decide +kernel, by decide +kernel, by decide +kernel⟩, lg_m 512 (by decide +kernel) rfl, lg_m 12 (by decide +kernel) rfl, _, _, rfl⟩
theorem mkX1_46 : MKV RX1 46 yX1_next cX1_next 1 (some (.int)) 0 1 := ⟨⟨lg_m 514 (by decide +kernel) rfl, lg_m 517 (by decide +kernel) rfl, lg_m 71 (by decide +kernel) rfl, by decide +kernel, by decide +kernel, by decide +kernel⟩, lg_m 516 (by decide +kernel) rfl, lg_m 13 (by decide +kernel) rfl, _, _, rfl⟩
theorem mkX1_53 : MKV RX1 53 yX3_has cX3_has 2 (some (.boolean)) 1 3 := ⟨⟨lg_m 518 (by decide +kernel) rfl, lg_m 521 (by decide +kernel) rfl, lg_m 68 (by decide +kernel) rfl, by decide +kernel, by decide +kernel, by decide +kernel⟩, lg_m 519 (by decide +kernel) rfl, lg_m 520 (by decide +kernel) rfl, _, _, rfl⟩
theorem mkX1_87 : MKV RX1 87 yX1_readNumber cX1_readNumber 3 none 0 1 := ⟨⟨lg_m 522 (by decide +kernel) rfl, lg_m 525 (by decide +kernel) rfl, lg_m 71 (by decide +kernel) rfl, by decide +kernel, by decide +kernel, by decide +kernel⟩, lg_m 524 (by decide +kernel) rfl, lg_m 14 (by decide +kernel) rfl, _, _, rfl⟩
theorem mkX1_68 : MKV RX1 68 yX3_add cX3_add 2 none 1 3 := ⟨⟨lg_m 526 (by decide +kernel) rfl, lg_m 468 (by decide +kernel) rfl, lg_m 68 (by decide +kernel) rfl, by decide +kernel, by decide +kernel, by decide +kernel⟩, lg_m 466 (by decide +kernel) rfl, lg_m 467 (by decide +kernel) rfl, _, _, rfl⟩
theorem mkX1_90 : MKV RX1 90 yX1_nameNext cX1_nameNext 1 (some (.int)) 0 1 := ⟨⟨lg_m 527 (by decide +kernel) rfl, lg_m 530 (by decide +kernel) rfl, lg_m 71 (by decide +kernel) rfl, by decide +kernel, by decide +kernel, by decide +kernel⟩, lg_m 529 (by decide +kernel) rfl, lg_m 15 (by decide +kernel) rfl, _, _, rfl⟩
theorem mkJ0_637 : MKS RJ0 637 yJ1_indexOf_4cfef cJ1_indexOf_4cfef 4 (some (.int)) 4 := ⟨⟨lg_m 553 (by decide +kernel) rfl, lg_m 555 (by decide +kernel) rfl, lg_m 77 (by decide +kernel) rfl, by decide +kernel, by decide +kernel, by decide +kernel⟩, lg_m 554 (by decide +kernel) rfl⟩
theorem mkJ1_88 : MKS RJ1 88 yJ1_canEncode_9a6ad cJ1_canEncode_9a6ad 1 (some (.boolean)) 1 := ⟨⟨lg_m 556 (by decide +kernel) rfl, lg_m 558 (by decide +kernel) rfl, lg_m 77 (by decide +kernel) rfl, by decide +kernel, by decide +kernel, by decide +kernel⟩, lg_m 557 (by decide +kernel) rfl⟩
theorem mkJ1_92 : MKS RJ1 92 yJ9_max_7cf53 cJ9_max_7cf53 2 (some (.int)) 2 := ⟨⟨lg_m 559 (by decide +kernel) rfl, lg_m 111 (by decide +kernel) rfl, lg_m 69 (by decide +kernel) rfl, by decide +kernel, by decide +kernel, by decide +kernel⟩, lg_m 110 (by decide +kernel) rfl⟩
theorem mkJ1_38 : MKS RJ1 38 yJ9_min_7cf53 cJ9_min_7cf53 2 (some (.int)) 2 := ⟨⟨lg_m 560 (by decide +kernel) rfl, lg_m 399 (by decide +kernel) rfl, lg_m 69 (by decide +kernel) rfl, by decide +kernel, by decide +kernel, by decide +kernel⟩, lg_m 398 (by decide +kernel) rfl⟩
theorem mkJ1_95 : MKS RJ1 95 yJ1_indexOfChar_4cfef cJ1_indexOfChar_4cfef 6 (some (.int)) 4 := ⟨⟨lg_m 561 (by decide +kernel) rfl, lg_m 563 (by decide +kernel) rfl, lg_m 77 (by decide +kernel) rfl, by decide +kernel, by decide +kernel, by decide +kernel⟩, lg_m 562 (by decide +kernel) rfl⟩
theorem mkJ0_640 : MKS RJ0 640 yJ2_indexOf_4cfef cJ2_indexOf_4cfef 4 (some (.int)) 4 := ⟨⟨lg_m 564 (by decide +kernel) rfl, lg_m 566 (by decide +kernel) rfl, lg_m 78 (by decide +kernel) rfl, by decide +kernel, by decide +kernel, by decide +kernel⟩, lg_m 565 (by decide +kernel) rfl⟩
theorem mkJ2_224 : MKS RJ2 224 yJ9_max_7cf53 cJ9_max_7cf53 2 (some (.int)) 2 := ⟨⟨lg_m 567 (by decide +kernel) rfl, lg_m 111 (by decide +kernel) rfl, lg_m 69 (by decide +kernel) rfl, by decide +kernel, by decide +kernel, by decide +kernel⟩, lg_m 110 (by decide +kernel) rfl⟩
theorem mkJ2_183 : MKS RJ2 183 yJ9_min_7cf53 cJ9_min_7cf53 2 (some (.int)) 2 := ⟨⟨lg_m 568 (by decide +kernel) rfl, lg_m 399 (by decide +kernel) rfl, lg_m 69 (by decide +kernel) rfl, by decide +kernel, by decide +kernel, by decide +kernel⟩, lg_m 398 (by decide +kernel) rfl⟩
theorem mkJ2_228 : MKS RJ2 228 yJ2_indexOfChar_4cfef cJ2_indexOfChar_4cfef 4 (some (.int)) 4 := ⟨⟨lg_m 570 (by decide +kernel) rfl, lg_m 572 (by decide +kernel) rfl, lg_m 78 (by decide +kernel) rfl, by decide +kernel, by decide +kernel, by decide +kernel⟩, lg_m 571 (by decide +kernel) rfl⟩
theorem mkJ2_96 : MKS RJ2 96 yJ2_checkBoundsBeginEnd_d044e cJ2_checkBoundsBeginEnd_d044e 3 none 3 := ⟨⟨lg_m 573 (by decide +kernel) rfl, lg_m 575 (by decide +kernel) rfl, lg_m 78 (by decide +kernel) rfl, by decide +kernel, by decide +kernel, by decide +kernel⟩, lg_m 574 (by decide +kernel) rfl⟩
theorem mkJ2_48 : MKS RJ2 48 yJ2_length_9d52b cJ2_length_9d52b 1 (some (.int)) 1 := ⟨⟨lg_m 576 (by decide +kernel) rfl, lg_m 578 (by decide +kernel) rfl, lg_m 78 (by decide +kernel) rfl, by decide +kernel, by decide +kernel, by decide +kernel⟩, lg_m 577 (by decide +kernel) rfl⟩
theorem mkJ2_241 : MKS RJ2 241 yJ0_checkBoundsBeginEnd_23922 cJ0_checkBoundsBeginEnd_23922 3 none 3 := ⟨⟨lg_m 579 (by decide +kernel) rfl, lg_m 581 (by decide +kernel) rfl, lg_m 76 (by decide +kernel) rfl, by decide +kernel, by decide +kernel, by decide +kernel⟩, lg_m 580 (by decide +kernel) rfl⟩
theorem mkJ0_1062 : MKS RJ0 1062 yJ3_checkFromToIndex_8c36e cJ3_checkFromToIndex_8c36e 4 (some (.int)) 4 := ⟨⟨lg_m 584 (by decide +kernel) rfl, lg_m 586 (by decide +kernel) rfl, lg_m 79 (by decide +kernel) rfl, by decide +kernel, by decide +kernel, by decide +kernel⟩, lg_m 585 (by decide +kernel) rfl⟩
theorem mkJ2_244 : MKS RJ2 244 yJ2_indexOfCharUnsafe_4cfef cJ2_indexOfCharUnsafe_4cfef 5 (some (.int)) 4 := ⟨⟨lg_m 587 (by decide +kernel) rfl, lg_m 589 (by decide +kernel) rfl, lg_m 78 (by decide +kernel) rfl, by decide +kernel, by decide +kernel, by decide +kernel⟩, lg_m 588 (by decide +kernel) rfl⟩
theorem mkJ2_71 : MKS RJ2 71 yJ2_getChar_3b067 cJ2_getChar_3b067 2 (some (.char)) 2 := ⟨⟨lg_m 590 (by decide +kernel) rfl, lg_m 592 (by decide +kernel) rfl, lg_m 78 (by decide +kernel) rfl, by decide +kernel, by decide +kernel, by decide +kernel⟩, lg_m 591 (by decide +kernel) rfl⟩
theorem mkJ2_232 : MKS RJ2 232 yJ2_indexOfSupplementary_4cfef cJ2_indexOfSupplementary_4cfef 7 (some (.int)) 4 := ⟨⟨lg_m 599 (by decide +kernel) rfl, lg_m 601 (by decide +kernel) rfl, lg_m 78 (by decide +kernel) rfl, by decide +kernel, by decide +kernel, by decide +kernel⟩, lg_m 600 (by decide +kernel) rfl⟩
theorem mkJ2_164 : MKS RJ2 164 yJ11_isValidCodePoint_9a6ad cJ11_isValidCodePoint_9a6ad 2 (some (.boolean)) 1 := ⟨⟨lg_m 602 (by decide +kernel) rfl, lg_m 604 (by decide +kernel) rfl, lg_m 80 (by decide +kernel) rfl, by decide +kernel, by decide +kernel, by decide +kernel⟩, lg_m 603 (by decide +kernel) rfl⟩
theorem mkJ2_157 : MKS RJ2 157 yJ11_highSurrogate_5068e cJ11_highSurrogate_5068e 1 (some (.char)) 1 := ⟨⟨lg_m 605 (by decide +kernel) rfl, lg_m 607 (by decide +kernel) rfl, lg_m 80 (by decide +kernel) rfl, by decide +kernel, by decide +kernel, by decide +kernel⟩, lg_m 606 (by decide +kernel) rfl⟩
theorem mkJ2_161 : MKS RJ2 161 yJ11_lowSurrogate_5068e cJ11_lowSurrogate_5068e 1 (some (.char)) 1 := ⟨⟨lg_m 609 (by decide +kernel) rfl, lg_m 611 (by decide +kernel) rfl, lg_m 80 (by decide +kernel) rfl, by decide +kernel, by decide +kernel, by decide +kernel⟩, lg_m 610 (by decide +kernel) rfl⟩
theorem mkX1_64 : MKV RX1 64 yX1_isNext cX1_isNext 2 (some (.boolean)) 1 1 := ⟨⟨lg_m 613 (by decide +kernel) rfl, lg_m 616 (by decide +kernel) rfl, lg_m 71 (by decide +kernel) rfl, by decide +kernel, by decide +kernel, by decide +kernel⟩, lg_m 615 (by decide +kernel) rfl, lg_m 16 (by decide +kernel) rfl, _, _, rfl⟩
theorem mkX1_95 : MKV RX1 95 yX1_readClosing cX1_readClosing 1 none 0 1 := ⟨⟨lg_m 617 (by decide +kernel) rfl, lg_m 620 (by decide +kernel) rfl, lg_m 71 (by decide +kernel) rfl, by decide +kernel, by decide +kernel, by decide +kernel⟩, lg_m 619 (by decide +kernel) rfl, lg_m 17 (by decide +kernel) rfl, _, _, rfl⟩
theorem mkX1_50 : MKV RX1 50 yX1_fail cX1_fail 1 none 0 1 := ⟨⟨lg_m 621 (by decide +kernel) rfl, lg_m 624 (by decide +kernel) rfl, lg_m 71 (by decide +kernel) rfl, by decide +kernel, by decide +kernel, by decide +kernel⟩, lg_m 623 (by decide +kernel) rfl, lg_m 18 (by decide +kernel) rfl, _, _, rfl⟩
theorem mkX8_145 : MKV RX8 145 yX3_empty cX3_empty 1 none 0 3 := ⟨⟨lg_m 625 (by decide +kernel) rfl, lg_m 485 (by decide +kernel) rfl, lg_m 68 (by decide +kernel) rfl, by decide +kernel, by decide +kernel, by decide +kernel⟩, lg_m 483 (by decide +kernel) rfl, lg_m 484 (by decide +kernel) rfl, _, _, rfl⟩
theorem mkX8_148 : MKV RX8 148 yX5_lawOf cX5_lawOf 2 (some ((.object "LoanedRound$Law"))) 1 5 := ⟨⟨lg_m 626 (by decide +kernel) rfl, lg_m 629 (by decide +kernel) rfl, lg_m 66 (by decide +kernel) rfl, by decide +kernel, by decide +kernel, by decide +kernel⟩, lg_m 627 (by decide +kernel) rfl, lg_m 628 (by decide +kernel) rfl, _, _, rfl⟩
theorem mkX8_155 : MKV RX8 155 yX0_takeSteps cX0_takeSteps 2 none 1 0 := ⟨⟨lg_m 630 (by decide +kernel) rfl, lg_m 633 (by decide +kernel) rfl, lg_m 67 (by decide +kernel) rfl, by decide +kernel, by decide +kernel, by decide +kernel⟩, lg_m 631 (by decide +kernel) rfl, lg_m 632 (by decide +kernel) rfl, _, _, rfl⟩
theorem mkX0_28 : MKV RX0 28 yX3_takeOver cX3_takeOver 3 none 1 3 := ⟨⟨lg_m 634 (by decide +kernel) rfl, lg_m 637 (by decide +kernel) rfl, lg_m 68 (by decide +kernel) rfl, by decide +kernel, by decide +kernel, by decide +kernel⟩, lg_m 635 (by decide +kernel) rfl, lg_m 636 (by decide +kernel) rfl, _, _, rfl⟩
theorem mkX3_23 : MKV RX3 23 yX3_empty cX3_empty 1 none 0 3 := ⟨⟨lg_m 638 (by decide +kernel) rfl, lg_m 485 (by decide +kernel) rfl, lg_m 68 (by decide +kernel) rfl, by decide +kernel, by decide +kernel, by decide +kernel⟩, lg_m 483 (by decide +kernel) rfl, lg_m 484 (by decide +kernel) rfl, _, _, rfl⟩
theorem mkX3_26 : MKV RX3 26 yX3_add cX3_add 2 none 1 3 := ⟨⟨lg_m 639 (by decide +kernel) rfl, lg_m 468 (by decide +kernel) rfl, lg_m 68 (by decide +kernel) rfl, by decide +kernel, by decide +kernel, by decide +kernel⟩, lg_m 466 (by decide +kernel) rfl, lg_m 467 (by decide +kernel) rfl, _, _, rfl⟩
theorem mkL_58 : MKV RL 58 yX8_untell cX8_untell 4 (some (.int)) 1 8 := ⟨⟨lg_m 640 (by decide +kernel) rfl, lg_m 643 (by decide +kernel) rfl, lg_m 65 (by decide +kernel) rfl, by decide +kernel, by decide +kernel, by decide +kernel⟩, lg_m 641 (by decide +kernel) rfl, lg_m 642 (by decide +kernel) rfl, _, _, rfl⟩
theorem mkL_62 : MKV RL 62 yX8_law cX8_law 5 (some (.int)) 4 8 := ⟨⟨lg_m 644 (by decide +kernel) rfl, lg_m 647 (by decide +kernel) rfl, lg_m 65 (by decide +kernel) rfl, by decide +kernel, by decide +kernel, by decide +kernel⟩, lg_m 645 (by decide +kernel) rfl, lg_m 646 (by decide +kernel) rfl, _, _, rfl⟩
theorem mkX8_162 : MKV RX8 162 yX0_gives cX0_gives 7 (some (.int)) 3 0 := ⟨⟨lg_m 648 (by decide +kernel) rfl, lg_m 390 (by decide +kernel) rfl, lg_m 67 (by decide +kernel) rfl, by decide +kernel, by decide +kernel, by decide +kernel⟩, lg_m 388 (by decide +kernel) rfl, lg_m 389 (by decide +kernel) rfl, _, _, rfl⟩
theorem mkL_67 : MKV RL 67 yX8_days cX8_days 2 (some (.int)) 1 8 := ⟨⟨lg_m 649 (by decide +kernel) rfl, lg_m 652 (by decide +kernel) rfl, lg_m 65 (by decide +kernel) rfl, by decide +kernel, by decide +kernel, by decide +kernel⟩, lg_m 650 (by decide +kernel) rfl, lg_m 651 (by decide +kernel) rfl, _, _, rfl⟩
theorem mkX8_169 : MKV RX8 169 yX2_passDays cX2_passDays 3 none 1 2 := ⟨⟨lg_m 653 (by decide +kernel) rfl, lg_m 656 (by decide +kernel) rfl, lg_m 70 (by decide +kernel) rfl, by decide +kernel, by decide +kernel, by decide +kernel⟩, lg_m 654 (by decide +kernel) rfl, lg_m 655 (by decide +kernel) rfl, _, _, rfl⟩
theorem mkX2_75 : MKV RX2 75 yX2_hear cX2_hear 1 none 0 2 := ⟨⟨lg_m 657 (by decide +kernel) rfl, lg_m 660 (by decide +kernel) rfl, lg_m 70 (by decide +kernel) rfl, by decide +kernel, by decide +kernel, by decide +kernel⟩, lg_m 658 (by decide +kernel) rfl, lg_m 659 (by decide +kernel) rfl, _, _, rfl⟩
theorem mkX2_81 : MKV RX2 81 yX2_has cX2_has 2 (some (.boolean)) 1 2 := ⟨⟨lg_m 661 (by decide +kernel) rfl, lg_m 374 (by decide +kernel) rfl, lg_m 70 (by decide +kernel) rfl, by decide +kernel, by decide +kernel, by decide +kernel⟩, lg_m 372 (by decide +kernel) rfl, lg_m 373 (by decide +kernel) rfl, _, _, rfl⟩
theorem mkX2_85 : MKV RX2 85 yX2_saidAt cX2_saidAt 2 (some (.int)) 1 2 := ⟨⟨lg_m 662 (by decide +kernel) rfl, lg_m 382 (by decide +kernel) rfl, lg_m 70 (by decide +kernel) rfl, by decide +kernel, by decide +kernel, by decide +kernel⟩, lg_m 380 (by decide +kernel) rfl, lg_m 381 (by decide +kernel) rfl, _, _, rfl⟩
theorem mkX2_88 : MKS RX2 88 yJ9_min_7cf53 cJ9_min_7cf53 2 (some (.int)) 2 := ⟨⟨lg_m 663 (by decide +kernel) rfl, lg_m 399 (by decide +kernel) rfl, lg_m 69 (by decide +kernel) rfl, by decide +kernel, by decide +kernel, by decide +kernel⟩, lg_m 398 (by decide +kernel) rfl⟩
theorem mkX2_78 : MKV RX2 78 yX2_carryOn cX2_carryOn 2 none 0 2 := ⟨⟨lg_m 664 (by decide +kernel) rfl, lg_m 667 (by decide +kernel) rfl, lg_m 70 (by decide +kernel) rfl, by decide +kernel, by decide +kernel, by decide +kernel⟩, lg_m 665 (by decide +kernel) rfl, lg_m 666 (by decide +kernel) rfl, _, _, rfl⟩
theorem mkX2_94 : MKV RX2 94 yX2_behindAt cX2_behindAt 2 (some (.int)) 1 2 := ⟨⟨lg_m 668 (by decide +kernel) rfl, lg_m 407 (by decide +kernel) rfl, lg_m 70 (by decide +kernel) rfl, by decide +kernel, by decide +kernel, by decide +kernel⟩, lg_m 405 (by decide +kernel) rfl, lg_m 406 (by decide +kernel) rfl, _, _, rfl⟩
theorem mkX2_97 : MKV RX2 97 yX2_bluntsAt cX2_bluntsAt 5 (some (.int)) 1 2 := ⟨⟨lg_m 669 (by decide +kernel) rfl, lg_m 415 (by decide +kernel) rfl, lg_m 70 (by decide +kernel) rfl, by decide +kernel, by decide +kernel, by decide +kernel⟩, lg_m 413 (by decide +kernel) rfl, lg_m 414 (by decide +kernel) rfl, _, _, rfl⟩
theorem mkX2_100 : MKS RX2 100 yJ9_max_7cf53 cJ9_max_7cf53 2 (some (.int)) 2 := ⟨⟨lg_m 670 (by decide +kernel) rfl, lg_m 111 (by decide +kernel) rfl, lg_m 69 (by decide +kernel) rfl, by decide +kernel, by decide +kernel, by decide +kernel⟩, lg_m 110 (by decide +kernel) rfl⟩
theorem mkX2_103 : MKV RX2 103 yX2_nextPlace cX2_nextPlace 3 (some (.int)) 0 2 := ⟨⟨lg_m 671 (by decide +kernel) rfl, lg_m 674 (by decide +kernel) rfl, lg_m 70 (by decide +kernel) rfl, by decide +kernel, by decide +kernel, by decide +kernel⟩, lg_m 673 (by decide +kernel) rfl, lg_m 19 (by decide +kernel) rfl, _, _, rfl⟩
theorem mkX2_107 : MKV RX2 107 yX2_pastAt cX2_pastAt 2 (some (.int)) 1 2 := ⟨⟨lg_m 675 (by decide +kernel) rfl, lg_m 378 (by decide +kernel) rfl, lg_m 70 (by decide +kernel) rfl, by decide +kernel, by decide +kernel, by decide +kernel⟩, lg_m 376 (by decide +kernel) rfl, lg_m 377 (by decide +kernel) rfl, _, _, rfl⟩
theorem mkL_71 : MKV RL 71 yX8_loose cX8_loose 3 (some (.int)) 1 8 := ⟨⟨lg_m 676 (by decide +kernel) rfl, lg_m 679 (by decide +kernel) rfl, lg_m 65 (by decide +kernel) rfl, by decide +kernel, by decide +kernel, by decide +kernel⟩, lg_m 677 (by decide +kernel) rfl, lg_m 678 (by decide +kernel) rfl, _, _, rfl⟩
theorem mkX8_175 : MKV RX8 175 yX2_drawPlace cX2_drawPlace 1 none 0 2 := ⟨⟨lg_m 680 (by decide +kernel) rfl, lg_m 683 (by decide +kernel) rfl, lg_m 70 (by decide +kernel) rfl, by decide +kernel, by decide +kernel, by decide +kernel⟩, lg_m 681 (by decide +kernel) rfl, lg_m 682 (by decide +kernel) rfl, _, _, rfl⟩
theorem mkL_75 : MKV RL 75 yX8_day cX8_day 3 (some (.int)) 1 8 := ⟨⟨lg_m 685 (by decide +kernel) rfl, lg_m 688 (by decide +kernel) rfl, lg_m 65 (by decide +kernel) rfl, by decide +kernel, by decide +kernel, by decide +kernel⟩, lg_m 686 (by decide +kernel) rfl, lg_m 687 (by decide +kernel) rfl, _, _, rfl⟩
theorem mkL_79 : MKV RL 79 yX8_seed cX8_seed 3 (some (.int)) 1 8 := ⟨⟨lg_m 689 (by decide +kernel) rfl, lg_m 692 (by decide +kernel) rfl, lg_m 65 (by decide +kernel) rfl, by decide +kernel, by decide +kernel, by decide +kernel⟩, lg_m 690 (by decide +kernel) rfl, lg_m 691 (by decide +kernel) rfl, _, _, rfl⟩
theorem mkL_83 : MKV RL 83 yX8_then cX8_then 4 (some (.int)) 2 8 := ⟨⟨lg_m 693 (by decide +kernel) rfl, lg_m 696 (by decide +kernel) rfl, lg_m 65 (by decide +kernel) rfl, by decide +kernel, by decide +kernel, by decide +kernel⟩, lg_m 694 (by decide +kernel) rfl, lg_m 695 (by decide +kernel) rfl, _, _, rfl⟩
theorem mkX8_181 : MKV RX8 181 yX6_daysOn cX6_daysOn 2 (some ((.object "LoanedRound$Round"))) 1 6 := ⟨⟨lg_m 697 (by decide +kernel) rfl, lg_m 700 (by decide +kernel) rfl, lg_m 72 (by decide +kernel) rfl, by decide +kernel, by decide +kernel, by decide +kernel⟩, lg_m 698 (by decide +kernel) rfl, lg_m 699 (by decide +kernel) rfl, _, _, rfl⟩
theorem mkX6_37 : MKV RX6 37 yX2_takeOver cX2_takeOver 2 none 1 2 := ⟨⟨lg_m 701 (by decide +kernel) rfl, lg_m 704 (by decide +kernel) rfl, lg_m 70 (by decide +kernel) rfl, by decide +kernel, by decide +kernel, by decide +kernel⟩, lg_m 702 (by decide +kernel) rfl, lg_m 703 (by decide +kernel) rfl, _, _, rfl⟩
theorem mkX6_41 : MKV RX6 41 yX2_passDays cX2_passDays 3 none 1 2 := ⟨⟨lg_m 708 (by decide +kernel) rfl, lg_m 656 (by decide +kernel) rfl, lg_m 70 (by decide +kernel) rfl, by decide +kernel, by decide +kernel, by decide +kernel⟩, lg_m 654 (by decide +kernel) rfl, lg_m 655 (by decide +kernel) rfl, _, _, rfl⟩
theorem mkX8_188 : MKV RX8 188 yX2_heardTogether cX2_heardTogether 3 (some (.int)) 0 2 := ⟨⟨lg_m 709 (by decide +kernel) rfl, lg_m 712 (by decide +kernel) rfl, lg_m 70 (by decide +kernel) rfl, by decide +kernel, by decide +kernel, by decide +kernel⟩, lg_m 710 (by decide +kernel) rfl, lg_m 711 (by decide +kernel) rfl, _, _, rfl⟩
theorem mkL_87 : MKV RL 87 yX8_soonest cX8_soonest 4 (some (.int)) 2 8 := ⟨⟨lg_m 713 (by decide +kernel) rfl, lg_m 716 (by decide +kernel) rfl, lg_m 65 (by decide +kernel) rfl, by decide +kernel, by decide +kernel, by decide +kernel⟩, lg_m 714 (by decide +kernel) rfl, lg_m 715 (by decide +kernel) rfl, _, _, rfl⟩
theorem mkX8_192 : MKV RX8 192 yX6_daysUntil cX6_daysUntil 4 (some (.int)) 2 6 := ⟨⟨lg_m 717 (by decide +kernel) rfl, lg_m 720 (by decide +kernel) rfl, lg_m 72 (by decide +kernel) rfl, by decide +kernel, by decide +kernel, by decide +kernel⟩, lg_m 718 (by decide +kernel) rfl, lg_m 719 (by decide +kernel) rfl, _, _, rfl⟩
theorem mkX6_49 : MKV RX6 49 yX2_passDaysFor cX2_passDaysFor 4 none 2 2 := ⟨⟨lg_m 721 (by decide +kernel) rfl, lg_m 724 (by decide +kernel) rfl, lg_m 70 (by decide +kernel) rfl, by decide +kernel, by decide +kernel, by decide +kernel⟩, lg_m 722 (by decide +kernel) rfl, lg_m 723 (by decide +kernel) rfl, _, _, rfl⟩
theorem mkL_91 : MKV RL 91 yX8_startFor cX8_startFor 4 (some (.int)) 3 8 := ⟨⟨lg_m 725 (by decide +kernel) rfl, lg_m 728 (by decide +kernel) rfl, lg_m 65 (by decide +kernel) rfl, by decide +kernel, by decide +kernel, by decide +kernel⟩, lg_m 726 (by decide +kernel) rfl, lg_m 727 (by decide +kernel) rfl, _, _, rfl⟩
theorem mkX8_196 : MKV RX8 196 yX6_seekStart cX6_seekStart 4 none 2 6 := ⟨⟨lg_m 729 (by decide +kernel) rfl, lg_m 732 (by decide +kernel) rfl, lg_m 72 (by decide +kernel) rfl, by decide +kernel, by decide +kernel, by decide +kernel⟩, lg_m 730 (by decide +kernel) rfl, lg_m 731 (by decide +kernel) rfl, _, _, rfl⟩
theorem mkL_96 : MKV RL 96 yX8_swapFor cX8_swapFor 3 (some (.int)) 2 8 := ⟨⟨lg_m 733 (by decide +kernel) rfl, lg_m 736 (by decide +kernel) rfl, lg_m 65 (by decide +kernel) rfl, by decide +kernel, by decide +kernel, by decide +kernel⟩, lg_m 734 (by decide +kernel) rfl, lg_m 735 (by decide +kernel) rfl, _, _, rfl⟩
theorem mkX8_205 : MKV RX8 205 yX6_seekSwap cX6_seekSwap 5 none 1 6 := ⟨⟨lg_m 737 (by decide +kernel) rfl, lg_m 740 (by decide +kernel) rfl, lg_m 72 (by decide +kernel) rfl, by decide +kernel, by decide +kernel, by decide +kernel⟩, lg_m 738 (by decide +kernel) rfl, lg_m 739 (by decide +kernel) rfl, _, _, rfl⟩
theorem mkX6_59 : MKV RX6 59 yX2_heardTogether cX2_heardTogether 3 (some (.int)) 0 2 := ⟨⟨lg_m 741 (by decide +kernel) rfl, lg_m 712 (by decide +kernel) rfl, lg_m 70 (by decide +kernel) rfl, by decide +kernel, by decide +kernel, by decide +kernel⟩, lg_m 710 (by decide +kernel) rfl, lg_m 711 (by decide +kernel) rfl, _, _, rfl⟩
theorem mkX6_63 : MKV RX6 63 yX2_changePlaces cX2_changePlaces 4 none 2 2 := ⟨⟨lg_m 742 (by decide +kernel) rfl, lg_m 745 (by decide +kernel) rfl, lg_m 70 (by decide +kernel) rfl, by decide +kernel, by decide +kernel, by decide +kernel⟩, lg_m 743 (by decide +kernel) rfl, lg_m 744 (by decide +kernel) rfl, _, _, rfl⟩
theorem mkX2_123 : MKS RX2 123 yX2_changeNumbers cX2_changeNumbers 4 none 3 := ⟨⟨lg_m 746 (by decide +kernel) rfl, lg_m 748 (by decide +kernel) rfl, lg_m 70 (by decide +kernel) rfl, by decide +kernel, by decide +kernel, by decide +kernel⟩, lg_m 747 (by decide +kernel) rfl⟩
theorem mkX2_127 : MKV RX2 127 yX2_putPast cX2_putPast 3 none 2 2 := ⟨⟨lg_m 749 (by decide +kernel) rfl, lg_m 436 (by decide +kernel) rfl, lg_m 70 (by decide +kernel) rfl, by decide +kernel, by decide +kernel, by decide +kernel⟩, lg_m 434 (by decide +kernel) rfl, lg_m 435 (by decide +kernel) rfl, _, _, rfl⟩
theorem mkL_100 : MKV RL 100 yX8_spare cX8_spare 4 (some (.int)) 2 8 := ⟨⟨lg_m 750 (by decide +kernel) rfl, lg_m 753 (by decide +kernel) rfl, lg_m 65 (by decide +kernel) rfl, by decide +kernel, by decide +kernel, by decide +kernel⟩, lg_m 751 (by decide +kernel) rfl, lg_m 752 (by decide +kernel) rfl, _, _, rfl⟩
theorem mkX8_208 : MKV RX8 208 yX6_fewestPast cX6_fewestPast 6 (some (.int)) 2 6 := ⟨⟨lg_m 754 (by decide +kernel) rfl, lg_m 757 (by decide +kernel) rfl, lg_m 72 (by decide +kernel) rfl, by decide +kernel, by decide +kernel, by decide +kernel⟩, lg_m 755 (by decide +kernel) rfl, lg_m 756 (by decide +kernel) rfl, _, _, rfl⟩
theorem mkX6_66 : MKS RX6 66 yJ6_bitCount_0f7a4 cJ6_bitCount_0f7a4 1 (some (.int)) 1 := ⟨⟨lg_m 758 (by decide +kernel) rfl, lg_m 760 (by decide +kernel) rfl, lg_m 82 (by decide +kernel) rfl, by decide +kernel, by decide +kernel, by decide +kernel⟩, lg_m 759 (by decide +kernel) rfl⟩
theorem mkX6_75 : MKV RX6 75 yX6_viewWithout cX6_viewWithout 4 (some (.int)) 2 6 := ⟨⟨lg_m 764 (by decide +kernel) rfl, lg_m 767 (by decide +kernel) rfl, lg_m 72 (by decide +kernel) rfl, by decide +kernel, by decide +kernel, by decide +kernel⟩, lg_m 766 (by decide +kernel) rfl, lg_m 20 (by decide +kernel) rfl, _, _, rfl⟩
theorem mkX6_79 : MKV RX6 79 yX2_carryOn cX2_carryOn 2 none 0 2 := ⟨⟨lg_m 768 (by decide +kernel) rfl, lg_m 667 (by decide +kernel) rfl, lg_m 70 (by decide +kernel) rfl, by decide +kernel, by decide +kernel, by decide +kernel⟩, lg_m 665 (by decide +kernel) rfl, lg_m 666 (by decide +kernel) rfl, _, _, rfl⟩
theorem mkL_104 : MKV RL 104 yX8_odds cX8_odds 8 (some (.int)) 4 8 := ⟨⟨lg_m 769 (by decide +kernel) rfl, lg_m 772 (by decide +kernel) rfl, lg_m 65 (by decide +kernel) rfl, by decide +kernel, by decide +kernel, by decide +kernel⟩, lg_m 770 (by decide +kernel) rfl, lg_m 771 (by decide +kernel) rfl, _, _, rfl⟩
theorem mkX8_211 : MKV RX8 211 yX6_likelyViews cX6_likelyViews 6 (some (.int)) 3 6 := ⟨⟨lg_m 773 (by decide +kernel) rfl, lg_m 776 (by decide +kernel) rfl, lg_m 72 (by decide +kernel) rfl, by decide +kernel, by decide +kernel, by decide +kernel⟩, lg_m 774 (by decide +kernel) rfl, lg_m 775 (by decide +kernel) rfl, _, _, rfl⟩
theorem mkX8_214 : MKS RX8 214 yX8_greatestShared cX8_greatestShared 3 (some (.int)) 2 := ⟨⟨lg_m 777 (by decide +kernel) rfl, lg_m 779 (by decide +kernel) rfl, lg_m 65 (by decide +kernel) rfl, by decide +kernel, by decide +kernel, by decide +kernel⟩, lg_m 778 (by decide +kernel) rfl⟩
theorem mkL_108 : MKV RL 108 yX8_fits cX8_fits 4 (some (.int)) 2 8 := ⟨⟨lg_m 780 (by decide +kernel) rfl, lg_m 783 (by decide +kernel) rfl, lg_m 65 (by decide +kernel) rfl, by decide +kernel, by decide +kernel, by decide +kernel⟩, lg_m 781 (by decide +kernel) rfl, lg_m 782 (by decide +kernel) rfl, _, _, rfl⟩
theorem mkX8_217 : MKS RX8 217 yX8_isSheet cX8_isSheet 1 (some (.boolean)) 1 := ⟨⟨lg_m 784 (by decide +kernel) rfl, lg_m 786 (by decide +kernel) rfl, lg_m 65 (by decide +kernel) rfl, by decide +kernel, by decide +kernel, by decide +kernel⟩, lg_m 785 (by decide +kernel) rfl⟩
theorem mkX8_220 : MKV RX8 220 yX4_isMissing cX4_isMissing 1 (some (.boolean)) 0 4 := ⟨⟨lg_m 787 (by decide +kernel) rfl, lg_m 790 (by decide +kernel) rfl, lg_m 74 (by decide +kernel) rfl, by decide +kernel, by decide +kernel, by decide +kernel⟩, lg_m 788 (by decide +kernel) rfl, lg_m 789 (by decide +kernel) rfl, _, _, rfl⟩
theorem mkX8_227 : MKV RX8 227 yX6_placesThatFit cX6_placesThatFit 4 (some (.int)) 1 6 := ⟨⟨lg_m 791 (by decide +kernel) rfl, lg_m 794 (by decide +kernel) rfl, lg_m 72 (by decide +kernel) rfl, by decide +kernel, by decide +kernel, by decide +kernel⟩, lg_m 792 (by decide +kernel) rfl, lg_m 793 (by decide +kernel) rfl, _, _, rfl⟩
theorem mkX6_85 : MKV RX6 85 yX6_isFitting cX6_isFitting 4 (some (.boolean)) 2 6 := ⟨⟨lg_m 795 (by decide +kernel) rfl, lg_m 798 (by decide +kernel) rfl, lg_m 72 (by decide +kernel) rfl, by decide +kernel, by decide +kernel, by decide +kernel⟩, lg_m 797 (by decide +kernel) rfl, lg_m 21 (by decide +kernel) rfl, _, _, rfl⟩
theorem mkX8_231 : MKS RX8 231 yJ6_bitCount_0f7a4 cJ6_bitCount_0f7a4 1 (some (.int)) 1 := ⟨⟨lg_m 799 (by decide +kernel) rfl, lg_m 760 (by decide +kernel) rfl, lg_m 82 (by decide +kernel) rfl, by decide +kernel, by decide +kernel, by decide +kernel⟩, lg_m 759 (by decide +kernel) rfl⟩
theorem mkL_112 : MKV RL 112 yX8_voice cX8_voice 5 (some (.int)) 3 8 := ⟨⟨lg_m 800 (by decide +kernel) rfl, lg_m 803 (by decide +kernel) rfl, lg_m 65 (by decide +kernel) rfl, by decide +kernel, by decide +kernel, by decide +kernel⟩, lg_m 801 (by decide +kernel) rfl, lg_m 802 (by decide +kernel) rfl, _, _, rfl⟩
theorem mkX8_236 : MKV RX8 236 yX7_answer cX7_answer 5 (some (.int)) 4 7 := ⟨⟨lg_m 804 (by decide +kernel) rfl, lg_m 807 (by decide +kernel) rfl, lg_m 73 (by decide +kernel) rfl, by decide +kernel, by decide +kernel, by decide +kernel⟩, lg_m 805 (by decide +kernel) rfl, lg_m 806 (by decide +kernel) rfl, _, _, rfl⟩
theorem mkX7_34 : MKV RX7 34 yX3_empty cX3_empty 1 none 0 3 := ⟨⟨lg_m 808 (by decide +kernel) rfl, lg_m 485 (by decide +kernel) rfl, lg_m 68 (by decide +kernel) rfl, by decide +kernel, by decide +kernel, by decide +kernel⟩, lg_m 483 (by decide +kernel) rfl, lg_m 484 (by decide +kernel) rfl, _, _, rfl⟩
theorem mkX7_46 : MKV RX7 46 yX7_speak cX7_speak 9 (some (.int)) 4 7 := ⟨⟨lg_m 809 (by decide +kernel) rfl, lg_m 812 (by decide +kernel) rfl, lg_m 73 (by decide +kernel) rfl, by decide +kernel, by decide +kernel, by decide +kernel⟩, lg_m 811 (by decide +kernel) rfl, lg_m 22 (by decide +kernel) rfl, _, _, rfl⟩
theorem mkX7_50 : MKS RX7 50 yX7_ownerOf cX7_ownerOf 4 (some (.int)) 2 := ⟨⟨lg_m 813 (by decide +kernel) rfl, lg_m 815 (by decide +kernel) rfl, lg_m 73 (by decide +kernel) rfl, by decide +kernel, by decide +kernel, by decide +kernel⟩, lg_m 814 (by decide +kernel) rfl⟩
theorem mkX7_60 : MKV RX7 60 yX3_add cX3_add 2 none 1 3 := ⟨⟨lg_m 819 (by decide +kernel) rfl, lg_m 468 (by decide +kernel) rfl, lg_m 68 (by decide +kernel) rfl, by decide +kernel, by decide +kernel, by decide +kernel⟩, lg_m 466 (by decide +kernel) rfl, lg_m 467 (by decide +kernel) rfl, _, _, rfl⟩
theorem mkX7_63 : MKV RX7 63 yX7_part cX7_part 2 (some (.int)) 1 7 := ⟨⟨lg_m 820 (by decide +kernel) rfl, lg_m 823 (by decide +kernel) rfl, lg_m 73 (by decide +kernel) rfl, by decide +kernel, by decide +kernel, by decide +kernel⟩, lg_m 822 (by decide +kernel) rfl, lg_m 23 (by decide +kernel) rfl, _, _, rfl⟩
theorem mkL_116 : MKV RL 116 yX8_body cX8_body 2 (some (.int)) 1 8 := ⟨⟨lg_m 824 (by decide +kernel) rfl, lg_m 827 (by decide +kernel) rfl, lg_m 65 (by decide +kernel) rfl, by decide +kernel, by decide +kernel, by decide +kernel⟩, lg_m 825 (by decide +kernel) rfl, lg_m 826 (by decide +kernel) rfl, _, _, rfl⟩
theorem mkX8_247 : MKV RX8 247 yX3_has cX3_has 2 (some (.boolean)) 1 3 := ⟨⟨lg_m 828 (by decide +kernel) rfl, lg_m 521 (by decide +kernel) rfl, lg_m 68 (by decide +kernel) rfl, by decide +kernel, by decide +kernel, by decide +kernel⟩, lg_m 519 (by decide +kernel) rfl, lg_m 520 (by decide +kernel) rfl, _, _, rfl⟩
theorem mkL_120 : MKV RL 120 yX8_sheet cX8_sheet 4 (some (.int)) 3 8 := ⟨⟨lg_m 829 (by decide +kernel) rfl, lg_m 832 (by decide +kernel) rfl, lg_m 65 (by decide +kernel) rfl, by decide +kernel, by decide +kernel, by decide +kernel⟩, lg_m 830 (by decide +kernel) rfl, lg_m 831 (by decide +kernel) rfl, _, _, rfl⟩
theorem mkX8_250 : MKS RX8 250 yX4_isWidth cX4_isWidth 1 (some (.boolean)) 1 := ⟨⟨lg_m 833 (by decide +kernel) rfl, lg_m 835 (by decide +kernel) rfl, lg_m 74 (by decide +kernel) rfl, by decide +kernel, by decide +kernel, by decide +kernel⟩, lg_m 834 (by decide +kernel) rfl⟩
theorem mkX8_253 : MKV RX8 253 yX4_layOut cX4_layOut 4 none 2 4 := ⟨⟨lg_m 836 (by decide +kernel) rfl, lg_m 839 (by decide +kernel) rfl, lg_m 74 (by decide +kernel) rfl, by decide +kernel, by decide +kernel, by decide +kernel⟩, lg_m 837 (by decide +kernel) rfl, lg_m 838 (by decide +kernel) rfl, _, _, rfl⟩
theorem mkX4_24 : MKV RX4 24 yX3_empty cX3_empty 1 none 0 3 := ⟨⟨lg_m 840 (by decide +kernel) rfl, lg_m 485 (by decide +kernel) rfl, lg_m 68 (by decide +kernel) rfl, by decide +kernel, by decide +kernel, by decide +kernel⟩, lg_m 483 (by decide +kernel) rfl, lg_m 484 (by decide +kernel) rfl, _, _, rfl⟩
theorem mkX4_27 : MKV RX4 27 yX3_add cX3_add 2 none 1 3 := ⟨⟨lg_m 841 (by decide +kernel) rfl, lg_m 468 (by decide +kernel) rfl, lg_m 68 (by decide +kernel) rfl, by decide +kernel, by decide +kernel, by decide +kernel⟩, lg_m 466 (by decide +kernel) rfl, lg_m 467 (by decide +kernel) rfl, _, _, rfl⟩
theorem mkL_124 : MKV RL 124 yX8_put cX8_put 5 (some (.int)) 3 8 := ⟨⟨lg_m 842 (by decide +kernel) rfl, lg_m 845 (by decide +kernel) rfl, lg_m 65 (by decide +kernel) rfl, by decide +kernel, by decide +kernel, by decide +kernel⟩, lg_m 843 (by decide +kernel) rfl, lg_m 844 (by decide +kernel) rfl, _, _, rfl⟩
theorem mkX8_256 : MKV RX8 256 yX4_lowestBits cX4_lowestBits 2 (some (.int)) 1 4 := ⟨⟨lg_m 846 (by decide +kernel) rfl, lg_m 849 (by decide +kernel) rfl, lg_m 74 (by decide +kernel) rfl, by decide +kernel, by decide +kernel, by decide +kernel⟩, lg_m 847 (by decide +kernel) rfl, lg_m 848 (by decide +kernel) rfl, _, _, rfl⟩
theorem mkL_128 : MKV RL 128 yX8_move cX8_move 8 (some (.int)) 5 8 := ⟨⟨lg_m 850 (by decide +kernel) rfl, lg_m 853 (by decide +kernel) rfl, lg_m 65 (by decide +kernel) rfl, by decide +kernel, by decide +kernel, by decide +kernel⟩, lg_m 851 (by decide +kernel) rfl, lg_m 852 (by decide +kernel) rfl, _, _, rfl⟩
theorem mkX8_262 : MKV RX8 262 yX3_hasRun cX3_hasRun 3 (some (.boolean)) 2 3 := ⟨⟨lg_m 854 (by decide +kernel) rfl, lg_m 857 (by decide +kernel) rfl, lg_m 68 (by decide +kernel) rfl, by decide +kernel, by decide +kernel, by decide +kernel⟩, lg_m 855 (by decide +kernel) rfl, lg_m 856 (by decide +kernel) rfl, _, _, rfl⟩
theorem mkL_133 : MKV RL 133 yX8_hearAll cX8_hearAll 2 (some (.int)) 1 8 := ⟨⟨lg_m 859 (by decide +kernel) rfl, lg_m 862 (by decide +kernel) rfl, lg_m 65 (by decide +kernel) rfl, by decide +kernel, by decide +kernel, by decide +kernel⟩, lg_m 860 (by decide +kernel) rfl, lg_m 861 (by decide +kernel) rfl, _, _, rfl⟩
theorem mkX8_271 : MKV RX8 271 yX2_takeHeard cX2_takeHeard 3 (some (.int)) 1 2 := ⟨⟨lg_m 863 (by decide +kernel) rfl, lg_m 866 (by decide +kernel) rfl, lg_m 70 (by decide +kernel) rfl, by decide +kernel, by decide +kernel, by decide +kernel⟩, lg_m 864 (by decide +kernel) rfl, lg_m 865 (by decide +kernel) rfl, _, _, rfl⟩
theorem mkL_137 : MKV RL 137 yX8_judge cX8_judge 2 (some (.int)) 1 8 := ⟨⟨lg_m 868 (by decide +kernel) rfl, lg_m 871 (by decide +kernel) rfl, lg_m 65 (by decide +kernel) rfl, by decide +kernel, by decide +kernel, by decide +kernel⟩, lg_m 869 (by decide +kernel) rfl, lg_m 870 (by decide +kernel) rfl, _, _, rfl⟩
theorem mkX8_274 : MKV RX8 274 yX2_rightTurns cX2_rightTurns 3 (some (.int)) 1 2 := ⟨⟨lg_m 872 (by decide +kernel) rfl, lg_m 875 (by decide +kernel) rfl, lg_m 70 (by decide +kernel) rfl, by decide +kernel, by decide +kernel, by decide +kernel⟩, lg_m 873 (by decide +kernel) rfl, lg_m 874 (by decide +kernel) rfl, _, _, rfl⟩
theorem mkL_141 : MKV RL 141 yX8_image cX8_image 1 (some (.int)) 0 8 := ⟨⟨lg_m 876 (by decide +kernel) rfl, lg_m 879 (by decide +kernel) rfl, lg_m 65 (by decide +kernel) rfl, by decide +kernel, by decide +kernel, by decide +kernel⟩, lg_m 877 (by decide +kernel) rfl, lg_m 878 (by decide +kernel) rfl, _, _, rfl⟩
theorem mkX8_277 : MKV RX8 277 yX5_takeOver cX5_takeOver 2 none 1 5 := ⟨⟨lg_m 880 (by decide +kernel) rfl, lg_m 883 (by decide +kernel) rfl, lg_m 66 (by decide +kernel) rfl, by decide +kernel, by decide +kernel, by decide +kernel⟩, lg_m 881 (by decide +kernel) rfl, lg_m 882 (by decide +kernel) rfl, _, _, rfl⟩
theorem mkX5_45 : MKV RX5 45 yX0_takeSteps cX0_takeSteps 2 none 1 0 := ⟨⟨lg_m 884 (by decide +kernel) rfl, lg_m 633 (by decide +kernel) rfl, lg_m 67 (by decide +kernel) rfl, by decide +kernel, by decide +kernel, by decide +kernel⟩, lg_m 631 (by decide +kernel) rfl, lg_m 632 (by decide +kernel) rfl, _, _, rfl⟩
theorem mkX5_49 : MKV RX5 49 yX2_takeOver cX2_takeOver 2 none 1 2 := ⟨⟨lg_m 885 (by decide +kernel) rfl, lg_m 704 (by decide +kernel) rfl, lg_m 70 (by decide +kernel) rfl, by decide +kernel, by decide +kernel, by decide +kernel⟩, lg_m 702 (by decide +kernel) rfl, lg_m 703 (by decide +kernel) rfl, _, _, rfl⟩
theorem mkX5_53 : MKV RX5 53 yX3_takeOver cX3_takeOver 3 none 1 3 := ⟨⟨lg_m 886 (by decide +kernel) rfl, lg_m 637 (by decide +kernel) rfl, lg_m 68 (by decide +kernel) rfl, by decide +kernel, by decide +kernel, by decide +kernel⟩, lg_m 635 (by decide +kernel) rfl, lg_m 636 (by decide +kernel) rfl, _, _, rfl⟩
theorem mkL_146 : MKV RL 146 yX8_restore cX8_restore 1 (some (.int)) 0 8 := ⟨⟨lg_m 887 (by decide +kernel) rfl, lg_m 890 (by decide +kernel) rfl, lg_m 65 (by decide +kernel) rfl, by decide +kernel, by decide +kernel, by decide +kernel⟩, lg_m 888 (by decide +kernel) rfl, lg_m 889 (by decide +kernel) rfl, _, _, rfl⟩
theorem mkL_150 : MKV RL 150 yX8_tell cX8_tell 2 (some (.int)) 1 8 := ⟨⟨lg_m 891 (by decide +kernel) rfl, lg_m 894 (by decide +kernel) rfl, lg_m 65 (by decide +kernel) rfl, by decide +kernel, by decide +kernel, by decide +kernel⟩, lg_m 892 (by decide +kernel) rfl, lg_m 893 (by decide +kernel) rfl, _, _, rfl⟩
theorem mkL_154 : MKV RL 154 yX8_check cX8_check 3 (some (.int)) 0 8 := ⟨⟨lg_m 895 (by decide +kernel) rfl, lg_m 898 (by decide +kernel) rfl, lg_m 65 (by decide +kernel) rfl, by decide +kernel, by decide +kernel, by decide +kernel⟩, lg_m 896 (by decide +kernel) rfl, lg_m 897 (by decide +kernel) rfl, _, _, rfl⟩
theorem mkX8_284 : MKV RX8 284 yX2_rightSaid cX2_rightSaid 3 (some (.int)) 1 2 := ⟨⟨lg_m 899 (by decide +kernel) rfl, lg_m 902 (by decide +kernel) rfl, lg_m 70 (by decide +kernel) rfl, by decide +kernel, by decide +kernel, by decide +kernel⟩, lg_m 900 (by decide +kernel) rfl, lg_m 901 (by decide +kernel) rfl, _, _, rfl⟩
theorem mkL_158 : MKV RL 158 yX8_count cX8_count 3 (some (.int)) 1 8 := ⟨⟨lg_m 903 (by decide +kernel) rfl, lg_m 906 (by decide +kernel) rfl, lg_m 65 (by decide +kernel) rfl, by decide +kernel, by decide +kernel, by decide +kernel⟩, lg_m 904 (by decide +kernel) rfl, lg_m 905 (by decide +kernel) rfl, _, _, rfl⟩
theorem mkL_162 : MKV RL 162 yX8_told cX8_told 2 (some (.int)) 1 8 := ⟨⟨lg_m 907 (by decide +kernel) rfl, lg_m 910 (by decide +kernel) rfl, lg_m 65 (by decide +kernel) rfl, by decide +kernel, by decide +kernel, by decide +kernel⟩, lg_m 908 (by decide +kernel) rfl, lg_m 909 (by decide +kernel) rfl, _, _, rfl⟩
theorem mkL_12 : MKI RL 12 yX9_init cX9_init 1 0 := ⟨⟨lg_m 913 (by decide +kernel) rfl, lg_m 915 (by decide +kernel) rfl, lg_m 75 (by decide +kernel) rfl, by decide +kernel, by decide +kernel, by decide +kernel⟩, lg_m 914 (by decide +kernel) rfl, rfl⟩
theorem mkL_53 : MKV RL 53 yX9_feed cX9_feed 5 (some (.int)) 2 9 := ⟨⟨lg_m 978 (by decide +kernel) rfl, lg_m 981 (by decide +kernel) rfl, lg_m 75 (by decide +kernel) rfl, by decide +kernel, by decide +kernel, by decide +kernel⟩, lg_m 979 (by decide +kernel) rfl, lg_m 980 (by decide +kernel) rfl, _, _, rfl⟩
theorem mkX9_47 : MKS RX9 47 yX9_in cX9_in 3 (some (.boolean)) 3 := ⟨⟨lg_m 982 (by decide +kernel) rfl, lg_m 984 (by decide +kernel) rfl, lg_m 75 (by decide +kernel) rfl, by decide +kernel, by decide +kernel, by decide +kernel⟩, lg_m 983 (by decide +kernel) rfl⟩
theorem mkX9_51 : MKV RX9 51 yX9_error cX9_error 2 (some (.int)) 1 9 := ⟨⟨lg_m 985 (by decide +kernel) rfl, lg_m 988 (by decide +kernel) rfl, lg_m 75 (by decide +kernel) rfl, by decide +kernel, by decide +kernel, by decide +kernel⟩, lg_m 987 (by decide +kernel) rfl, lg_m 24 (by decide +kernel) rfl, _, _, rfl⟩
theorem mkL_57 : MKV RL 57 yX9_text cX9_text 5 (some (.int)) 1 9 := ⟨⟨lg_m 991 (by decide +kernel) rfl, lg_m 994 (by decide +kernel) rfl, lg_m 75 (by decide +kernel) rfl, by decide +kernel, by decide +kernel, by decide +kernel⟩, lg_m 992 (by decide +kernel) rfl, lg_m 993 (by decide +kernel) rfl, _, _, rfl⟩
theorem mkX9_101 : MKV RX9 101 yX9_whole cX9_whole 1 (some (.boolean)) 0 9 := ⟨⟨lg_m 995 (by decide +kernel) rfl, lg_m 998 (by decide +kernel) rfl, lg_m 75 (by decide +kernel) rfl, by decide +kernel, by decide +kernel, by decide +kernel⟩, lg_m 997 (by decide +kernel) rfl, lg_m 25 (by decide +kernel) rfl, _, _, rfl⟩
theorem mkX9_67 : MKV RX9 67 yX9_both cX9_both 1 (some (.boolean)) 0 9 := ⟨⟨lg_m 999 (by decide +kernel) rfl, lg_m 1002 (by decide +kernel) rfl, lg_m 75 (by decide +kernel) rfl, by decide +kernel, by decide +kernel, by decide +kernel⟩, lg_m 1001 (by decide +kernel) rfl, lg_m 26 (by decide +kernel) rfl, _, _, rfl⟩
theorem mkX9_79 : MKV RX9 79 yX9_compared cX9_compared 2 (some (.boolean)) 0 9 := ⟨⟨lg_m 1003 (by decide +kernel) rfl, lg_m 1006 (by decide +kernel) rfl, lg_m 75 (by decide +kernel) rfl, by decide +kernel, by decide +kernel, by decide +kernel⟩, lg_m 1005 (by decide +kernel) rfl, lg_m 27 (by decide +kernel) rfl, _, _, rfl⟩
theorem mkX9_82 : MKV RX9 82 yX9_sum cX9_sum 2 (some (.boolean)) 0 9 := ⟨⟨lg_m 1007 (by decide +kernel) rfl, lg_m 1010 (by decide +kernel) rfl, lg_m 75 (by decide +kernel) rfl, by decide +kernel, by decide +kernel, by decide +kernel⟩, lg_m 1009 (by decide +kernel) rfl, lg_m 28 (by decide +kernel) rfl, _, _, rfl⟩
theorem mkX9_85 : MKV RX9 85 yX9_product cX9_product 2 (some (.boolean)) 0 9 := ⟨⟨lg_m 1011 (by decide +kernel) rfl, lg_m 1014 (by decide +kernel) rfl, lg_m 75 (by decide +kernel) rfl, by decide +kernel, by decide +kernel, by decide +kernel⟩, lg_m 1013 (by decide +kernel) rfl, lg_m 29 (by decide +kernel) rfl, _, _, rfl⟩
theorem mkX9_88 : MKV RX9 88 yX9_one cX9_one 4 (some (.boolean)) 0 9 := ⟨⟨lg_m 1015 (by decide +kernel) rfl, lg_m 1018 (by decide +kernel) rfl, lg_m 75 (by decide +kernel) rfl, by decide +kernel, by decide +kernel, by decide +kernel⟩, lg_m 1017 (by decide +kernel) rfl, lg_m 30 (by decide +kernel) rfl, _, _, rfl⟩
theorem mkX9_71 : MKV RX9 71 yX9_look cX9_look 1 (some (.int)) 0 9 := ⟨⟨lg_m 1019 (by decide +kernel) rfl, lg_m 1022 (by decide +kernel) rfl, lg_m 75 (by decide +kernel) rfl, by decide +kernel, by decide +kernel, by decide +kernel⟩, lg_m 1021 (by decide +kernel) rfl, lg_m 31 (by decide +kernel) rfl, _, _, rfl⟩
theorem mkX9_94 : MKV RX9 94 yX9_isName cX9_isName 2 (some (.boolean)) 1 9 := ⟨⟨lg_m 1023 (by decide +kernel) rfl, lg_m 1026 (by decide +kernel) rfl, lg_m 75 (by decide +kernel) rfl, by decide +kernel, by decide +kernel, by decide +kernel⟩, lg_m 1025 (by decide +kernel) rfl, lg_m 32 (by decide +kernel) rfl, _, _, rfl⟩
theorem mkX9_75 : MKV RX9 75 yX9_step1 cX9_step1 3 none 2 9 := ⟨⟨lg_m 1027 (by decide +kernel) rfl, lg_m 1030 (by decide +kernel) rfl, lg_m 75 (by decide +kernel) rfl, by decide +kernel, by decide +kernel, by decide +kernel⟩, lg_m 1029 (by decide +kernel) rfl, lg_m 33 (by decide +kernel) rfl, _, _, rfl⟩
theorem mkX9_98 : MKV RX9 98 yX9_opens cX9_opens 1 (some (.boolean)) 0 9 := ⟨⟨lg_m 1031 (by decide +kernel) rfl, lg_m 1034 (by decide +kernel) rfl, lg_m 75 (by decide +kernel) rfl, by decide +kernel, by decide +kernel, by decide +kernel⟩, lg_m 1033 (by decide +kernel) rfl, lg_m 34 (by decide +kernel) rfl, _, _, rfl⟩
theorem mkL_61 : MKV RL 61 yX9_untell cX9_untell 3 (some (.int)) 1 9 := ⟨⟨lg_m 1035 (by decide +kernel) rfl, lg_m 1038 (by decide +kernel) rfl, lg_m 75 (by decide +kernel) rfl, by decide +kernel, by decide +kernel, by decide +kernel⟩, lg_m 1036 (by decide +kernel) rfl, lg_m 1037 (by decide +kernel) rfl, _, _, rfl⟩
theorem mkX9_104 : MKV RX9 104 yX9_hasText cX9_hasText 2 (some (.boolean)) 1 9 := ⟨⟨lg_m 1039 (by decide +kernel) rfl, lg_m 1042 (by decide +kernel) rfl, lg_m 75 (by decide +kernel) rfl, by decide +kernel, by decide +kernel, by decide +kernel⟩, lg_m 1041 (by decide +kernel) rfl, lg_m 35 (by decide +kernel) rfl, _, _, rfl⟩
theorem mkL_17 : MKV RL 17 yX9_home cX9_home 3 (some (.int)) 1 9 := ⟨⟨lg_m 1043 (by decide +kernel) rfl, lg_m 1046 (by decide +kernel) rfl, lg_m 75 (by decide +kernel) rfl, by decide +kernel, by decide +kernel, by decide +kernel⟩, lg_m 1044 (by decide +kernel) rfl, lg_m 1045 (by decide +kernel) rfl, _, _, rfl⟩
theorem mkX9_153 : MKS RX9 153 yX9_isKm cX9_isKm 1 (some (.boolean)) 1 := ⟨⟨lg_m 1047 (by decide +kernel) rfl, lg_m 1049 (by decide +kernel) rfl, lg_m 75 (by decide +kernel) rfl, by decide +kernel, by decide +kernel, by decide +kernel⟩, lg_m 1048 (by decide +kernel) rfl⟩
theorem mkX9_143 : MKV RX9 143 yX9_lays1 cX9_lays1 4 none 3 9 := ⟨⟨lg_m 1050 (by decide +kernel) rfl, lg_m 1053 (by decide +kernel) rfl, lg_m 75 (by decide +kernel) rfl, by decide +kernel, by decide +kernel, by decide +kernel⟩, lg_m 1052 (by decide +kernel) rfl, lg_m 36 (by decide +kernel) rfl, _, _, rfl⟩
theorem mkL_22 : MKV RL 22 yX9_homeIs cX9_homeIs 3 (some (.int)) 2 9 := ⟨⟨lg_m 1054 (by decide +kernel) rfl, lg_m 1057 (by decide +kernel) rfl, lg_m 75 (by decide +kernel) rfl, by decide +kernel, by decide +kernel, by decide +kernel⟩, lg_m 1055 (by decide +kernel) rfl, lg_m 1056 (by decide +kernel) rfl, _, _, rfl⟩
theorem mkX9_156 : MKV RX9 156 yX9_isHome cX9_isHome 2 (some (.boolean)) 1 9 := ⟨⟨lg_m 1058 (by decide +kernel) rfl, lg_m 1061 (by decide +kernel) rfl, lg_m 75 (by decide +kernel) rfl, by decide +kernel, by decide +kernel, by decide +kernel⟩, lg_m 1060 (by decide +kernel) rfl, lg_m 37 (by decide +kernel) rfl, _, _, rfl⟩
theorem mkX9_134 : MKV RX9 134 yX9_saidAt cX9_saidAt 2 (some (.int)) 1 9 := ⟨⟨lg_m 1062 (by decide +kernel) rfl, lg_m 1065 (by decide +kernel) rfl, lg_m 75 (by decide +kernel) rfl, by decide +kernel, by decide +kernel, by decide +kernel⟩, lg_m 1064 (by decide +kernel) rfl, lg_m 38 (by decide +kernel) rfl, _, _, rfl⟩
theorem mkX9_124 : MKV RX9 124 yX9_tellsOf cX9_tellsOf 4 (some (.int)) 1 9 := ⟨⟨lg_m 1066 (by decide +kernel) rfl, lg_m 1069 (by decide +kernel) rfl, lg_m 75 (by decide +kernel) rfl, by decide +kernel, by decide +kernel, by decide +kernel⟩, lg_m 1068 (by decide +kernel) rfl, lg_m 39 (by decide +kernel) rfl, _, _, rfl⟩
theorem mkX9_111 : MKV RX9 111 yX9_its cX9_its 3 (some (.int)) 2 9 := ⟨⟨lg_m 1070 (by decide +kernel) rfl, lg_m 1073 (by decide +kernel) rfl, lg_m 75 (by decide +kernel) rfl, by decide +kernel, by decide +kernel, by decide +kernel⟩, lg_m 1072 (by decide +kernel) rfl, lg_m 40 (by decide +kernel) rfl, _, _, rfl⟩
theorem mkX9_127 : MKV RX9 127 yX9_givenBy cX9_givenBy 6 (some (.int)) 4 9 := ⟨⟨lg_m 1074 (by decide +kernel) rfl, lg_m 1077 (by decide +kernel) rfl, lg_m 75 (by decide +kernel) rfl, by decide +kernel, by decide +kernel, by decide +kernel⟩, lg_m 1076 (by decide +kernel) rfl, lg_m 41 (by decide +kernel) rfl, _, _, rfl⟩
theorem mkX9_115 : MKV RX9 115 yX9_worked cX9_worked 7 (some (.int)) 1 9 := ⟨⟨lg_m 1078 (by decide +kernel) rfl, lg_m 1081 (by decide +kernel) rfl, lg_m 75 (by decide +kernel) rfl, by decide +kernel, by decide +kernel, by decide +kernel⟩, lg_m 1080 (by decide +kernel) rfl, lg_m 42 (by decide +kernel) rfl, _, _, rfl⟩
theorem mkX9_107 : MKS RX9 107 yX9_joined cX9_joined 3 (some (.int)) 3 := ⟨⟨lg_m 1082 (by decide +kernel) rfl, lg_m 1084 (by decide +kernel) rfl, lg_m 75 (by decide +kernel) rfl, by decide +kernel, by decide +kernel, by decide +kernel⟩, lg_m 1083 (by decide +kernel) rfl⟩
theorem mkX9_118 : MKS RX9 118 yX9_held cX9_held 3 (some (.int)) 3 := ⟨⟨lg_m 1085 (by decide +kernel) rfl, lg_m 1087 (by decide +kernel) rfl, lg_m 75 (by decide +kernel) rfl, by decide +kernel, by decide +kernel, by decide +kernel⟩, lg_m 1086 (by decide +kernel) rfl⟩
theorem mkX9_121 : MKS RX9 121 yX9_restOf cX9_restOf 2 (some (.int)) 1 := ⟨⟨lg_m 1088 (by decide +kernel) rfl, lg_m 1090 (by decide +kernel) rfl, lg_m 75 (by decide +kernel) rfl, by decide +kernel, by decide +kernel, by decide +kernel⟩, lg_m 1089 (by decide +kernel) rfl⟩
theorem mkX9_137 : MKV RX9 137 yX9_behindAt cX9_behindAt 2 (some (.int)) 1 9 := ⟨⟨lg_m 1091 (by decide +kernel) rfl, lg_m 1094 (by decide +kernel) rfl, lg_m 75 (by decide +kernel) rfl, by decide +kernel, by decide +kernel, by decide +kernel⟩, lg_m 1093 (by decide +kernel) rfl, lg_m 43 (by decide +kernel) rfl, _, _, rfl⟩
theorem mkX9_131 : MKV RX9 131 yX9_leavesOf cX9_leavesOf 6 (some (.int)) 1 9 := ⟨⟨lg_m 1095 (by decide +kernel) rfl, lg_m 1098 (by decide +kernel) rfl, lg_m 75 (by decide +kernel) rfl, by decide +kernel, by decide +kernel, by decide +kernel⟩, lg_m 1097 (by decide +kernel) rfl, lg_m 44 (by decide +kernel) rfl, _, _, rfl⟩
theorem mkX9_140 : MKV RX9 140 yX9_bluntsOf cX9_bluntsOf 3 (some (.int)) 1 9 := ⟨⟨lg_m 1099 (by decide +kernel) rfl, lg_m 1102 (by decide +kernel) rfl, lg_m 75 (by decide +kernel) rfl, by decide +kernel, by decide +kernel, by decide +kernel⟩, lg_m 1101 (by decide +kernel) rfl, lg_m 45 (by decide +kernel) rfl, _, _, rfl⟩
theorem mkL_26 : MKV RL 26 yX9_become cX9_become 4 (some (.int)) 2 9 := ⟨⟨lg_m 1103 (by decide +kernel) rfl, lg_m 1106 (by decide +kernel) rfl, lg_m 75 (by decide +kernel) rfl, by decide +kernel, by decide +kernel, by decide +kernel⟩, lg_m 1104 (by decide +kernel) rfl, lg_m 1105 (by decide +kernel) rfl, _, _, rfl⟩
theorem mkL_30 : MKV RL 30 yX9_as cX9_as 5 (some (.int)) 2 9 := ⟨⟨lg_m 1107 (by decide +kernel) rfl, lg_m 1110 (by decide +kernel) rfl, lg_m 75 (by decide +kernel) rfl, by decide +kernel, by decide +kernel, by decide +kernel⟩, lg_m 1108 (by decide +kernel) rfl, lg_m 1109 (by decide +kernel) rfl, _, _, rfl⟩
theorem mkX9_159 : MKS RX9 159 yX9_above cX9_above 1 (some (.int)) 1 := ⟨⟨lg_m 1111 (by decide +kernel) rfl, lg_m 1113 (by decide +kernel) rfl, lg_m 75 (by decide +kernel) rfl, by decide +kernel, by decide +kernel, by decide +kernel⟩, lg_m 1112 (by decide +kernel) rfl⟩
theorem mkL_34 : MKV RL 34 yX9_past cX9_past 3 (some (.int)) 2 9 := ⟨⟨lg_m 1114 (by decide +kernel) rfl, lg_m 1117 (by decide +kernel) rfl, lg_m 75 (by decide +kernel) rfl, by decide +kernel, by decide +kernel, by decide +kernel⟩, lg_m 1115 (by decide +kernel) rfl, lg_m 1116 (by decide +kernel) rfl, _, _, rfl⟩
theorem mkX9_162 : MKV RX9 162 yX9_change1 cX9_change1 4 (some (.int)) 2 9 := ⟨⟨lg_m 1118 (by decide +kernel) rfl, lg_m 1121 (by decide +kernel) rfl, lg_m 75 (by decide +kernel) rfl, by decide +kernel, by decide +kernel, by decide +kernel⟩, lg_m 1120 (by decide +kernel) rfl, lg_m 46 (by decide +kernel) rfl, _, _, rfl⟩
theorem mkL_38 : MKV RL 38 yX9_goes cX9_goes 2 (some (.int)) 1 9 := ⟨⟨lg_m 1122 (by decide +kernel) rfl, lg_m 1125 (by decide +kernel) rfl, lg_m 75 (by decide +kernel) rfl, by decide +kernel, by decide +kernel, by decide +kernel⟩, lg_m 1123 (by decide +kernel) rfl, lg_m 1124 (by decide +kernel) rfl, _, _, rfl⟩
theorem mkL_42 : MKV RL 42 yX9_set cX9_set 4 (some (.int)) 2 9 := ⟨⟨lg_m 1126 (by decide +kernel) rfl, lg_m 1129 (by decide +kernel) rfl, lg_m 75 (by decide +kernel) rfl, by decide +kernel, by decide +kernel, by decide +kernel⟩, lg_m 1127 (by decide +kernel) rfl, lg_m 1128 (by decide +kernel) rfl, _, _, rfl⟩
theorem mkL_46 : MKV RL 46 yX9_hears cX9_hears 3 (some (.int)) 2 9 := ⟨⟨lg_m 1130 (by decide +kernel) rfl, lg_m 1133 (by decide +kernel) rfl, lg_m 75 (by decide +kernel) rfl, by decide +kernel, by decide +kernel, by decide +kernel⟩, lg_m 1131 (by decide +kernel) rfl, lg_m 1132 (by decide +kernel) rfl, _, _, rfl⟩
theorem mkL_66 : MKV RL 66 yX9_law cX9_law 5 (some (.int)) 4 9 := ⟨⟨lg_m 1134 (by decide +kernel) rfl, lg_m 1137 (by decide +kernel) rfl, lg_m 75 (by decide +kernel) rfl, by decide +kernel, by decide +kernel, by decide +kernel⟩, lg_m 1135 (by decide +kernel) rfl, lg_m 1136 (by decide +kernel) rfl, _, _, rfl⟩
theorem mkL_70 : MKV RL 70 yX9_days cX9_days 2 (some (.int)) 1 9 := ⟨⟨lg_m 1138 (by decide +kernel) rfl, lg_m 1141 (by decide +kernel) rfl, lg_m 75 (by decide +kernel) rfl, by decide +kernel, by decide +kernel, by decide +kernel⟩, lg_m 1139 (by decide +kernel) rfl, lg_m 1140 (by decide +kernel) rfl, _, _, rfl⟩
theorem mkX9_165 : MKV RX9 165 yX9_goesOn cX9_goesOn 3 none 1 9 := ⟨⟨lg_m 1142 (by decide +kernel) rfl, lg_m 1145 (by decide +kernel) rfl, lg_m 75 (by decide +kernel) rfl, by decide +kernel, by decide +kernel, by decide +kernel⟩, lg_m 1144 (by decide +kernel) rfl, lg_m 47 (by decide +kernel) rfl, _, _, rfl⟩
theorem mkX9_150 : MKV RX9 150 yX9_day1 cX9_day1 5 none 0 9 := ⟨⟨lg_m 1146 (by decide +kernel) rfl, lg_m 1149 (by decide +kernel) rfl, lg_m 75 (by decide +kernel) rfl, by decide +kernel, by decide +kernel, by decide +kernel⟩, lg_m 1148 (by decide +kernel) rfl, lg_m 48 (by decide +kernel) rfl, _, _, rfl⟩
theorem mkX9_147 : MKV RX9 147 yX9_nextOne cX9_nextOne 3 (some (.int)) 0 9 := ⟨⟨lg_m 1150 (by decide +kernel) rfl, lg_m 1153 (by decide +kernel) rfl, lg_m 75 (by decide +kernel) rfl, by decide +kernel, by decide +kernel, by decide +kernel⟩, lg_m 1152 (by decide +kernel) rfl, lg_m 49 (by decide +kernel) rfl, _, _, rfl⟩
theorem mkL_74 : MKV RL 74 yX9_loose cX9_loose 3 (some (.int)) 1 9 := ⟨⟨lg_m 1154 (by decide +kernel) rfl, lg_m 1157 (by decide +kernel) rfl, lg_m 75 (by decide +kernel) rfl, by decide +kernel, by decide +kernel, by decide +kernel⟩, lg_m 1155 (by decide +kernel) rfl, lg_m 1156 (by decide +kernel) rfl, _, _, rfl⟩
theorem mkL_78 : MKV RL 78 yX9_day cX9_day 2 (some (.int)) 1 9 := ⟨⟨lg_m 1159 (by decide +kernel) rfl, lg_m 1162 (by decide +kernel) rfl, lg_m 75 (by decide +kernel) rfl, by decide +kernel, by decide +kernel, by decide +kernel⟩, lg_m 1160 (by decide +kernel) rfl, lg_m 1161 (by decide +kernel) rfl, _, _, rfl⟩
theorem mkL_82 : MKV RL 82 yX9_seed cX9_seed 2 (some (.int)) 1 9 := ⟨⟨lg_m 1163 (by decide +kernel) rfl, lg_m 1166 (by decide +kernel) rfl, lg_m 75 (by decide +kernel) rfl, by decide +kernel, by decide +kernel, by decide +kernel⟩, lg_m 1164 (by decide +kernel) rfl, lg_m 1165 (by decide +kernel) rfl, _, _, rfl⟩
theorem mkL_86 : MKV RL 86 yX9_then cX9_then 4 (some (.int)) 2 9 := ⟨⟨lg_m 1167 (by decide +kernel) rfl, lg_m 1170 (by decide +kernel) rfl, lg_m 75 (by decide +kernel) rfl, by decide +kernel, by decide +kernel, by decide +kernel⟩, lg_m 1168 (by decide +kernel) rfl, lg_m 1169 (by decide +kernel) rfl, _, _, rfl⟩
theorem mkX9_170 : MKV RX9 170 yX9_saves cX9_saves 2 none 0 9 := ⟨⟨lg_m 1171 (by decide +kernel) rfl, lg_m 1174 (by decide +kernel) rfl, lg_m 75 (by decide +kernel) rfl, by decide +kernel, by decide +kernel, by decide +kernel⟩, lg_m 1173 (by decide +kernel) rfl, lg_m 50 (by decide +kernel) rfl, _, _, rfl⟩
theorem mkX9_173 : MKV RX9 173 yX9_heardAll cX9_heardAll 3 (some (.int)) 0 9 := ⟨⟨lg_m 1175 (by decide +kernel) rfl, lg_m 1178 (by decide +kernel) rfl, lg_m 75 (by decide +kernel) rfl, by decide +kernel, by decide +kernel, by decide +kernel⟩, lg_m 1177 (by decide +kernel) rfl, lg_m 51 (by decide +kernel) rfl, _, _, rfl⟩
theorem mkX9_176 : MKV RX9 176 yX9_putsBack cX9_putsBack 2 none 0 9 := ⟨⟨lg_m 1179 (by decide +kernel) rfl, lg_m 1182 (by decide +kernel) rfl, lg_m 75 (by decide +kernel) rfl, by decide +kernel, by decide +kernel, by decide +kernel⟩, lg_m 1181 (by decide +kernel) rfl, lg_m 52 (by decide +kernel) rfl, _, _, rfl⟩
theorem mkL_90 : MKV RL 90 yX9_soonest cX9_soonest 4 (some (.int)) 2 9 := ⟨⟨lg_m 1183 (by decide +kernel) rfl, lg_m 1186 (by decide +kernel) rfl, lg_m 75 (by decide +kernel) rfl, by decide +kernel, by decide +kernel, by decide +kernel⟩, lg_m 1184 (by decide +kernel) rfl, lg_m 1185 (by decide +kernel) rfl, _, _, rfl⟩
theorem mkL_95 : MKV RL 95 yX9_startFor cX9_startFor 8 (some (.int)) 3 9 := ⟨⟨lg_m 1187 (by decide +kernel) rfl, lg_m 1190 (by decide +kernel) rfl, lg_m 75 (by decide +kernel) rfl, by decide +kernel, by decide +kernel, by decide +kernel⟩, lg_m 1188 (by decide +kernel) rfl, lg_m 1189 (by decide +kernel) rfl, _, _, rfl⟩
theorem mkX9_179 : MKS RX9 179 yX9_isAsked cX9_isAsked 2 (some (.boolean)) 2 := ⟨⟨lg_m 1191 (by decide +kernel) rfl, lg_m 1193 (by decide +kernel) rfl, lg_m 75 (by decide +kernel) rfl, by decide +kernel, by decide +kernel, by decide +kernel⟩, lg_m 1192 (by decide +kernel) rfl⟩
theorem mkL_99 : MKV RL 99 yX9_swapFor cX9_swapFor 8 (some (.int)) 2 9 := ⟨⟨lg_m 1194 (by decide +kernel) rfl, lg_m 1197 (by decide +kernel) rfl, lg_m 75 (by decide +kernel) rfl, by decide +kernel, by decide +kernel, by decide +kernel⟩, lg_m 1195 (by decide +kernel) rfl, lg_m 1196 (by decide +kernel) rfl, _, _, rfl⟩
theorem mkX9_183 : MKV RX9 183 yX9_changePlaces cX9_changePlaces 5 none 2 9 := ⟨⟨lg_m 1198 (by decide +kernel) rfl, lg_m 1201 (by decide +kernel) rfl, lg_m 75 (by decide +kernel) rfl, by decide +kernel, by decide +kernel, by decide +kernel⟩, lg_m 1200 (by decide +kernel) rfl, lg_m 53 (by decide +kernel) rfl, _, _, rfl⟩
theorem mkL_103 : MKV RL 103 yX9_spare cX9_spare 6 (some (.int)) 2 9 := ⟨⟨lg_m 1202 (by decide +kernel) rfl, lg_m 1205 (by decide +kernel) rfl, lg_m 75 (by decide +kernel) rfl, by decide +kernel, by decide +kernel, by decide +kernel⟩, lg_m 1203 (by decide +kernel) rfl, lg_m 1204 (by decide +kernel) rfl, _, _, rfl⟩
theorem mkX9_186 : MKS RX9 186 yX9_ones cX9_ones 3 (some (.int)) 1 := ⟨⟨lg_m 1206 (by decide +kernel) rfl, lg_m 1208 (by decide +kernel) rfl, lg_m 75 (by decide +kernel) rfl, by decide +kernel, by decide +kernel, by decide +kernel⟩, lg_m 1207 (by decide +kernel) rfl⟩
theorem mkX9_189 : MKV RX9 189 yX9_viewWith cX9_viewWith 4 (some (.int)) 2 9 := ⟨⟨lg_m 1209 (by decide +kernel) rfl, lg_m 1212 (by decide +kernel) rfl, lg_m 75 (by decide +kernel) rfl, by decide +kernel, by decide +kernel, by decide +kernel⟩, lg_m 1211 (by decide +kernel) rfl, lg_m 54 (by decide +kernel) rfl, _, _, rfl⟩
theorem mkL_107 : MKV RL 107 yX9_odds cX9_odds 7 (some (.int)) 4 9 := ⟨⟨lg_m 1213 (by decide +kernel) rfl, lg_m 1216 (by decide +kernel) rfl, lg_m 75 (by decide +kernel) rfl, by decide +kernel, by decide +kernel, by decide +kernel⟩, lg_m 1214 (by decide +kernel) rfl, lg_m 1215 (by decide +kernel) rfl, _, _, rfl⟩
theorem mkX9_192 : MKS RX9 192 yX9_common cX9_common 5 (some (.int)) 2 := ⟨⟨lg_m 1217 (by decide +kernel) rfl, lg_m 1219 (by decide +kernel) rfl, lg_m 75 (by decide +kernel) rfl, by decide +kernel, by decide +kernel, by decide +kernel⟩, lg_m 1218 (by decide +kernel) rfl⟩
theorem mkL_111 : MKV RL 111 yX9_fits cX9_fits 7 (some (.int)) 2 9 := ⟨⟨lg_m 1220 (by decide +kernel) rfl, lg_m 1223 (by decide +kernel) rfl, lg_m 75 (by decide +kernel) rfl, by decide +kernel, by decide +kernel, by decide +kernel⟩, lg_m 1221 (by decide +kernel) rfl, lg_m 1222 (by decide +kernel) rfl, _, _, rfl⟩
theorem mkX9_195 : MKS RX9 195 yX9_isSheet cX9_isSheet 1 (some (.boolean)) 1 := ⟨⟨lg_m 1224 (by decide +kernel) rfl, lg_m 1226 (by decide +kernel) rfl, lg_m 75 (by decide +kernel) rfl, by decide +kernel, by decide +kernel, by decide +kernel⟩, lg_m 1225 (by decide +kernel) rfl⟩
theorem mkL_115 : MKV RL 115 yX9_voice cX9_voice 6 (some (.int)) 3 9 := ⟨⟨lg_m 1227 (by decide +kernel) rfl, lg_m 1230 (by decide +kernel) rfl, lg_m 75 (by decide +kernel) rfl, by decide +kernel, by decide +kernel, by decide +kernel⟩, lg_m 1228 (by decide +kernel) rfl, lg_m 1229 (by decide +kernel) rfl, _, _, rfl⟩
theorem mkX9_210 : MKV RX9 210 yX9_kindNow cX9_kindNow 1 (some (.int)) 0 9 := ⟨⟨lg_m 1231 (by decide +kernel) rfl, lg_m 1234 (by decide +kernel) rfl, lg_m 75 (by decide +kernel) rfl, by decide +kernel, by decide +kernel, by decide +kernel⟩, lg_m 1233 (by decide +kernel) rfl, lg_m 55 (by decide +kernel) rfl, _, _, rfl⟩
theorem mkX9_207 : MKV RX9 207 yX9_cutsAs cX9_cutsAs 3 (some (.int)) 2 9 := ⟨⟨lg_m 1235 (by decide +kernel) rfl, lg_m 1238 (by decide +kernel) rfl, lg_m 75 (by decide +kernel) rfl, by decide +kernel, by decide +kernel, by decide +kernel⟩, lg_m 1237 (by decide +kernel) rfl, lg_m 56 (by decide +kernel) rfl, _, _, rfl⟩
theorem mkX9_204 : MKV RX9 204 yX9_begins cX9_begins 2 none 1 9 := ⟨⟨lg_m 1239 (by decide +kernel) rfl, lg_m 1242 (by decide +kernel) rfl, lg_m 75 (by decide +kernel) rfl, by decide +kernel, by decide +kernel, by decide +kernel⟩, lg_m 1241 (by decide +kernel) rfl, lg_m 57 (by decide +kernel) rfl, _, _, rfl⟩
theorem mkX9_213 : MKV RX9 213 yX9_saysAs cX9_saysAs 3 (some (.int)) 2 9 := ⟨⟨lg_m 1243 (by decide +kernel) rfl, lg_m 1246 (by decide +kernel) rfl, lg_m 75 (by decide +kernel) rfl, by decide +kernel, by decide +kernel, by decide +kernel⟩, lg_m 1245 (by decide +kernel) rfl, lg_m 58 (by decide +kernel) rfl, _, _, rfl⟩
theorem mkX9_216 : MKV RX9 216 yX9_mNow cX9_mNow 1 (some (.int)) 0 9 := ⟨⟨lg_m 1247 (by decide +kernel) rfl, lg_m 1250 (by decide +kernel) rfl, lg_m 75 (by decide +kernel) rfl, by decide +kernel, by decide +kernel, by decide +kernel⟩, lg_m 1249 (by decide +kernel) rfl, lg_m 59 (by decide +kernel) rfl, _, _, rfl⟩
theorem mkX9_219 : MKV RX9 219 yX9_steelsAs cX9_steelsAs 3 (some (.int)) 2 9 := ⟨⟨lg_m 1251 (by decide +kernel) rfl, lg_m 1254 (by decide +kernel) rfl, lg_m 75 (by decide +kernel) rfl, by decide +kernel, by decide +kernel, by decide +kernel⟩, lg_m 1253 (by decide +kernel) rfl, lg_m 60 (by decide +kernel) rfl, _, _, rfl⟩
theorem mkX9_226 : MKV RX9 226 yX9_partsAs cX9_partsAs 5 (some (.int)) 2 9 := ⟨⟨lg_m 1255 (by decide +kernel) rfl, lg_m 1258 (by decide +kernel) rfl, lg_m 75 (by decide +kernel) rfl, by decide +kernel, by decide +kernel, by decide +kernel⟩, lg_m 1257 (by decide +kernel) rfl, lg_m 61 (by decide +kernel) rfl, _, _, rfl⟩
theorem mkL_119 : MKV RL 119 yX9_body cX9_body 2 (some (.int)) 1 9 := ⟨⟨lg_m 1259 (by decide +kernel) rfl, lg_m 1262 (by decide +kernel) rfl, lg_m 75 (by decide +kernel) rfl, by decide +kernel, by decide +kernel, by decide +kernel⟩, lg_m 1260 (by decide +kernel) rfl, lg_m 1261 (by decide +kernel) rfl, _, _, rfl⟩
theorem mkL_123 : MKV RL 123 yX9_sheet cX9_sheet 5 (some (.int)) 3 9 := ⟨⟨lg_m 1263 (by decide +kernel) rfl, lg_m 1266 (by decide +kernel) rfl, lg_m 75 (by decide +kernel) rfl, by decide +kernel, by decide +kernel, by decide +kernel⟩, lg_m 1264 (by decide +kernel) rfl, lg_m 1265 (by decide +kernel) rfl, _, _, rfl⟩
theorem mkL_127 : MKV RL 127 yX9_put cX9_put 5 (some (.int)) 3 9 := ⟨⟨lg_m 1267 (by decide +kernel) rfl, lg_m 1270 (by decide +kernel) rfl, lg_m 75 (by decide +kernel) rfl, by decide +kernel, by decide +kernel, by decide +kernel⟩, lg_m 1268 (by decide +kernel) rfl, lg_m 1269 (by decide +kernel) rfl, _, _, rfl⟩
theorem mkL_132 : MKV RL 132 yX9_move cX9_move 7 (some (.int)) 5 9 := ⟨⟨lg_m 1271 (by decide +kernel) rfl, lg_m 1274 (by decide +kernel) rfl, lg_m 75 (by decide +kernel) rfl, by decide +kernel, by decide +kernel, by decide +kernel⟩, lg_m 1272 (by decide +kernel) rfl, lg_m 1273 (by decide +kernel) rfl, _, _, rfl⟩
theorem mkL_136 : MKV RL 136 yX9_hearAll cX9_hearAll 4 (some (.int)) 1 9 := ⟨⟨lg_m 1275 (by decide +kernel) rfl, lg_m 1278 (by decide +kernel) rfl, lg_m 75 (by decide +kernel) rfl, by decide +kernel, by decide +kernel, by decide +kernel⟩, lg_m 1276 (by decide +kernel) rfl, lg_m 1277 (by decide +kernel) rfl, _, _, rfl⟩
theorem mkX9_229 : MKV RX9 229 yX9_lacks cX9_lacks 2 (some (.int)) 1 9 := ⟨⟨lg_m 1279 (by decide +kernel) rfl, lg_m 1282 (by decide +kernel) rfl, lg_m 75 (by decide +kernel) rfl, by decide +kernel, by decide +kernel, by decide +kernel⟩, lg_m 1281 (by decide +kernel) rfl, lg_m 62 (by decide +kernel) rfl, _, _, rfl⟩
theorem mkL_140 : MKV RL 140 yX9_judge cX9_judge 4 (some (.int)) 1 9 := ⟨⟨lg_m 1283 (by decide +kernel) rfl, lg_m 1286 (by decide +kernel) rfl, lg_m 75 (by decide +kernel) rfl, by decide +kernel, by decide +kernel, by decide +kernel⟩, lg_m 1284 (by decide +kernel) rfl, lg_m 1285 (by decide +kernel) rfl, _, _, rfl⟩
theorem mkL_145 : MKV RL 145 yX9_image cX9_image 1 (some (.int)) 0 9 := ⟨⟨lg_m 1287 (by decide +kernel) rfl, lg_m 1290 (by decide +kernel) rfl, lg_m 75 (by decide +kernel) rfl, by decide +kernel, by decide +kernel, by decide +kernel⟩, lg_m 1288 (by decide +kernel) rfl, lg_m 1289 (by decide +kernel) rfl, _, _, rfl⟩
theorem mkX9_232 : MKS RX9 232 yX9_copyAll cX9_copyAll 3 none 2 := ⟨⟨lg_m 1291 (by decide +kernel) rfl, lg_m 1293 (by decide +kernel) rfl, lg_m 75 (by decide +kernel) rfl, by decide +kernel, by decide +kernel, by decide +kernel⟩, lg_m 1292 (by decide +kernel) rfl⟩
theorem mkL_149 : MKV RL 149 yX9_restore cX9_restore 1 (some (.int)) 0 9 := ⟨⟨lg_m 1294 (by decide +kernel) rfl, lg_m 1297 (by decide +kernel) rfl, lg_m 75 (by decide +kernel) rfl, by decide +kernel, by decide +kernel, by decide +kernel⟩, lg_m 1295 (by decide +kernel) rfl, lg_m 1296 (by decide +kernel) rfl, _, _, rfl⟩
theorem mkL_153 : MKV RL 153 yX9_tell cX9_tell 2 (some (.int)) 1 9 := ⟨⟨lg_m 1298 (by decide +kernel) rfl, lg_m 1301 (by decide +kernel) rfl, lg_m 75 (by decide +kernel) rfl, by decide +kernel, by decide +kernel, by decide +kernel⟩, lg_m 1299 (by decide +kernel) rfl, lg_m 1300 (by decide +kernel) rfl, _, _, rfl⟩
theorem mkL_157 : MKV RL 157 yX9_check cX9_check 3 (some (.int)) 0 9 := ⟨⟨lg_m 1302 (by decide +kernel) rfl, lg_m 1305 (by decide +kernel) rfl, lg_m 75 (by decide +kernel) rfl, by decide +kernel, by decide +kernel, by decide +kernel⟩, lg_m 1303 (by decide +kernel) rfl, lg_m 1304 (by decide +kernel) rfl, _, _, rfl⟩
theorem mkL_161 : MKV RL 161 yX9_count cX9_count 2 (some (.int)) 1 9 := ⟨⟨lg_m 1306 (by decide +kernel) rfl, lg_m 1309 (by decide +kernel) rfl, lg_m 75 (by decide +kernel) rfl, by decide +kernel, by decide +kernel, by decide +kernel⟩, lg_m 1307 (by decide +kernel) rfl, lg_m 1308 (by decide +kernel) rfl, _, _, rfl⟩
theorem mkX9_239 : MKV RX9 239 yX9_pastNow cX9_pastNow 3 (some (.int)) 0 9 := ⟨⟨lg_m 1310 (by decide +kernel) rfl, lg_m 1313 (by decide +kernel) rfl, lg_m 75 (by decide +kernel) rfl, by decide +kernel, by decide +kernel, by decide +kernel⟩, lg_m 1312 (by decide +kernel) rfl, lg_m 63 (by decide +kernel) rfl, _, _, rfl⟩
theorem mkL_165 : MKV RL 165 yX9_told cX9_told 2 (some (.int)) 1 9 := ⟨⟨lg_m 1314 (by decide +kernel) rfl, lg_m 1317 (by decide +kernel) rfl, lg_m 75 (by decide +kernel) rfl, by decide +kernel, by decide +kernel, by decide +kernel⟩, lg_m 1315 (by decide +kernel) rfl, lg_m 1316 (by decide +kernel) rfl, _, _, rfl⟩
theorem iniL : Cond.initialized RL ∈ lw_g := lg_m 64 (by decide +kernel) rfl
theorem iniX8 : Cond.initialized RX8 ∈ lw_g := lg_m 65 (by decide +kernel) rfl
theorem iniX5 : Cond.initialized RX5 ∈ lw_g := lg_m 66 (by decide +kernel) rfl
theorem iniX0 : Cond.initialized RX0 ∈ lw_g := lg_m 67 (by decide +kernel) rfl
theorem iniX3 : Cond.initialized RX3 ∈ lw_g := lg_m 68 (by decide +kernel) rfl
theorem iniJ9 : Cond.initialized RJ9 ∈ lw_g := lg_m 69 (by decide +kernel) rfl
theorem iniX2 : Cond.initialized RX2 ∈ lw_g := lg_m 70 (by decide +kernel) rfl
theorem iniX1 : Cond.initialized RX1 ∈ lw_g := lg_m 71 (by decide +kernel) rfl
theorem iniX6 : Cond.initialized RX6 ∈ lw_g := lg_m 72 (by decide +kernel) rfl
theorem iniX7 : Cond.initialized RX7 ∈ lw_g := lg_m 73 (by decide +kernel) rfl
theorem iniX4 : Cond.initialized RX4 ∈ lw_g := lg_m 74 (by decide +kernel) rfl
theorem iniX9 : Cond.initialized RX9 ∈ lw_g := lg_m 75 (by decide +kernel) rfl
theorem iniJ0 : Cond.initialized RJ0 ∈ lw_g := lg_m 76 (by decide +kernel) rfl
theorem iniJ1 : Cond.initialized RJ1 ∈ lw_g := lg_m 77 (by decide +kernel) rfl
theorem iniJ2 : Cond.initialized RJ2 ∈ lw_g := lg_m 78 (by decide +kernel) rfl
theorem iniJ3 : Cond.initialized RJ3 ∈ lw_g := lg_m 79 (by decide +kernel) rfl
theorem iniJ11 : Cond.initialized RJ11 ∈ lw_g := lg_m 80 (by decide +kernel) rfl
theorem iniJ10 : Cond.initialized RJ10 ∈ lw_g := lg_m 81 (by decide +kernel) rfl
theorem iniJ6 : Cond.initialized RJ6 ∈ lw_g := lg_m 82 (by decide +kernel) rfl
theorem clL_7 : Cond.classLink RL 7 "LoanedRound" ∈ lw_g := lg_m 83 (by decide +kernel) rfl
theorem insX8 : Cond.instantiable RX8 8 ∈ lw_g := lg_m 84 (by decide +kernel) rfl
theorem clX8_7 : Cond.classLink RX8 7 "LoanedRound$State" ∈ lw_g := lg_m 91 (by decide +kernel) rfl
theorem insX5 : Cond.instantiable RX5 5 ∈ lw_g := lg_m 92 (by decide +kernel) rfl
theorem clX5_9 : Cond.classLink RX5 9 "LoanedRound$Law" ∈ lw_g := lg_m 97 (by decide +kernel) rfl
theorem insX0 : Cond.instantiable RX0 3 ∈ lw_g := lg_m 98 (by decide +kernel) rfl
theorem clX0_9 : Cond.classLink RX0 9 "LoanedRound$Row" ∈ lw_g := lg_m 103 (by decide +kernel) rfl
theorem insX3 : Cond.instantiable RX3 2 ∈ lw_g := lg_m 104 (by decide +kernel) rfl
theorem arrC_64 : Cond.arrayClass Jvm.ClassFile.FieldType.int ∈ lw_g := lg_m 128 (by decide +kernel) rfl
theorem clX5_23 : Cond.classLink RX5 23 "LoanedRound$Round" ∈ lw_g := lg_m 141 (by decide +kernel) rfl
theorem insX2 : Cond.instantiable RX2 14 ∈ lw_g := lg_m 142 (by decide +kernel) rfl
theorem clX5_32 : Cond.classLink RX5 32 "LoanedRound$Row" ∈ lw_g := lg_m 211 (by decide +kernel) rfl
theorem clX8_19 : Cond.classLink RX8 19 "LoanedRound$Reader" ∈ lw_g := lg_m 232 (by decide +kernel) rfl
theorem insX1 : Cond.instantiable RX1 5 ∈ lw_g := lg_m 233 (by decide +kernel) rfl
theorem clX1_9 : Cond.classLink RX1 9 "LoanedRound$Row" ∈ lw_g := lg_m 238 (by decide +kernel) rfl
-- Jvm.Cond.arrayClass Jvm.ClassFile.FieldType.byte
theorem clX8_26 : Cond.classLink RX8 26 "LoanedRound$Thought" ∈ lw_g := lg_m 259 (by decide +kernel) rfl
theorem insX6 : Cond.instantiable RX6 4 ∈ lw_g := lg_m 260 (by decide +kernel) rfl
theorem clX6_22 : Cond.classLink RX6 22 "LoanedRound$Round" ∈ lw_g := lg_m 265 (by decide +kernel) rfl
theorem clX8_39 : Cond.classLink RX8 39 "LoanedRound$Voices" ∈ lw_g := lg_m 282 (by decide +kernel) rfl
theorem insX7 : Cond.instantiable RX7 5 ∈ lw_g := lg_m 283 (by decide +kernel) rfl
theorem clX7_9 : Cond.classLink RX7 9 "LoanedRound$Row" ∈ lw_g := lg_m 288 (by decide +kernel) rfl
theorem clX8_46 : Cond.classLink RX8 46 "LoanedRound$Sheet" ∈ lw_g := lg_m 308 (by decide +kernel) rfl
theorem insX4 : Cond.instantiable RX4 2 ∈ lw_g := lg_m 310 (by decide +kernel) rfl
theorem clX4_9 : Cond.classLink RX4 9 "LoanedRound$Row" ∈ lw_g := lg_m 315 (by decide +kernel) rfl
theorem kkX8_293 : Cond.constant RX8 293 (-1000000000) ∈ lw_g := lg_m 362 (by decide +kernel) rfl
theorem kkJ2_227 : Cond.constant RJ2 227 (65536) ∈ lw_g := lg_m 569 (by decide +kernel) rfl
theorem kkJ11_110 : Cond.constant RJ11 110 (55232) ∈ lw_g := lg_m 608 (by decide +kernel) rfl
theorem kkJ11_76 : Cond.constant RJ11 76 (56320) ∈ lw_g := lg_m 612 (by decide +kernel) rfl
theorem kkX2_110 : Cond.constant RX2 110 (1103515245) ∈ lw_g := lg_m 684 (by decide +kernel) rfl
theorem kkJ6_265 : Cond.constant RJ6 265 (1431655765) ∈ lw_g := lg_m 761 (by decide +kernel) rfl
theorem kkJ6_266 : Cond.constant RJ6 266 (858993459) ∈ lw_g := lg_m 762 (by decide +kernel) rfl
theorem kkJ6_267 : Cond.constant RJ6 267 (252645135) ∈ lw_g := lg_m 763 (by decide +kernel) rfl
theorem clL_10 : Cond.classLink RL 10 "LoanedRoundModel" ∈ lw_g := lg_m 911 (by decide +kernel) rfl
theorem insX9 : Cond.instantiable RX9 20 ∈ lw_g := lg_m 912 (by decide +kernel) rfl
theorem kkX9_46 : Cond.constant RX9 46 (-1000000000) ∈ lw_g := lg_m 989 (by decide +kernel) rfl
theorem kkX9_55 : Cond.constantLong RX9 55 (255) ∈ lw_g := lg_m 990 (by decide +kernel) rfl
theorem kkX9_169 : Cond.constant RX9 169 (1103515245) ∈ lw_g := lg_m 1158 (by decide +kernel) rfl
theorem kkL_47 : Cond.constantLong RL 47 (4294967295) ∈ lw_g := lg_m 1318 (by decide +kernel) rfl
end
section
/-! THE ABSTRACT MACHINE: the cells of a world are named by their places in a list (a reference to cell i is '.ref i'); constants of the class files, that nobody writes, are '.retAddr k'. -/
abbrev AE : Type := (Nat × vp_A) ⊕ (Nat × List Value)
abbrev AV : Type := Program × Launch × Env × State × MethodId × Array Value × List Frame × Method × Code × va_G × (Nat → ClassId) × (Nat → Nat) × (Nat → Prop)
def cv (ad sa : Nat → Nat) (v : Value) : Value := match v with
  | .ref i => .ref (ad i)
  | .retAddr k => .ref (sa k)
  | .int x => .int x
  | .long x => .long x
  | .float x => .float x
  | .double x => .double x
  | .null => .null
def ca (ad : Nat → Nat) (a : vp_A) : vp_A := match a with
  | (n, .inl f) => (n, .inl f)
  | (n, .inr (.inl f)) => (n, .inr (.inl f))
  | (n, .inr (.inr (.inl f))) => (n, .inr (.inr (.inl f)))
  | (n, .inr (.inr (.inr (.inl f)))) => (n, .inr (.inr (.inr (.inl f))))
  | (n, .inr (.inr (.inr (.inr f)))) => (n, .inr (.inr (.inr (.inr (fun j => (f j).map ad)))))
def ce (ad sa : Nat → Nat) (tc : Nat → ClassId) (e : AE) : va_E := match e with
  | .inl (k, a) => .inl (tc k, ca ad a)
  | .inr (c, fs) => .inr (c, fs.map (cv ad sa))
def cw (ad sa : Nat → Nat) (tc : Nat → ClassId) (h : List AE) : va_W := h.mapIdx (fun i e => (ad i, ce ad sa tc e))
def cl' (ad sa : Nat → Nat) (q : Nat × Value) : Nat × Value := (q.1, cv ad sa q.2)
def getO {α : Type} : List α → Nat → Option α
  | [], _ => none
  | a :: _, 0 => some a
  | _ :: l, k + 1 => getO l k
def setO {α : Type} : List α → Nat → α → Option (List α)
  | [], _, _ => none
  | _ :: l, 0, e => some (e :: l)
  | a :: l, k + 1, e => match setO l k e with
    | some l' => some (a :: l')
    | none => none
theorem getO_eq {α : Type} : ∀ (l : List α) (k : Nat), getO l k = l[k]?
  | [], _ => by simp [getO]
  | _ :: _, 0 => by simp [getO]
  | _ :: l, k + 1 => by simp [getO, getO_eq l k]
theorem setO_eq {α : Type} : ∀ (l : List α) (k : Nat) (e : α) (l' : List α), setO l k e = some l' → l' = l.set k e ∧ k < l.length
  | [], _, _, _, h => by simp [setO] at h
  | _ :: l, 0, e, l', h => by
    simp only [setO, Option.some.injEq] at h
    subst h
    exact ⟨rfl, Nat.zero_lt_succ _⟩
  | a :: l, k + 1, e, l', h => by
    cases h2 : setO l k e with
    | none => simp [setO, h2] at h
    | some l2 =>
      simp only [setO, h2, Option.some.injEq] at h
      obtain ⟨h3, h4⟩ := setO_eq l k e l2 h2
      subst h
      rw [h3]
      exact ⟨rfl, Nat.succ_lt_succ h4⟩
def gets (h : List AE) : List Nat → Option (List AE)
  | [] => some []
  | i :: is => match getO h i with
    | none => none
    | some e => match gets h is with
      | none => none
      | some r => some (e :: r)
/-- the callee's cells behind the call, written back at their places -/
def wbO : List Nat → List AE → List AE → Option (List AE)
  | [], _, h => some h
  | i :: is, e :: r, h => match setO h i e with
    | some h' => wbO is r h'
    | none => none
  | _ :: _, [], _ => none
def lvG : List (Nat × Value) → Nat → Option Value
  | [], _ => none
  | (k, v) :: l, i => match Nat.beq k i with
    | true => some v
    | false => lvG l i
def cat2 : Value → Bool
  | .long _ => true
  | .double _ => true
  | _ => false
def lvF : List (Nat × Value) → Nat → Option (List (Nat × Value))
  | [], _ => some []
  | (k, w) :: l, i => match lvF l i with
    | none => none
    | some l' => match Nat.beq k i || (Nat.beq (k + 1) i && cat2 w) with
      | true => some l'
      | false => some ((k, w) :: l')
def lvP (lv : List (Nat × Value)) : List Nat → Option (List (Nat × Value))
  | [] => some []
  | k :: ks => match lvG lv k with
    | none => none
    | some v => match lvP lv ks with
      | none => none
      | some r => some ((k, v) :: r)
theorem lvG_mem : ∀ (l : List (Nat × Value)) (i : Nat) (v : Value), lvG l i = some v → (i, v) ∈ l
  | [], _, _, h => by simp [lvG] at h
  | (k, w) :: l, i, v, h => by
    cases hb : Nat.beq k i with
    | true =>
      simp only [lvG, hb, Option.some.injEq] at h
      subst h
      rw [Nat.eq_of_beq_eq_true hb]
      exact List.mem_cons_self
    | false =>
      simp only [lvG, hb] at h
      exact List.mem_cons_of_mem _ (lvG_mem l i v h)
theorem cat2_eq (v : Value) : cat2 v = (v.category == 2) := by cases v <;> rfl
theorem lvF_mem : ∀ (l : List (Nat × Value)) (i : Nat) (l' : List (Nat × Value)), lvF l i = some l' → ∀ q ∈ l', q ∈ l ∧ (!(q.1 == i) && !(q.1 + 1 == i && q.2.category == 2)) = true
  | [], _, _, h, q, hq => by
    simp only [lvF, Option.some.injEq] at h
    subst h
    cases hq
  | (k, w) :: l, i, l', h, q, hq => by
    cases h2 : lvF l i with
    | none => simp [lvF, h2] at h
    | some l2 =>
      have ih := lvF_mem l i l2 h2
      cases hb : (Nat.beq k i || (Nat.beq (k + 1) i && cat2 w)) with
      | true =>
        simp only [lvF, h2, hb, Option.some.injEq] at h
        subst h
        obtain ⟨a, b⟩ := ih q hq
        exact ⟨List.mem_cons_of_mem _ a, b⟩
      | false =>
        simp only [lvF, h2, hb, Option.some.injEq] at h
        subst h
        rcases List.mem_cons.mp hq with rfl | hq
        · refine ⟨List.mem_cons_self, ?_⟩
          rw [cat2_eq] at hb
          simp only [Bool.or_eq_false_iff] at hb
          obtain ⟨h3, h4⟩ := hb
          have e1 : (k == i) = false := by rw [beq_eq_false_iff_ne]; exact Nat.ne_of_beq_eq_false h3
          have e2 : (k + 1 == i && w.category == 2) = false := by
            cases hz : (k + 1 == i) with
            | false => rfl
            | true =>
              have hz' : k + 1 = i := by simpa using hz
              rw [hz', Nat.beq_refl] at h4
              simpa using h4
          show (!(k == i) && !(k + 1 == i && w.category == 2)) = true
          rw [e1, e2]
          rfl
        · obtain ⟨a, b⟩ := ih q hq
          exact ⟨List.mem_cons_of_mem _ a, b⟩
theorem lvP_mem : ∀ (l : List (Nat × Value)) (ks : List Nat) (l' : List (Nat × Value)), lvP l ks = some l' → ∀ q ∈ l', q ∈ l
  | l, [], l', h, q, hq => by
    simp only [lvP, Option.some.injEq] at h
    subst h
    cases hq
  | l, k :: ks, l', h, q, hq => by
    cases h1 : lvG l k with
    | none => simp [lvP, h1] at h
    | some v =>
      cases h2 : lvP l ks with
      | none => simp [lvP, h1, h2] at h
      | some r =>
        simp only [lvP, h1, h2, Option.some.injEq] at h
        subst h
        rcases List.mem_cons.mp hq with rfl | hq
        · exact lvG_mem _ _ _ h1
        · exact lvP_mem l ks r h2 q hq
theorem cw_get {ad sa : Nat → Nat} {tc : Nat → ClassId} {h : List AE} {k : Nat} {e : AE} (hk : getO h k = some e) : (cw ad sa tc h)[k]? = some (ad k, ce ad sa tc e) := by
  rw [getO_eq] at hk
  simp [cw, List.getElem?_mapIdx, hk]
theorem cw_inv {ad sa : Nat → Nat} {tc : Nat → ClassId} {h : List AE} {k : Nat} {q : Nat × va_E} (hk : (cw ad sa tc h)[k]? = some q) : ∃ e, h[k]? = some e ∧ q = (ad k, ce ad sa tc e) := by
  simp only [cw, List.getElem?_mapIdx, Option.map_eq_some_iff] at hk
  obtain ⟨e, h1, h2⟩ := hk
  exact ⟨e, h1, h2.symm⟩
theorem cw_set {ad sa : Nat → Nat} {tc : Nat → ClassId} {h : List AE} {k : Nat} {e : AE} {h' : List AE} (hs : setO h k e = some h') : cw ad sa tc h' = (cw ad sa tc h).set k (ad k, ce ad sa tc e) ∧ h'.length = h.length := by
  obtain ⟨rfl, hl⟩ := setO_eq _ _ _ _ hs
  refine ⟨?_, by simp⟩
  apply List.ext_getElem?
  intro i
  by_cases hi : k = i
  · subst hi
    simp [cw, hl]
  · simp [cw, List.getElem?_mapIdx, List.getElem?_set, hi]
theorem cw_len {ad sa : Nat → Nat} {tc : Nat → ClassId} {h : List AE} : (cw ad sa tc h).length = h.length := by simp [cw]
def vok : FieldType → Value → Bool
  | .int, .int _ => true
  | .long, .long _ => true
  | .boolean, .int x => x == 0 || x == 1
  | .object _, .ref _ => true
  | .object _, .null => true
  | .object _, .retAddr _ => true
  | .array _, .ref _ => true
  | .array _, .null => true
  | _, _ => false
theorem vok_ok {ad sa : Nat → Nat} {ty : FieldType} {v : Value} (h : vok ty v = true) : narrow ty (cv ad sa v) = cv ad sa v ∧ fits ty (cv ad sa v) = true := by
  cases ty <;> cases v <;> simp only [vok] at h <;> first | (cases h; done) | exact ⟨rfl, rfl⟩ | (simp only [Bool.or_eq_true, beq_iff_eq] at h; rcases h with h | h <;> subst h <;> first | exact ⟨show narrow .boolean (.int 0) = .int 0 by decide, show fits .boolean (.int 0) = true by decide⟩ | exact ⟨show narrow .boolean (.int 1) = .int 1 by decide, show fits .boolean (.int 1) = true by decide⟩)
def aboveL : List Int32 := [0, 0, 0, 0, 1, 2, 0]
def bodiesL : List Int32 := [10, 11, 12, 13, 20, 0, 0, 21, 0, 30, 0, 0, 0, 0, 40, 0, 50, 0, 51, 0, 0, 60, 0, 0, 70, 71, 0, 0]
def strLen : List Nat := [0, 3, 3]
def strByt : List (List Int32) := [[], [115, 118, 100], [108, 115, 100]]
def nestF : Cond := .fieldLinkNest "LoanedRound$Voices" 57 "LoanedRound" "ABOVE" "[I" "LoanedRound"
def yX8_isWithin' : MethodName := ⟨"LoanedRound", "isWithin", "(III)Z"⟩
def nestM : Cond := .methodLinkNest "LoanedRound$Round" 119 yX8_isWithin' "LoanedRound"
/-- what the class files hold, outside of the worlds -/
def TB (sa : Nat → Nat) (A : Nat → Prop) (U : State) (H : Heap) : Prop :=
  (va_Z RX8 "ABOVE" "[I" (.ref (sa 0)) A U H ∧ va_T .int (sa 0) 7 (fun j => .int (aboveL.getD j 0)) A U H) ∧
  (va_Z RX7 "BODIES" "[I" (.ref (sa 1)) A U H ∧ va_T .int (sa 1) 28 (fun j => .int (bodiesL.getD j 0)) A U H) ∧
  va_Z "java/lang/String" "COMPACT_STRINGS" "Z" (.int 1) A U H ∧
  vk_S 3 strLen strByt (fun i => sa (2 + i)) (fun i => sa (5 + i)) A U H ∧
  (vk_R RX1 23 "" (sa 2) U ∧ vk_R RX1 36 "svd" (sa 3) U ∧ vk_R RX1 38 "lsd" (sa 4) U) ∧
  va_Nw nestF U ∧ va_Nw nestM U ∧ va_AO RX4 U
theorem TB.warm {sa : Nat → Nat} {A : Nat → Prop} {s U : State} {H : Heap} (h : TB sa A s H) (hW : s.WarmedH U.vm) : TB sa A U H := by
  obtain ⟨⟨a1, a2⟩, ⟨b1, b2⟩, c1, d1, ⟨e1, e2, e3⟩, f1, g1, i1⟩ := h
  exact ⟨⟨va_Z.moved hW.alike a1, va_T.moved hW.alike a2⟩, ⟨va_Z.moved hW.alike b1, va_T.moved hW.alike b2⟩, va_Z.moved hW.alike c1, vk_S.moved hW.alike d1, ⟨vk_R.warm hW e1, vk_R.warm hW e2, vk_R.warm hW e3⟩, va_Nw.warmF hW f1, va_Nw.warmM hW g1, va_AO.moved hW.alike i1⟩
theorem TB.kept {sa : Nat → Nat} {A : Nat → Prop} {U : State} {H H1 : Heap} (h : TB sa A U H) (hq : ∀ a : Nat, a < H.size → ¬ A a → H1[a]? = H[a]?) : TB sa A U H1 := by
  obtain ⟨⟨a1, a2⟩, ⟨b1, b2⟩, c1, d1, e, f1, g1, i1⟩ := h
  exact ⟨⟨a1.kept hq, a2.kept hq⟩, ⟨b1.kept hq, b2.kept hq⟩, c1.kept hq, d1.kept hq, e, f1, g1, i1⟩
theorem TB.narrow {sa : Nat → Nat} {A B : Nat → Prop} {U : State} {H : Heap} (h : TB sa A U H) (hAB : ∀ q, B q → A q) : TB sa B U H := by
  obtain ⟨⟨a1, a2⟩, ⟨b1, b2⟩, c1, d1, e, f1, g1, i1⟩ := h
  exact ⟨⟨a1.narrow hAB, a2.narrow hAB⟩, ⟨b1.narrow hAB, b2.narrow hAB⟩, c1.narrow hAB, d1.narrow hAB, e, f1, g1, i1⟩
theorem TB.same {sa : Nat → Nat} {A : Nat → Prop} {s U : State} {H : Heap} (h : TB sa A s H) (hv : U.vm = s.vm) : TB sa A U H := by
  have hA : s.vm.Alike U.vm := by rw [hv]; exact Vm.Alike.refl _
  obtain ⟨⟨a1, a2⟩, ⟨b1, b2⟩, c1, d1, ⟨e1, e2, e3⟩, f1, g1, i1⟩ := h
  exact ⟨⟨va_Z.moved hA a1, va_T.moved hA a2⟩, ⟨va_Z.moved hA b1, va_T.moved hA b2⟩, va_Z.moved hA c1, vk_S.moved hA d1, ⟨vk_R.same hv e1, vk_R.same hv e2, vk_R.same hv e3⟩, va_Nw.same rfl hv.symm f1, va_Nw.same rfl hv.symm g1, va_AO.moved hA i1⟩
def tysO (tc : Nat → ClassId) : List (ClassId × FieldType) := [(tc 0, .int), (tc 1, .object RX4)]
/-- where a walk stands: the machine, the method's code, its words, the classes, the constants -/
def AGood (E : AV) (cc : ByteArray) (nL : Nat) (own : String) (ret : Option FieldType) (nm : String) : Prop := match E with
  | (p, _, _, s, m, args, _, meth, c, D, tc, sa, A) => CallFix p m c cc nL s args lw_g own ∧ va_K D vwCl (tysO tc) s ∧ TB sa A s s.heap ∧ (∀ q : Nat, s.heap.size ≤ q → A q) ∧ meth.sig.returnType = ret ∧ meth.locks = false ∧ meth.name = nm
/-- from here the machine comes to a state with Q -/
def AW (E : AV) (R : Room) (nL : Nat) (Q : State → Prop) (ad0 : Nat → Nat) (n0 cells slots pc : Nat) (lv : List (Nat × Value)) (st : List Value) (h : List AE) : Prop := match E with
  | (p, l, e, s, m, args, below, meth, c, D, tc, sa, A) => ∀ (ad : Nat → Nat) (H : Heap) (locs : List Loc) (ls : Array Slot), va_P D vwCl (cw ad sa tc h) H → va_D A (cw ad sa tc h) → va_S A s.heap H locs → lv_has ls nL (lv.map (cl' ad sa)) → h.length = n0 + cells → (∀ i, i < n0 → ad i = ad0 i) → (cells = 0 → ad = ad0) →
      W p l e R s m args below meth c H locs cells slots Q (F0 m pc ls (st.map (cv ad sa)))
section ROWS
variable {E : AV} {R : Room} {nL : Nat} {Q : State → Prop} {ad0 : Nat → Nat} {n0 cells slots pc : Nat} {lv : List (Nat × Value)} {st : List Value} {h : List AE} {cc : ByteArray} {own : String} {ret : Option FieldType} {nm : String}
theorem A_iconst (hE : AGood E cc nL own ret nm) (q : Nat) {n : Int} (hd : decode cc pc = .ok (.iconst n, 1)) (hq : pc + 1 = q) (v : Int32) (hv : Int32.ofInt n = v) (kk : AW E R nL Q ad0 n0 cells slots q lv (.int v :: st) h) : AW E R nL Q ad0 n0 cells slots pc lv st h := by
  obtain ⟨p, l, e, s, m, args, below, meth, c, D, tc, sa, A⟩ := E
  subst hq
  obtain ⟨⟨hx, hb, hml, hown, hts⟩, hK, hT, hA, hr, hlk, hnm⟩ := hE
  intro ad H locs ls hP hD hS hl hn h0 h1
  exact lv_iconst hx hb hd hv (kk ad H locs ls hP hD hS hl hn h0 h1)
theorem A_iload_n (hE : AGood E cc nL own ret nm) (q : Nat) {k : Fin 4} {x : Int32} (hd : decode cc pc = .ok (.iload_n k, 1)) (hq : pc + 1 = q) (hv : lvG lv k = some (.int x)) (kk : AW E R nL Q ad0 n0 cells slots q lv (.int x :: st) h) : AW E R nL Q ad0 n0 cells slots pc lv st h := by
  obtain ⟨p, l, e, s, m, args, below, meth, c, D, tc, sa, A⟩ := E
  subst hq
  obtain ⟨⟨hx, hb, hml, hown, hts⟩, hK, hT, hA, hr, hlk, hnm⟩ := hE
  intro ad H locs ls hP hD hS hl hn h0 h1
  exact lv_iload_n hx hb hd rfl (hl.2.2 (cl' ad sa ((k : Nat), Value.int x)) (List.mem_map_of_mem (lvG_mem _ _ _ hv))) (kk ad H locs ls hP hD hS hl hn h0 h1)
theorem A_iadd (hE : AGood E cc nL own ret nm) (q : Nat) {x y : Int32} (hd : decode cc pc = .ok (.iadd, 1)) (hq : pc + 1 = q) (kk : AW E R nL Q ad0 n0 cells slots q lv (.int (x + y) :: st) h) : AW E R nL Q ad0 n0 cells slots pc lv (.int y :: .int x :: st) h := by
  obtain ⟨p, l, e, s, m, args, below, meth, c, D, tc, sa, A⟩ := E
  subst hq
  obtain ⟨⟨hx, hb, hml, hown, hts⟩, hK, hT, hA, hr, hlk, hnm⟩ := hE
  intro ad H locs ls hP hD hS hl hn h0 h1
  exact lv_iadd hx hb hd (kk ad H locs ls hP hD hS hl hn h0 h1)
theorem A_istore_n (hE : AGood E cc nL own ret nm) (q : Nat) {k : Fin 4} {x : Int32} {lv' : List (Nat × Value)} (hd : decode cc pc = .ok (.istore_n k, 1)) (hq : pc + 1 = q) (hk : Nat.blt k nL = true) (hf : lvF lv k = some lv') (kk : AW E R nL Q ad0 n0 cells slots q (((k : Nat), .int x) :: lv') st h) : AW E R nL Q ad0 n0 cells slots pc lv (.int x :: st) h := by
  obtain ⟨p, l, e, s, m, args, below, meth, c, D, tc, sa, A⟩ := E
  subst hq
  obtain ⟨⟨hx, hb, hml, hown, hts⟩, hK, hT, hA, hr, hlk, hnm⟩ := hE
  intro ad H locs ls hP hD hS hl hn h0 h1
  refine lv_istore_n hx hb hd rfl hl (Nat.le_of_ble_eq_true hk) rfl fun ls' hl' => kk ad H locs ls' hP hD hS ⟨hl'.1, hl'.2.1, fun z hz => hl'.2.2 z ?_⟩ hn h0 h1
  rcases List.mem_cons.mp hz with rfl | hz
  · exact List.mem_cons_self
  · obtain ⟨w, hw, rfl⟩ := List.mem_map.mp hz
    obtain ⟨g1, g2⟩ := lvF_mem _ _ _ hf w hw
    refine List.mem_cons_of_mem _ (List.mem_filter.mpr ⟨List.mem_map_of_mem g1, ?_⟩)
    obtain ⟨w1, w2⟩ := w
    cases w2 <;> exact g2
theorem A_get (hE : AGood E cc nL own ret nm) (q : Nat) {idx ci k i : Nat} {fin : Bool} {ty : FieldType} {fs : List Value} {v : Value} (hd : decode cc pc = .ok (.getfield idx, 3)) (hq : pc + 3 = q) (hf : FK own idx ci k fin ty) (hh : getO h i = some (.inr (ci, fs))) (hv : getO fs k = some v) (kk : AW E R nL Q ad0 n0 cells slots q lv (v :: st) h) : AW E R nL Q ad0 n0 cells slots pc lv (.ref i :: st) h := by
  obtain ⟨p, l, e, s, m, args, below, meth, c, D, tc, sa, A⟩ := E
  subst hq
  obtain ⟨⟨hx, hb, hml, hown, hts⟩, hK, hT, hA, hr, hlk, hnm⟩ := hE
  intro ad H locs ls hP hD hS hl hn h0 h1
  obtain ⟨C, T, N, ⟨hc, hin, -, -⟩, hk, hlink, hdecl, -, -⟩ := hf
  rw [getO_eq] at hv
  exact va_get hx hb hts hin hown hK hP i (cw_get hh) hc k hk (hts _ hlink) (fun x hx => hdecl ▸ hx) (v := cv ad sa v) (by rw [List.getElem?_map, hv]; rfl) hd (kk ad H locs ls hP hD hS hl hn h0 h1)
theorem A_put (hE : AGood E cc nL own ret nm) (q : Nat) {idx ci k i : Nat} {ty : FieldType} {fs fs' : List Value} {h' : List AE} {v : Value} (hd : decode cc pc = .ok (.putfield idx, 3)) (hq : pc + 3 = q) (hf : FK own idx ci k false ty) (hh : getO h i = some (.inr (ci, fs))) (hs : setO fs k v = some fs') (hs2 : setO h i (.inr (ci, fs')) = some h') (hok : vok ty v = true) (kk : AW E R nL Q ad0 n0 cells slots q lv st h') : AW E R nL Q ad0 n0 cells slots pc lv (v :: .ref i :: st) h := by
  obtain ⟨p, l, e, s, m, args, below, meth, c, D, tc, sa, A⟩ := E
  subst hq
  obtain ⟨⟨hx, hb, hml, hown, hts⟩, hK, hT, hA, hr, hlk, hnm⟩ := hE
  intro ad H locs ls hP hD hS hl hn h0 h1
  obtain ⟨C, T, N, ⟨hc, hin, ⟨ty0, hty⟩, hap⟩, hk, hlink, hdecl, hfin, hpd⟩ := hf
  obtain ⟨rfl, hkl⟩ := setO_eq _ _ _ _ hs
  obtain ⟨e1, e2⟩ := cw_set (ad := ad) (sa := sa) (tc := tc) hs2
  obtain ⟨k1, k2⟩ := vok_ok (ad := ad) (sa := sa) hok
  refine va_put hx hb hts hin ty0 hty hap hown hK hP hD hS i (cw_get hh) hc k hk (hts _ hlink) (fun x hx => hdecl ▸ hx) hfin hpd (v := cv ad sa v) k1 k2 (by rw [List.length_map]; exact hkl) hd fun H1 locs1 hP1 hD1 hS1 => ?_
  have e3 : (ce ad sa tc (.inr (ci, fs.set k v))) = .inr (ci, (fs.map (cv ad sa)).set k (cv ad sa v)) := by
    show (Sum.inr (ci, (fs.set k v).map (cv ad sa)) : va_E) = _
    rw [List.map_set]
  rw [e3] at e1
  rw [← e1] at hP1 hD1
  exact kk ad H1 locs1 ls hP1 hD1 hS1 hl (e2.trans hn) h0 h1
theorem A_putF (hE : AGood E cc nL own ret "<init>") (q : Nat) {idx ci k i : Nat} {ty : FieldType} {fs fs' : List Value} {h' : List AE} {v : Value} (hd : decode cc pc = .ok (.putfield idx, 3)) (hq : pc + 3 = q) (hf : FK own idx ci k true ty) (hci : (vwCl[ci]?).map (fun z => z.1) = some own) (hh : getO h i = some (.inr (ci, fs))) (hs : setO fs k v = some fs') (hs2 : setO h i (.inr (ci, fs')) = some h') (hok : vok ty v = true) (kk : AW E R nL Q ad0 n0 cells slots q lv st h') : AW E R nL Q ad0 n0 cells slots pc lv (v :: .ref i :: st) h := by
  obtain ⟨p, l, e, s, m, args, below, meth, c, D, tc, sa, A⟩ := E
  subst hq
  obtain ⟨⟨hx, hb, hml, hown, hts⟩, hK, hT, hA, hr, hlk, hnm⟩ := hE
  intro ad H locs ls hP hD hS hl hn h0 h1
  obtain ⟨C, T, N, ⟨hc, hin, ⟨ty0, hty⟩, hap⟩, hk, hlink, hdecl, hfin, hpd⟩ := hf
  have hCo : C = own := by
    rw [hc] at hci
    exact Option.some.inj hci
  obtain ⟨rfl, hkl⟩ := setO_eq _ _ _ _ hs
  obtain ⟨e1, e2⟩ := cw_set (ad := ad) (sa := sa) (tc := tc) hs2
  obtain ⟨k1, k2⟩ := vok_ok (ad := ad) (sa := sa) hok
  refine va_putF hx hb hts hin ty0 hty hap hown hK hP hD hS i (cw_get hh) hc k hk (hts _ hlink) (fun x hx => hdecl ▸ hx) hfin hnm (hdecl.trans hCo) hpd (v := cv ad sa v) k1 k2 (by rw [List.length_map]; exact hkl) hd fun H1 locs1 hP1 hD1 hS1 => ?_
  have e3 : (ce ad sa tc (.inr (ci, fs.set k v))) = .inr (ci, (fs.map (cv ad sa)).set k (cv ad sa v)) := by
    show (Sum.inr (ci, (fs.set k v).map (cv ad sa)) : va_E) = _
    rw [List.map_set]
  rw [e3] at e1
  rw [← e1] at hP1 hD1
  exact kk ad H1 locs1 ls hP1 hD1 hS1 hl (e2.trans hn) h0 h1
theorem A_iaload (hE : AGood E cc nL own ret nm) (q : Nat) {i n : Nat} {f : Nat → Int32} {x : Int32} (hd : decode cc pc = .ok (.iaload, 1)) (hq : pc + 1 = q) (hh : getO h i = some (.inl (0, n, .inl f))) (hin : vp_in x n) (kk : AW E R nL Q ad0 n0 cells slots q lv (.int (f x.toNatClampNeg) :: st) h) : AW E R nL Q ad0 n0 cells slots pc lv (.int x :: .ref i :: st) h := by
  obtain ⟨p, l, e, s, m, args, below, meth, c, D, tc, sa, A⟩ := E
  subst hq
  obtain ⟨⟨hx, hb, hml, hown, hts⟩, hK, hT, hA, hr, hlk, hnm⟩ := hE
  intro ad H locs ls hP hD hS hl hn h0 h1
  exact va_iald hx hb hK hP i 0 (cw_get hh) rfl hin hd (kk ad H locs ls hP hD hS hl hn h0 h1)
theorem A_iastore (hE : AGood E cc nL own ret nm) (q : Nat) {i n : Nat} {f : Nat → Int32} {x y : Int32} {h' : List AE} (hd : decode cc pc = .ok (.iastore, 1)) (hq : pc + 1 = q) (hh : getO h i = some (.inl (0, n, .inl f))) (hin : vp_in x n) (hs : setO h i (.inl (0, n, .inl (upd f x.toNatClampNeg y))) = some h') (kk : AW E R nL Q ad0 n0 cells slots q lv st h') : AW E R nL Q ad0 n0 cells slots pc lv (.int y :: .int x :: .ref i :: st) h := by
  obtain ⟨p, l, e, s, m, args, below, meth, c, D, tc, sa, A⟩ := E
  subst hq
  obtain ⟨⟨hx, hb, hml, hown, hts⟩, hK, hT, hA, hr, hlk, hnm⟩ := hE
  intro ad H locs ls hP hD hS hl hn h0 h1
  obtain ⟨e1, e2⟩ := cw_set (ad := ad) (sa := sa) (tc := tc) hs
  refine va_iast hx hb hK hP hD hS i 0 (cw_get hh) rfl hin hd fun H1 locs1 hP1 hD1 hS1 => ?_
  have hP1 : va_P D vwCl ((cw ad sa tc h).set i (ad i, ce ad sa tc (.inl (0, n, .inl (upd f x.toNatClampNeg y))))) H1 := hP1
  have hD1 : va_D A ((cw ad sa tc h).set i (ad i, ce ad sa tc (.inl (0, n, .inl (upd f x.toNatClampNeg y))))) := hD1
  rw [← e1] at hP1 hD1
  exact kk ad H1 locs1 ls hP1 hD1 hS1 hl (e2.trans hn) h0 h1
theorem A_lv (ks : List Nat) {lv' : List (Nat × Value)} (hp : lvP lv ks = some lv') (kk : AW E R nL Q ad0 n0 cells slots pc lv' st h) : AW E R nL Q ad0 n0 cells slots pc lv st h := by
  obtain ⟨p, l, e, s, m, args, below, meth, c, D, tc, sa, A⟩ := E
  intro ad H locs ls hP hD hS hl hn h0 h1
  refine kk ad H locs ls hP hD hS ⟨hl.1, hl.2.1, fun z hz => hl.2.2 z ?_⟩ hn h0 h1
  obtain ⟨w, hw, rfl⟩ := List.mem_map.mp hz
  exact List.mem_map_of_mem (lvP_mem _ _ _ hp w hw)
end ROWS
end
section
/-- the rest of a division -/
def rm (x y : Int32) : Int32 := x - x / y * y
section ROWS2
variable {E : AV} {R : Room} {nL : Nat} {Q : State → Prop} {ad0 : Nat → Nat} {n0 cells slots pc : Nat} {lv : List (Nat × Value)} {st : List Value} {h : List AE} {cc : ByteArray} {own : String} {ret : Option FieldType} {nm : String}

theorem A_bipush (hE : AGood E cc nL own ret nm) (q : Nat) {n : Int} (hd : decode cc pc = .ok (.bipush n, 2)) (hq : pc + 2 = q) (v : Int32) (hv : (Int8.ofInt n).toInt32 = v) (kk : AW E R nL Q ad0 n0 cells slots q lv (.int v :: st) h) : AW E R nL Q ad0 n0 cells slots pc lv st h := by
  obtain ⟨p, l, e, s, m, args, below, meth, c, D, tc, sa, A⟩ := E
  subst hq
  obtain ⟨⟨hx, hb, hml, hown, hts⟩, hK, hT, hA, hr, hlk, hnm⟩ := hE
  intro ad H locs ls hP hD hS hl hn h0 h1
  exact lv_bipush hx hb hd hv (kk ad H locs ls hP hD hS hl hn h0 h1)

theorem A_sipush (hE : AGood E cc nL own ret nm) (q : Nat) {n : Int} (hd : decode cc pc = .ok (.sipush n, 3)) (hq : pc + 3 = q) (v : Int32) (hv : (Int16.ofInt n).toInt32 = v) (kk : AW E R nL Q ad0 n0 cells slots q lv (.int v :: st) h) : AW E R nL Q ad0 n0 cells slots pc lv st h := by
  obtain ⟨p, l, e, s, m, args, below, meth, c, D, tc, sa, A⟩ := E
  subst hq
  obtain ⟨⟨hx, hb, hml, hown, hts⟩, hK, hT, hA, hr, hlk, hnm⟩ := hE
  intro ad H locs ls hP hD hS hl hn h0 h1
  exact lv_sipush hx hb hd hv (kk ad H locs ls hP hD hS hl hn h0 h1)

theorem A_ldc (hE : AGood E cc nL own ret nm) (q : Nat) {idx : Nat} {v : Int32} (hd : decode cc pc = .ok (.ldc idx, 2)) (hq : pc + 2 = q) (hc : Cond.constant own idx v ∈ lw_g) (kk : AW E R nL Q ad0 n0 cells slots q lv (.int v :: st) h) : AW E R nL Q ad0 n0 cells slots pc lv st h := by
  obtain ⟨p, l, e, s, m, args, below, meth, c, D, tc, sa, A⟩ := E
  subst hq
  obtain ⟨⟨hx, hb, hml, hown, hts⟩, hK, hT, hA, hr, hlk, hnm⟩ := hE
  intro ad H locs ls hP hD hS hl hn h0 h1
  exact lv_ldc hx hb hown (hts _ hc) hd (kk ad H locs ls hP hD hS hl hn h0 h1)

theorem A_ldcw (hE : AGood E cc nL own ret nm) (q : Nat) {idx : Nat} {v : Int32} (hd : decode cc pc = .ok (.ldc_w idx, 3)) (hq : pc + 3 = q) (hc : Cond.constant own idx v ∈ lw_g) (kk : AW E R nL Q ad0 n0 cells slots q lv (.int v :: st) h) : AW E R nL Q ad0 n0 cells slots pc lv st h := by
  obtain ⟨p, l, e, s, m, args, below, meth, c, D, tc, sa, A⟩ := E
  subst hq
  obtain ⟨⟨hx, hb, hml, hown, hts⟩, hK, hT, hA, hr, hlk, hnm⟩ := hE
  intro ad H locs ls hP hD hS hl hn h0 h1
  exact lv_ldcw hx hb hown (hts _ hc) hd (kk ad H locs ls hP hD hS hl hn h0 h1)

theorem A_ldc2 (hE : AGood E cc nL own ret nm) (q : Nat) {idx : Nat} {v : Int64} (hd : decode cc pc = .ok (.ldc2_w idx, 3)) (hq : pc + 3 = q) (hc : Cond.constantLong own idx v ∈ lw_g) (kk : AW E R nL Q ad0 n0 cells slots q lv (.long v :: st) h) : AW E R nL Q ad0 n0 cells slots pc lv st h := by
  obtain ⟨p, l, e, s, m, args, below, meth, c, D, tc, sa, A⟩ := E
  subst hq
  obtain ⟨⟨hx, hb, hml, hown, hts⟩, hK, hT, hA, hr, hlk, hnm⟩ := hE
  intro ad H locs ls hP hD hS hl hn h0 h1
  exact lv_ldc2 hx hb hown (hts _ hc) hd (kk ad H locs ls hP hD hS hl hn h0 h1)

theorem A_iload (hE : AGood E cc nL own ret nm) (q : Nat) {k : Nat} {x : Int32} (hd : decode cc pc = .ok (.iload k, 2)) (hq : pc + 2 = q) (hv : lvG lv k = some (.int x)) (kk : AW E R nL Q ad0 n0 cells slots q lv (.int x :: st) h) : AW E R nL Q ad0 n0 cells slots pc lv st h := by
  obtain ⟨p, l, e, s, m, args, below, meth, c, D, tc, sa, A⟩ := E
  subst hq
  obtain ⟨⟨hx, hb, hml, hown, hts⟩, hK, hT, hA, hr, hlk, hnm⟩ := hE
  intro ad H locs ls hP hD hS hl hn h0 h1
  exact lv_iload hx hb hd (hl.2.2 (cl' ad sa ((k : Nat), .int x)) (List.mem_map_of_mem (lvG_mem _ _ _ hv))) (kk ad H locs ls hP hD hS hl hn h0 h1)

theorem A_aload_n (hE : AGood E cc nL own ret nm) (q : Nat) {k : Fin 4} {x : Nat} (hd : decode cc pc = .ok (.aload_n k, 1)) (hq : pc + 1 = q) (hv : lvG lv k = some (.ref x)) (kk : AW E R nL Q ad0 n0 cells slots q lv (.ref x :: st) h) : AW E R nL Q ad0 n0 cells slots pc lv st h := by
  obtain ⟨p, l, e, s, m, args, below, meth, c, D, tc, sa, A⟩ := E
  subst hq
  obtain ⟨⟨hx, hb, hml, hown, hts⟩, hK, hT, hA, hr, hlk, hnm⟩ := hE
  intro ad H locs ls hP hD hS hl hn h0 h1
  exact lv_aload_n hx hb hd rfl (hl.2.2 (cl' ad sa ((k : Nat), .ref x)) (List.mem_map_of_mem (lvG_mem _ _ _ hv))) (kk ad H locs ls hP hD hS hl hn h0 h1)

theorem A_aload (hE : AGood E cc nL own ret nm) (q : Nat) {k : Nat} {x : Nat} (hd : decode cc pc = .ok (.aload k, 2)) (hq : pc + 2 = q) (hv : lvG lv k = some (.ref x)) (kk : AW E R nL Q ad0 n0 cells slots q lv (.ref x :: st) h) : AW E R nL Q ad0 n0 cells slots pc lv st h := by
  obtain ⟨p, l, e, s, m, args, below, meth, c, D, tc, sa, A⟩ := E
  subst hq
  obtain ⟨⟨hx, hb, hml, hown, hts⟩, hK, hT, hA, hr, hlk, hnm⟩ := hE
  intro ad H locs ls hP hD hS hl hn h0 h1
  exact lv_aload hx hb hd (hl.2.2 (cl' ad sa ((k : Nat), .ref x)) (List.mem_map_of_mem (lvG_mem _ _ _ hv))) (kk ad H locs ls hP hD hS hl hn h0 h1)

theorem A_aload_nS (hE : AGood E cc nL own ret nm) (q : Nat) {k : Fin 4} {x : Nat} (hd : decode cc pc = .ok (.aload_n k, 1)) (hq : pc + 1 = q) (hv : lvG lv k = some (.retAddr x)) (kk : AW E R nL Q ad0 n0 cells slots q lv (.retAddr x :: st) h) : AW E R nL Q ad0 n0 cells slots pc lv st h := by
  obtain ⟨p, l, e, s, m, args, below, meth, c, D, tc, sa, A⟩ := E
  subst hq
  obtain ⟨⟨hx, hb, hml, hown, hts⟩, hK, hT, hA, hr, hlk, hnm⟩ := hE
  intro ad H locs ls hP hD hS hl hn h0 h1
  exact lv_aload_n hx hb hd rfl (hl.2.2 (cl' ad sa ((k : Nat), .retAddr x)) (List.mem_map_of_mem (lvG_mem _ _ _ hv))) (kk ad H locs ls hP hD hS hl hn h0 h1)

theorem A_aloadS (hE : AGood E cc nL own ret nm) (q : Nat) {k : Nat} {x : Nat} (hd : decode cc pc = .ok (.aload k, 2)) (hq : pc + 2 = q) (hv : lvG lv k = some (.retAddr x)) (kk : AW E R nL Q ad0 n0 cells slots q lv (.retAddr x :: st) h) : AW E R nL Q ad0 n0 cells slots pc lv st h := by
  obtain ⟨p, l, e, s, m, args, below, meth, c, D, tc, sa, A⟩ := E
  subst hq
  obtain ⟨⟨hx, hb, hml, hown, hts⟩, hK, hT, hA, hr, hlk, hnm⟩ := hE
  intro ad H locs ls hP hD hS hl hn h0 h1
  exact lv_aload hx hb hd (hl.2.2 (cl' ad sa ((k : Nat), .retAddr x)) (List.mem_map_of_mem (lvG_mem _ _ _ hv))) (kk ad H locs ls hP hD hS hl hn h0 h1)

theorem A_lload_n (hE : AGood E cc nL own ret nm) (q : Nat) {k : Fin 4} {x : Int64} (hd : decode cc pc = .ok (.lload_n k, 1)) (hq : pc + 1 = q) (hv : lvG lv k = some (.long x)) (kk : AW E R nL Q ad0 n0 cells slots q lv (.long x :: st) h) : AW E R nL Q ad0 n0 cells slots pc lv st h := by
  obtain ⟨p, l, e, s, m, args, below, meth, c, D, tc, sa, A⟩ := E
  subst hq
  obtain ⟨⟨hx, hb, hml, hown, hts⟩, hK, hT, hA, hr, hlk, hnm⟩ := hE
  intro ad H locs ls hP hD hS hl hn h0 h1
  exact lv_lload_n hx hb hd rfl (hl.2.2 (cl' ad sa ((k : Nat), .long x)) (List.mem_map_of_mem (lvG_mem _ _ _ hv))) (kk ad H locs ls hP hD hS hl hn h0 h1)

theorem A_istore (hE : AGood E cc nL own ret nm) (q : Nat) {k : Nat} {x : Int32} {lv' : List (Nat × Value)} (hd : decode cc pc = .ok (.istore k, 2)) (hq : pc + 2 = q) (hk : Nat.blt k nL = true) (hf : lvF lv k = some lv') (kk : AW E R nL Q ad0 n0 cells slots q (((k : Nat), .int x) :: lv') st h) : AW E R nL Q ad0 n0 cells slots pc lv (.int x :: st) h := by
  obtain ⟨p, l, e, s, m, args, below, meth, c, D, tc, sa, A⟩ := E
  subst hq
  obtain ⟨⟨hx, hb, hml, hown, hts⟩, hK, hT, hA, hr, hlk, hnm⟩ := hE
  intro ad H locs ls hP hD hS hl hn h0 h1
  refine lv_istore hx hb hd hl (Nat.le_of_ble_eq_true hk) rfl fun ls' hl' => kk ad H locs ls' hP hD hS ⟨hl'.1, hl'.2.1, fun z hz => hl'.2.2 z ?_⟩ hn h0 h1
  rcases List.mem_cons.mp hz with rfl | hz
  · exact List.mem_cons_self
  · obtain ⟨w, hw, rfl⟩ := List.mem_map.mp hz
    obtain ⟨g1, g2⟩ := lvF_mem _ _ _ hf w hw
    refine List.mem_cons_of_mem _ (List.mem_filter.mpr ⟨List.mem_map_of_mem g1, ?_⟩)
    obtain ⟨w1, w2⟩ := w
    cases w2 <;> exact g2

theorem A_astore_n (hE : AGood E cc nL own ret nm) (q : Nat) {k : Fin 4} {x : Nat} {lv' : List (Nat × Value)} (hd : decode cc pc = .ok (.astore_n k, 1)) (hq : pc + 1 = q) (hk : Nat.blt k nL = true) (hf : lvF lv k = some lv') (kk : AW E R nL Q ad0 n0 cells slots q (((k : Nat), .ref x) :: lv') st h) : AW E R nL Q ad0 n0 cells slots pc lv (.ref x :: st) h := by
  obtain ⟨p, l, e, s, m, args, below, meth, c, D, tc, sa, A⟩ := E
  subst hq
  obtain ⟨⟨hx, hb, hml, hown, hts⟩, hK, hT, hA, hr, hlk, hnm⟩ := hE
  intro ad H locs ls hP hD hS hl hn h0 h1
  refine lv_astore_n hx hb hd rfl hl (Nat.le_of_ble_eq_true hk) rfl fun ls' hl' => kk ad H locs ls' hP hD hS ⟨hl'.1, hl'.2.1, fun z hz => hl'.2.2 z ?_⟩ hn h0 h1
  rcases List.mem_cons.mp hz with rfl | hz
  · exact List.mem_cons_self
  · obtain ⟨w, hw, rfl⟩ := List.mem_map.mp hz
    obtain ⟨g1, g2⟩ := lvF_mem _ _ _ hf w hw
    refine List.mem_cons_of_mem _ (List.mem_filter.mpr ⟨List.mem_map_of_mem g1, ?_⟩)
    obtain ⟨w1, w2⟩ := w
    cases w2 <;> exact g2

theorem A_astore (hE : AGood E cc nL own ret nm) (q : Nat) {k : Nat} {x : Nat} {lv' : List (Nat × Value)} (hd : decode cc pc = .ok (.astore k, 2)) (hq : pc + 2 = q) (hk : Nat.blt k nL = true) (hf : lvF lv k = some lv') (kk : AW E R nL Q ad0 n0 cells slots q (((k : Nat), .ref x) :: lv') st h) : AW E R nL Q ad0 n0 cells slots pc lv (.ref x :: st) h := by
  obtain ⟨p, l, e, s, m, args, below, meth, c, D, tc, sa, A⟩ := E
  subst hq
  obtain ⟨⟨hx, hb, hml, hown, hts⟩, hK, hT, hA, hr, hlk, hnm⟩ := hE
  intro ad H locs ls hP hD hS hl hn h0 h1
  refine lv_astore hx hb hd hl (Nat.le_of_ble_eq_true hk) rfl fun ls' hl' => kk ad H locs ls' hP hD hS ⟨hl'.1, hl'.2.1, fun z hz => hl'.2.2 z ?_⟩ hn h0 h1
  rcases List.mem_cons.mp hz with rfl | hz
  · exact List.mem_cons_self
  · obtain ⟨w, hw, rfl⟩ := List.mem_map.mp hz
    obtain ⟨g1, g2⟩ := lvF_mem _ _ _ hf w hw
    refine List.mem_cons_of_mem _ (List.mem_filter.mpr ⟨List.mem_map_of_mem g1, ?_⟩)
    obtain ⟨w1, w2⟩ := w
    cases w2 <;> exact g2

theorem A_iinc (hE : AGood E cc nL own ret nm) (q : Nat) {k : Nat} {n : Int} {x : Int32} {lv' : List (Nat × Value)} (hd : decode cc pc = .ok (.iinc k n, 3)) (hq : pc + 3 = q) (hk : Nat.blt k nL = true) (v : Int32) (hv : Int32.ofInt n = v) (hg : lvG lv k = some (.int x)) (hf : lvF lv k = some lv') (kk : AW E R nL Q ad0 n0 cells slots q ((k, .int (x + v)) :: lv') st h) : AW E R nL Q ad0 n0 cells slots pc lv st h := by
  obtain ⟨p, l, e, s, m, args, below, meth, c, D, tc, sa, A⟩ := E
  subst hq
  obtain ⟨⟨hx, hb, hml, hown, hts⟩, hK, hT, hA, hr, hlk, hnm⟩ := hE
  intro ad H locs ls hP hD hS hl hn h0 h1
  subst hv
  obtain ⟨j, hj⟩ := List.getElem?_of_mem (List.mem_map_of_mem (f := cl' ad sa) (lvG_mem _ _ _ hg))
  refine lv_iinc hx hb hd hl (k := j) hj rfl (Nat.le_of_ble_eq_true hk) rfl fun ls' hl' => kk ad H locs ls' hP hD hS ⟨hl'.1, hl'.2.1, fun z hz => hl'.2.2 z ?_⟩ hn h0 h1
  rcases List.mem_cons.mp hz with rfl | hz
  · exact List.mem_cons_self
  · obtain ⟨w, hw, rfl⟩ := List.mem_map.mp hz
    obtain ⟨g1, g2⟩ := lvF_mem _ _ _ hf w hw
    refine List.mem_cons_of_mem _ (List.mem_filter.mpr ⟨List.mem_map_of_mem g1, ?_⟩)
    obtain ⟨w1, w2⟩ := w
    cases w2 <;> exact g2

theorem A_isub (hE : AGood E cc nL own ret nm) (q : Nat) {x y : Int32} (hd : decode cc pc = .ok (.isub, 1)) (hq : pc + 1 = q)  (kk : AW E R nL Q ad0 n0 cells slots q lv (.int (x - y) :: st) h) : AW E R nL Q ad0 n0 cells slots pc lv (.int y :: .int x :: st) h := by
  obtain ⟨p, l, e, s, m, args, below, meth, c, D, tc, sa, A⟩ := E
  subst hq
  obtain ⟨⟨hx, hb, hml, hown, hts⟩, hK, hT, hA, hr, hlk, hnm⟩ := hE
  intro ad H locs ls hP hD hS hl hn h0 h1
  exact lv_isub hx hb hd (kk ad H locs ls hP hD hS hl hn h0 h1)

theorem A_imul (hE : AGood E cc nL own ret nm) (q : Nat) {x y : Int32} (hd : decode cc pc = .ok (.imul, 1)) (hq : pc + 1 = q)  (kk : AW E R nL Q ad0 n0 cells slots q lv (.int (x * y) :: st) h) : AW E R nL Q ad0 n0 cells slots pc lv (.int y :: .int x :: st) h := by
  obtain ⟨p, l, e, s, m, args, below, meth, c, D, tc, sa, A⟩ := E
  subst hq
  obtain ⟨⟨hx, hb, hml, hown, hts⟩, hK, hT, hA, hr, hlk, hnm⟩ := hE
  intro ad H locs ls hP hD hS hl hn h0 h1
  exact lv_imul hx hb hd (kk ad H locs ls hP hD hS hl hn h0 h1)

theorem A_iand (hE : AGood E cc nL own ret nm) (q : Nat) {x y : Int32} (hd : decode cc pc = .ok (.iand, 1)) (hq : pc + 1 = q)  (kk : AW E R nL Q ad0 n0 cells slots q lv (.int (x &&& y) :: st) h) : AW E R nL Q ad0 n0 cells slots pc lv (.int y :: .int x :: st) h := by
  obtain ⟨p, l, e, s, m, args, below, meth, c, D, tc, sa, A⟩ := E
  subst hq
  obtain ⟨⟨hx, hb, hml, hown, hts⟩, hK, hT, hA, hr, hlk, hnm⟩ := hE
  intro ad H locs ls hP hD hS hl hn h0 h1
  exact lv_iand hx hb hd (kk ad H locs ls hP hD hS hl hn h0 h1)

theorem A_ior (hE : AGood E cc nL own ret nm) (q : Nat) {x y : Int32} (hd : decode cc pc = .ok (.ior, 1)) (hq : pc + 1 = q)  (kk : AW E R nL Q ad0 n0 cells slots q lv (.int (x ||| y) :: st) h) : AW E R nL Q ad0 n0 cells slots pc lv (.int y :: .int x :: st) h := by
  obtain ⟨p, l, e, s, m, args, below, meth, c, D, tc, sa, A⟩ := E
  subst hq
  obtain ⟨⟨hx, hb, hml, hown, hts⟩, hK, hT, hA, hr, hlk, hnm⟩ := hE
  intro ad H locs ls hP hD hS hl hn h0 h1
  exact lv_ior hx hb hd (kk ad H locs ls hP hD hS hl hn h0 h1)

theorem A_ixor (hE : AGood E cc nL own ret nm) (q : Nat) {x y : Int32} (hd : decode cc pc = .ok (.ixor, 1)) (hq : pc + 1 = q)  (kk : AW E R nL Q ad0 n0 cells slots q lv (.int (x ^^^ y) :: st) h) : AW E R nL Q ad0 n0 cells slots pc lv (.int y :: .int x :: st) h := by
  obtain ⟨p, l, e, s, m, args, below, meth, c, D, tc, sa, A⟩ := E
  subst hq
  obtain ⟨⟨hx, hb, hml, hown, hts⟩, hK, hT, hA, hr, hlk, hnm⟩ := hE
  intro ad H locs ls hP hD hS hl hn h0 h1
  exact lv_ixor hx hb hd (kk ad H locs ls hP hD hS hl hn h0 h1)

theorem A_ishl (hE : AGood E cc nL own ret nm) (q : Nat) {x y : Int32} (hd : decode cc pc = .ok (.ishl, 1)) (hq : pc + 1 = q)  (kk : AW E R nL Q ad0 n0 cells slots q lv (.int (x <<< (y &&& 31)) :: st) h) : AW E R nL Q ad0 n0 cells slots pc lv (.int y :: .int x :: st) h := by
  obtain ⟨p, l, e, s, m, args, below, meth, c, D, tc, sa, A⟩ := E
  subst hq
  obtain ⟨⟨hx, hb, hml, hown, hts⟩, hK, hT, hA, hr, hlk, hnm⟩ := hE
  intro ad H locs ls hP hD hS hl hn h0 h1
  exact lv_ishl hx hb hd (kk ad H locs ls hP hD hS hl hn h0 h1)

theorem A_ishr (hE : AGood E cc nL own ret nm) (q : Nat) {x y : Int32} (hd : decode cc pc = .ok (.ishr, 1)) (hq : pc + 1 = q)  (kk : AW E R nL Q ad0 n0 cells slots q lv (.int (x >>> (y &&& 31)) :: st) h) : AW E R nL Q ad0 n0 cells slots pc lv (.int y :: .int x :: st) h := by
  obtain ⟨p, l, e, s, m, args, below, meth, c, D, tc, sa, A⟩ := E
  subst hq
  obtain ⟨⟨hx, hb, hml, hown, hts⟩, hK, hT, hA, hr, hlk, hnm⟩ := hE
  intro ad H locs ls hP hD hS hl hn h0 h1
  exact lv_ishr hx hb hd (kk ad H locs ls hP hD hS hl hn h0 h1)

theorem A_iushr (hE : AGood E cc nL own ret nm) (q : Nat) {x y : Int32} (hd : decode cc pc = .ok (.iushr, 1)) (hq : pc + 1 = q)  (kk : AW E R nL Q ad0 n0 cells slots q lv (.int ((x.toUInt32 >>> (y.toUInt32 &&& Int32.toUInt32 31)).toInt32) :: st) h) : AW E R nL Q ad0 n0 cells slots pc lv (.int y :: .int x :: st) h := by
  obtain ⟨p, l, e, s, m, args, below, meth, c, D, tc, sa, A⟩ := E
  subst hq
  obtain ⟨⟨hx, hb, hml, hown, hts⟩, hK, hT, hA, hr, hlk, hnm⟩ := hE
  intro ad H locs ls hP hD hS hl hn h0 h1
  exact lv_iushr hx hb hd rfl (kk ad H locs ls hP hD hS hl hn h0 h1)

theorem A_idiv (hE : AGood E cc nL own ret nm) (q : Nat) {x y : Int32} (hd : decode cc pc = .ok (.idiv, 1)) (hq : pc + 1 = q) (hne : ¬ y = 0) (kk : AW E R nL Q ad0 n0 cells slots q lv (.int (x / y) :: st) h) : AW E R nL Q ad0 n0 cells slots pc lv (.int y :: .int x :: st) h := by
  obtain ⟨p, l, e, s, m, args, below, meth, c, D, tc, sa, A⟩ := E
  subst hq
  obtain ⟨⟨hx, hb, hml, hown, hts⟩, hK, hT, hA, hr, hlk, hnm⟩ := hE
  intro ad H locs ls hP hD hS hl hn h0 h1
  exact lv_idiv hx hb hd hne (kk ad H locs ls hP hD hS hl hn h0 h1)

theorem A_irem (hE : AGood E cc nL own ret nm) (q : Nat) {x y : Int32} (hd : decode cc pc = .ok (.irem, 1)) (hq : pc + 1 = q) (hne : ¬ y = 0) (kk : AW E R nL Q ad0 n0 cells slots q lv (.int (rm x y) :: st) h) : AW E R nL Q ad0 n0 cells slots pc lv (.int y :: .int x :: st) h := by
  obtain ⟨p, l, e, s, m, args, below, meth, c, D, tc, sa, A⟩ := E
  subst hq
  obtain ⟨⟨hx, hb, hml, hown, hts⟩, hK, hT, hA, hr, hlk, hnm⟩ := hE
  intro ad H locs ls hP hD hS hl hn h0 h1
  exact lv_irem hx hb hd hne (kk ad H locs ls hP hD hS hl hn h0 h1)

theorem A_ineg (hE : AGood E cc nL own ret nm) (q : Nat) {x : Int32} (hd : decode cc pc = .ok (.ineg, 1)) (hq : pc + 1 = q)  (kk : AW E R nL Q ad0 n0 cells slots q lv (.int (-x) :: st) h) : AW E R nL Q ad0 n0 cells slots pc lv (.int x :: st) h := by
  obtain ⟨p, l, e, s, m, args, below, meth, c, D, tc, sa, A⟩ := E
  subst hq
  obtain ⟨⟨hx, hb, hml, hown, hts⟩, hK, hT, hA, hr, hlk, hnm⟩ := hE
  intro ad H locs ls hP hD hS hl hn h0 h1
  exact lv_ineg hx hb hd (kk ad H locs ls hP hD hS hl hn h0 h1)

theorem A_i2l (hE : AGood E cc nL own ret nm) (q : Nat) {x : Int32} (hd : decode cc pc = .ok (.i2l, 1)) (hq : pc + 1 = q)  (kk : AW E R nL Q ad0 n0 cells slots q lv (.long (x.toInt64) :: st) h) : AW E R nL Q ad0 n0 cells slots pc lv (.int x :: st) h := by
  obtain ⟨p, l, e, s, m, args, below, meth, c, D, tc, sa, A⟩ := E
  subst hq
  obtain ⟨⟨hx, hb, hml, hown, hts⟩, hK, hT, hA, hr, hlk, hnm⟩ := hE
  intro ad H locs ls hP hD hS hl hn h0 h1
  exact lv_i2l hx hb hd rfl (kk ad H locs ls hP hD hS hl hn h0 h1)

theorem A_l2i (hE : AGood E cc nL own ret nm) (q : Nat) {x : Int64} (hd : decode cc pc = .ok (.l2i, 1)) (hq : pc + 1 = q)  (kk : AW E R nL Q ad0 n0 cells slots q lv (.int (x.toInt32) :: st) h) : AW E R nL Q ad0 n0 cells slots pc lv (.long x :: st) h := by
  obtain ⟨p, l, e, s, m, args, below, meth, c, D, tc, sa, A⟩ := E
  subst hq
  obtain ⟨⟨hx, hb, hml, hown, hts⟩, hK, hT, hA, hr, hlk, hnm⟩ := hE
  intro ad H locs ls hP hD hS hl hn h0 h1
  exact lv_l2i hx hb hd rfl (kk ad H locs ls hP hD hS hl hn h0 h1)

theorem A_i2c (hE : AGood E cc nL own ret nm) (q : Nat) {x : Int32} (hd : decode cc pc = .ok (.i2c, 1)) (hq : pc + 1 = q)  (kk : AW E R nL Q ad0 n0 cells slots q lv (.int ((x.toUInt32 % 65536).toInt32) :: st) h) : AW E R nL Q ad0 n0 cells slots pc lv (.int x :: st) h := by
  obtain ⟨p, l, e, s, m, args, below, meth, c, D, tc, sa, A⟩ := E
  subst hq
  obtain ⟨⟨hx, hb, hml, hown, hts⟩, hK, hT, hA, hr, hlk, hnm⟩ := hE
  intro ad H locs ls hP hD hS hl hn h0 h1
  exact lv_i2c hx hb hd rfl (kk ad H locs ls hP hD hS hl hn h0 h1)

theorem A_i2b (hE : AGood E cc nL own ret nm) (q : Nat) {x : Int32} (hd : decode cc pc = .ok (.i2b, 1)) (hq : pc + 1 = q)  (kk : AW E R nL Q ad0 n0 cells slots q lv (.int (x.toInt8.toInt32) :: st) h) : AW E R nL Q ad0 n0 cells slots pc lv (.int x :: st) h := by
  obtain ⟨p, l, e, s, m, args, below, meth, c, D, tc, sa, A⟩ := E
  subst hq
  obtain ⟨⟨hx, hb, hml, hown, hts⟩, hK, hT, hA, hr, hlk, hnm⟩ := hE
  intro ad H locs ls hP hD hS hl hn h0 h1
  exact lv_i2b hx hb hd rfl (kk ad H locs ls hP hD hS hl hn h0 h1)

theorem A_i2s (hE : AGood E cc nL own ret nm) (q : Nat) {x : Int32} (hd : decode cc pc = .ok (.i2s, 1)) (hq : pc + 1 = q)  (kk : AW E R nL Q ad0 n0 cells slots q lv (.int (x.toInt16.toInt32) :: st) h) : AW E R nL Q ad0 n0 cells slots pc lv (.int x :: st) h := by
  obtain ⟨p, l, e, s, m, args, below, meth, c, D, tc, sa, A⟩ := E
  subst hq
  obtain ⟨⟨hx, hb, hml, hown, hts⟩, hK, hT, hA, hr, hlk, hnm⟩ := hE
  intro ad H locs ls hP hD hS hl hn h0 h1
  exact lv_i2s hx hb hd rfl (kk ad H locs ls hP hD hS hl hn h0 h1)

theorem A_land (hE : AGood E cc nL own ret nm) (q : Nat) {x y : Int64} (hd : decode cc pc = .ok (.land, 1)) (hq : pc + 1 = q)  (kk : AW E R nL Q ad0 n0 cells slots q lv (.long (x &&& y) :: st) h) : AW E R nL Q ad0 n0 cells slots pc lv (.long y :: .long x :: st) h := by
  obtain ⟨p, l, e, s, m, args, below, meth, c, D, tc, sa, A⟩ := E
  subst hq
  obtain ⟨⟨hx, hb, hml, hown, hts⟩, hK, hT, hA, hr, hlk, hnm⟩ := hE
  intro ad H locs ls hP hD hS hl hn h0 h1
  exact lv_land hx hb hd (kk ad H locs ls hP hD hS hl hn h0 h1)

theorem A_lor (hE : AGood E cc nL own ret nm) (q : Nat) {x y : Int64} (hd : decode cc pc = .ok (.lor, 1)) (hq : pc + 1 = q)  (kk : AW E R nL Q ad0 n0 cells slots q lv (.long (x ||| y) :: st) h) : AW E R nL Q ad0 n0 cells slots pc lv (.long y :: .long x :: st) h := by
  obtain ⟨p, l, e, s, m, args, below, meth, c, D, tc, sa, A⟩ := E
  subst hq
  obtain ⟨⟨hx, hb, hml, hown, hts⟩, hK, hT, hA, hr, hlk, hnm⟩ := hE
  intro ad H locs ls hP hD hS hl hn h0 h1
  exact lv_lor hx hb hd (kk ad H locs ls hP hD hS hl hn h0 h1)

theorem A_lshl (hE : AGood E cc nL own ret nm) (q : Nat) {x : Int64} {y : Int32} (hd : decode cc pc = .ok (.lshl, 1)) (hq : pc + 1 = q)  (kk : AW E R nL Q ad0 n0 cells slots q lv (.long (x <<< (y.toInt64 &&& 63)) :: st) h) : AW E R nL Q ad0 n0 cells slots pc lv (.int y :: .long x :: st) h := by
  obtain ⟨p, l, e, s, m, args, below, meth, c, D, tc, sa, A⟩ := E
  subst hq
  obtain ⟨⟨hx, hb, hml, hown, hts⟩, hK, hT, hA, hr, hlk, hnm⟩ := hE
  intro ad H locs ls hP hD hS hl hn h0 h1
  exact lv_lshl hx hb hd rfl (kk ad H locs ls hP hD hS hl hn h0 h1)

theorem A_lshr (hE : AGood E cc nL own ret nm) (q : Nat) {x : Int64} {y : Int32} (hd : decode cc pc = .ok (.lshr, 1)) (hq : pc + 1 = q)  (kk : AW E R nL Q ad0 n0 cells slots q lv (.long (x >>> (y.toInt64 &&& 63)) :: st) h) : AW E R nL Q ad0 n0 cells slots pc lv (.int y :: .long x :: st) h := by
  obtain ⟨p, l, e, s, m, args, below, meth, c, D, tc, sa, A⟩ := E
  subst hq
  obtain ⟨⟨hx, hb, hml, hown, hts⟩, hK, hT, hA, hr, hlk, hnm⟩ := hE
  intro ad H locs ls hP hD hS hl hn h0 h1
  exact lv_lshr hx hb hd rfl (kk ad H locs ls hP hD hS hl hn h0 h1)

theorem A_lushr (hE : AGood E cc nL own ret nm) (q : Nat) {x : Int64} {y : Int32} (hd : decode cc pc = .ok (.lushr, 1)) (hq : pc + 1 = q)  (kk : AW E R nL Q ad0 n0 cells slots q lv (.long ((x.toUInt64 >>> (y.toInt64.toUInt64 &&& Int64.toUInt64 63)).toInt64) :: st) h) : AW E R nL Q ad0 n0 cells slots pc lv (.int y :: .long x :: st) h := by
  obtain ⟨p, l, e, s, m, args, below, meth, c, D, tc, sa, A⟩ := E
  subst hq
  obtain ⟨⟨hx, hb, hml, hown, hts⟩, hK, hT, hA, hr, hlk, hnm⟩ := hE
  intro ad H locs ls hP hD hS hl hn h0 h1
  exact lv_lushr hx hb hd rfl (kk ad H locs ls hP hD hS hl hn h0 h1)

theorem A_dup (hE : AGood E cc nL own ret nm) (q : Nat) {v : Value} (hd : decode cc pc = .ok (.dup, 1)) (hq : pc + 1 = q) (hc : (cat2 v) = false) (kk : AW E R nL Q ad0 n0 cells slots q lv (v :: v :: st) h) : AW E R nL Q ad0 n0 cells slots pc lv (v :: st) h := by
  obtain ⟨p, l, e, s, m, args, below, meth, c, D, tc, sa, A⟩ := E
  subst hq
  obtain ⟨⟨hx, hb, hml, hown, hts⟩, hK, hT, hA, hr, hlk, hnm⟩ := hE
  intro ad H locs ls hP hD hS hl hn h0 h1
  exact lv_dup hx hb hd (by cases v <;> first | rfl | (cases hc)) (kk ad H locs ls hP hD hS hl hn h0 h1)

theorem A_dup2 (hE : AGood E cc nL own ret nm) (q : Nat) {v w : Value} (hd : decode cc pc = .ok (.dup2, 1)) (hq : pc + 1 = q) (hc : (cat2 v) = false) (hc2 : (cat2 w) = false) (kk : AW E R nL Q ad0 n0 cells slots q lv (v :: w :: v :: w :: st) h) : AW E R nL Q ad0 n0 cells slots pc lv (v :: w :: st) h := by
  obtain ⟨p, l, e, s, m, args, below, meth, c, D, tc, sa, A⟩ := E
  subst hq
  obtain ⟨⟨hx, hb, hml, hown, hts⟩, hK, hT, hA, hr, hlk, hnm⟩ := hE
  intro ad H locs ls hP hD hS hl hn h0 h1
  exact lv_dup2_11 hx hb hd (by cases v <;> first | rfl | (cases hc)) (by cases w <;> first | rfl | (cases hc2)) (kk ad H locs ls hP hD hS hl hn h0 h1)

theorem A_pop (hE : AGood E cc nL own ret nm) (q : Nat) {v : Value} (hd : decode cc pc = .ok (.pop, 1)) (hq : pc + 1 = q) (hc : (cat2 v) = false) (kk : AW E R nL Q ad0 n0 cells slots q lv st h) : AW E R nL Q ad0 n0 cells slots pc lv (v :: st) h := by
  obtain ⟨p, l, e, s, m, args, below, meth, c, D, tc, sa, A⟩ := E
  subst hq
  obtain ⟨⟨hx, hb, hml, hown, hts⟩, hK, hT, hA, hr, hlk, hnm⟩ := hE
  intro ad H locs ls hP hD hS hl hn h0 h1
  exact lv_pop hx hb hd (by cases v <;> first | rfl | (cases hc)) (kk ad H locs ls hP hD hS hl hn h0 h1)

theorem A_if_eq (hE : AGood E cc nL own ret nm) (q tgt : Nat) {x  : Int32} {off : Int} (hd : decode cc pc = .ok (.ifCond .eq off, 3)) (hq : pc + 3 = q) (ht : (pc : Int) + off = (tgt : Int)) (kt : x = 0 → AW E R nL Q ad0 n0 cells slots tgt lv st h) (kf : ¬ x = 0 → AW E R nL Q ad0 n0 cells slots q lv st h) : AW E R nL Q ad0 n0 cells slots pc lv (.int x :: st) h := by
  obtain ⟨p, l, e, s, m, args, below, meth, c, D, tc, sa, A⟩ := E
  subst hq
  obtain ⟨⟨hx, hb, hml, hown, hts⟩, hK, hT, hA, hr, hlk, hnm⟩ := hE
  intro ad H locs ls hP hD hS hl hn h0 h1
  exact lv_if_eq hx hb hd ht (fun z => kt z ad H locs ls hP hD hS hl hn h0 h1) (fun z => kf z ad H locs ls hP hD hS hl hn h0 h1)

theorem A_icmp_eq (hE : AGood E cc nL own ret nm) (q tgt : Nat) {x y : Int32} {off : Int} (hd : decode cc pc = .ok (.if_icmp .eq off, 3)) (hq : pc + 3 = q) (ht : (pc : Int) + off = (tgt : Int)) (kt : x = y → AW E R nL Q ad0 n0 cells slots tgt lv st h) (kf : ¬ x = y → AW E R nL Q ad0 n0 cells slots q lv st h) : AW E R nL Q ad0 n0 cells slots pc lv (.int y :: .int x :: st) h := by
  obtain ⟨p, l, e, s, m, args, below, meth, c, D, tc, sa, A⟩ := E
  subst hq
  obtain ⟨⟨hx, hb, hml, hown, hts⟩, hK, hT, hA, hr, hlk, hnm⟩ := hE
  intro ad H locs ls hP hD hS hl hn h0 h1
  exact lv_icmp_eq hx hb hd ht (fun z => kt z ad H locs ls hP hD hS hl hn h0 h1) (fun z => kf z ad H locs ls hP hD hS hl hn h0 h1)

theorem A_if_ne (hE : AGood E cc nL own ret nm) (q tgt : Nat) {x  : Int32} {off : Int} (hd : decode cc pc = .ok (.ifCond .ne off, 3)) (hq : pc + 3 = q) (ht : (pc : Int) + off = (tgt : Int)) (kt : ¬ x = 0 → AW E R nL Q ad0 n0 cells slots tgt lv st h) (kf : x = 0 → AW E R nL Q ad0 n0 cells slots q lv st h) : AW E R nL Q ad0 n0 cells slots pc lv (.int x :: st) h := by
  obtain ⟨p, l, e, s, m, args, below, meth, c, D, tc, sa, A⟩ := E
  subst hq
  obtain ⟨⟨hx, hb, hml, hown, hts⟩, hK, hT, hA, hr, hlk, hnm⟩ := hE
  intro ad H locs ls hP hD hS hl hn h0 h1
  exact lv_if_ne hx hb hd ht (fun z => kt z ad H locs ls hP hD hS hl hn h0 h1) (fun z => kf z ad H locs ls hP hD hS hl hn h0 h1)

theorem A_icmp_ne (hE : AGood E cc nL own ret nm) (q tgt : Nat) {x y : Int32} {off : Int} (hd : decode cc pc = .ok (.if_icmp .ne off, 3)) (hq : pc + 3 = q) (ht : (pc : Int) + off = (tgt : Int)) (kt : ¬ x = y → AW E R nL Q ad0 n0 cells slots tgt lv st h) (kf : x = y → AW E R nL Q ad0 n0 cells slots q lv st h) : AW E R nL Q ad0 n0 cells slots pc lv (.int y :: .int x :: st) h := by
  obtain ⟨p, l, e, s, m, args, below, meth, c, D, tc, sa, A⟩ := E
  subst hq
  obtain ⟨⟨hx, hb, hml, hown, hts⟩, hK, hT, hA, hr, hlk, hnm⟩ := hE
  intro ad H locs ls hP hD hS hl hn h0 h1
  exact lv_icmp_ne hx hb hd ht (fun z => kt z ad H locs ls hP hD hS hl hn h0 h1) (fun z => kf z ad H locs ls hP hD hS hl hn h0 h1)

theorem A_if_lt (hE : AGood E cc nL own ret nm) (q tgt : Nat) {x  : Int32} {off : Int} (hd : decode cc pc = .ok (.ifCond .lt off, 3)) (hq : pc + 3 = q) (ht : (pc : Int) + off = (tgt : Int)) (kt : x < 0 → AW E R nL Q ad0 n0 cells slots tgt lv st h) (kf : ¬ x < 0 → AW E R nL Q ad0 n0 cells slots q lv st h) : AW E R nL Q ad0 n0 cells slots pc lv (.int x :: st) h := by
  obtain ⟨p, l, e, s, m, args, below, meth, c, D, tc, sa, A⟩ := E
  subst hq
  obtain ⟨⟨hx, hb, hml, hown, hts⟩, hK, hT, hA, hr, hlk, hnm⟩ := hE
  intro ad H locs ls hP hD hS hl hn h0 h1
  exact lv_if_lt hx hb hd ht (fun z => kt z ad H locs ls hP hD hS hl hn h0 h1) (fun z => kf z ad H locs ls hP hD hS hl hn h0 h1)

theorem A_icmp_lt (hE : AGood E cc nL own ret nm) (q tgt : Nat) {x y : Int32} {off : Int} (hd : decode cc pc = .ok (.if_icmp .lt off, 3)) (hq : pc + 3 = q) (ht : (pc : Int) + off = (tgt : Int)) (kt : x < y → AW E R nL Q ad0 n0 cells slots tgt lv st h) (kf : ¬ x < y → AW E R nL Q ad0 n0 cells slots q lv st h) : AW E R nL Q ad0 n0 cells slots pc lv (.int y :: .int x :: st) h := by
  obtain ⟨p, l, e, s, m, args, below, meth, c, D, tc, sa, A⟩ := E
  subst hq
  obtain ⟨⟨hx, hb, hml, hown, hts⟩, hK, hT, hA, hr, hlk, hnm⟩ := hE
  intro ad H locs ls hP hD hS hl hn h0 h1
  exact lv_icmp_lt hx hb hd ht (fun z => kt z ad H locs ls hP hD hS hl hn h0 h1) (fun z => kf z ad H locs ls hP hD hS hl hn h0 h1)

theorem A_if_ge (hE : AGood E cc nL own ret nm) (q tgt : Nat) {x  : Int32} {off : Int} (hd : decode cc pc = .ok (.ifCond .ge off, 3)) (hq : pc + 3 = q) (ht : (pc : Int) + off = (tgt : Int)) (kt : 0 ≤ x → AW E R nL Q ad0 n0 cells slots tgt lv st h) (kf : ¬ 0 ≤ x → AW E R nL Q ad0 n0 cells slots q lv st h) : AW E R nL Q ad0 n0 cells slots pc lv (.int x :: st) h := by
  obtain ⟨p, l, e, s, m, args, below, meth, c, D, tc, sa, A⟩ := E
  subst hq
  obtain ⟨⟨hx, hb, hml, hown, hts⟩, hK, hT, hA, hr, hlk, hnm⟩ := hE
  intro ad H locs ls hP hD hS hl hn h0 h1
  exact lv_if_ge hx hb hd ht (fun z => kt z ad H locs ls hP hD hS hl hn h0 h1) (fun z => kf z ad H locs ls hP hD hS hl hn h0 h1)

theorem A_icmp_ge (hE : AGood E cc nL own ret nm) (q tgt : Nat) {x y : Int32} {off : Int} (hd : decode cc pc = .ok (.if_icmp .ge off, 3)) (hq : pc + 3 = q) (ht : (pc : Int) + off = (tgt : Int)) (kt : y ≤ x → AW E R nL Q ad0 n0 cells slots tgt lv st h) (kf : ¬ y ≤ x → AW E R nL Q ad0 n0 cells slots q lv st h) : AW E R nL Q ad0 n0 cells slots pc lv (.int y :: .int x :: st) h := by
  obtain ⟨p, l, e, s, m, args, below, meth, c, D, tc, sa, A⟩ := E
  subst hq
  obtain ⟨⟨hx, hb, hml, hown, hts⟩, hK, hT, hA, hr, hlk, hnm⟩ := hE
  intro ad H locs ls hP hD hS hl hn h0 h1
  exact lv_icmp_ge hx hb hd ht (fun z => kt z ad H locs ls hP hD hS hl hn h0 h1) (fun z => kf z ad H locs ls hP hD hS hl hn h0 h1)

theorem A_if_gt (hE : AGood E cc nL own ret nm) (q tgt : Nat) {x  : Int32} {off : Int} (hd : decode cc pc = .ok (.ifCond .gt off, 3)) (hq : pc + 3 = q) (ht : (pc : Int) + off = (tgt : Int)) (kt : 0 < x → AW E R nL Q ad0 n0 cells slots tgt lv st h) (kf : ¬ 0 < x → AW E R nL Q ad0 n0 cells slots q lv st h) : AW E R nL Q ad0 n0 cells slots pc lv (.int x :: st) h := by
  obtain ⟨p, l, e, s, m, args, below, meth, c, D, tc, sa, A⟩ := E
  subst hq
  obtain ⟨⟨hx, hb, hml, hown, hts⟩, hK, hT, hA, hr, hlk, hnm⟩ := hE
  intro ad H locs ls hP hD hS hl hn h0 h1
  exact lv_if_gt hx hb hd ht (fun z => kt z ad H locs ls hP hD hS hl hn h0 h1) (fun z => kf z ad H locs ls hP hD hS hl hn h0 h1)

theorem A_icmp_gt (hE : AGood E cc nL own ret nm) (q tgt : Nat) {x y : Int32} {off : Int} (hd : decode cc pc = .ok (.if_icmp .gt off, 3)) (hq : pc + 3 = q) (ht : (pc : Int) + off = (tgt : Int)) (kt : y < x → AW E R nL Q ad0 n0 cells slots tgt lv st h) (kf : ¬ y < x → AW E R nL Q ad0 n0 cells slots q lv st h) : AW E R nL Q ad0 n0 cells slots pc lv (.int y :: .int x :: st) h := by
  obtain ⟨p, l, e, s, m, args, below, meth, c, D, tc, sa, A⟩ := E
  subst hq
  obtain ⟨⟨hx, hb, hml, hown, hts⟩, hK, hT, hA, hr, hlk, hnm⟩ := hE
  intro ad H locs ls hP hD hS hl hn h0 h1
  exact lv_icmp_gt hx hb hd ht (fun z => kt z ad H locs ls hP hD hS hl hn h0 h1) (fun z => kf z ad H locs ls hP hD hS hl hn h0 h1)

theorem A_if_le (hE : AGood E cc nL own ret nm) (q tgt : Nat) {x  : Int32} {off : Int} (hd : decode cc pc = .ok (.ifCond .le off, 3)) (hq : pc + 3 = q) (ht : (pc : Int) + off = (tgt : Int)) (kt : x ≤ 0 → AW E R nL Q ad0 n0 cells slots tgt lv st h) (kf : ¬ x ≤ 0 → AW E R nL Q ad0 n0 cells slots q lv st h) : AW E R nL Q ad0 n0 cells slots pc lv (.int x :: st) h := by
  obtain ⟨p, l, e, s, m, args, below, meth, c, D, tc, sa, A⟩ := E
  subst hq
  obtain ⟨⟨hx, hb, hml, hown, hts⟩, hK, hT, hA, hr, hlk, hnm⟩ := hE
  intro ad H locs ls hP hD hS hl hn h0 h1
  exact lv_if_le hx hb hd ht (fun z => kt z ad H locs ls hP hD hS hl hn h0 h1) (fun z => kf z ad H locs ls hP hD hS hl hn h0 h1)

theorem A_icmp_le (hE : AGood E cc nL own ret nm) (q tgt : Nat) {x y : Int32} {off : Int} (hd : decode cc pc = .ok (.if_icmp .le off, 3)) (hq : pc + 3 = q) (ht : (pc : Int) + off = (tgt : Int)) (kt : x ≤ y → AW E R nL Q ad0 n0 cells slots tgt lv st h) (kf : ¬ x ≤ y → AW E R nL Q ad0 n0 cells slots q lv st h) : AW E R nL Q ad0 n0 cells slots pc lv (.int y :: .int x :: st) h := by
  obtain ⟨p, l, e, s, m, args, below, meth, c, D, tc, sa, A⟩ := E
  subst hq
  obtain ⟨⟨hx, hb, hml, hown, hts⟩, hK, hT, hA, hr, hlk, hnm⟩ := hE
  intro ad H locs ls hP hD hS hl hn h0 h1
  exact lv_icmp_le hx hb hd ht (fun z => kt z ad H locs ls hP hD hS hl hn h0 h1) (fun z => kf z ad H locs ls hP hD hS hl hn h0 h1)

theorem A_goto (hE : AGood E cc nL own ret nm) (tgt : Nat) {off : Int} (hd : decode cc pc = .ok (.goto off, 3)) (ht : (pc : Int) + off = (tgt : Int)) (kk : AW E R nL Q ad0 n0 cells slots tgt lv st h) : AW E R nL Q ad0 n0 cells slots pc lv st h := by
  obtain ⟨p, l, e, s, m, args, below, meth, c, D, tc, sa, A⟩ := E
  obtain ⟨⟨hx, hb, hml, hown, hts⟩, hK, hT, hA, hr, hlk, hnm⟩ := hE
  intro ad H locs ls hP hD hS hl hn h0 h1
  exact lv_goto hx hb hd ht (kk ad H locs ls hP hD hS hl hn h0 h1)
theorem A_tabIn (hE : AGood E cc nL own ret nm) (tgt : Nat) {x : Int32} {dflt lo hi off : Int} {offs : Array Int} {len : Nat} (hd : decode cc pc = .ok (.tableswitch dflt lo hi offs, len)) (h1 : ¬ x.toInt < lo) (h2 : ¬ hi < x.toInt) (ho : offs[(x.toInt - lo).toNat]? = some off) (ht : (pc : Int) + off = (tgt : Int)) (kk : AW E R nL Q ad0 n0 cells slots tgt lv st h) : AW E R nL Q ad0 n0 cells slots pc lv (.int x :: st) h := by
  obtain ⟨p, l, e, s, m, args, below, meth, c, D, tc, sa, A⟩ := E
  obtain ⟨⟨hx, hb, hml, hown, hts⟩, hK, hT, hA, hr, hlk, hnm⟩ := hE
  intro ad H locs ls hP hD hS hl hn h0 h1'
  exact lv_tableIn hx hb hd h1 h2 ho ht (kk ad H locs ls hP hD hS hl hn h0 h1')
theorem A_tabOut (hE : AGood E cc nL own ret nm) (tgt : Nat) {x : Int32} {dflt lo hi : Int} {offs : Array Int} {len : Nat} (hd : decode cc pc = .ok (.tableswitch dflt lo hi offs, len)) (h1 : x.toInt < lo ∨ hi < x.toInt) (ht : (pc : Int) + dflt = (tgt : Int)) (kk : AW E R nL Q ad0 n0 cells slots tgt lv st h) : AW E R nL Q ad0 n0 cells slots pc lv (.int x :: st) h := by
  obtain ⟨p, l, e, s, m, args, below, meth, c, D, tc, sa, A⟩ := E
  obtain ⟨⟨hx, hb, hml, hown, hts⟩, hK, hT, hA, hr, hlk, hnm⟩ := hE
  intro ad H locs ls hP hD hS hl hn h0 h1'
  exact lv_tableOut hx hb hd h1 ht (kk ad H locs ls hP hD hS hl hn h0 h1')
theorem A_lookup (hE : AGood E cc nL own ret nm) (tgt : Nat) {x : Int32} {dflt off : Int} {ps : Array (Int × Int)} {len : Nat} (hd : decode cc pc = .ok (.lookupswitch dflt ps, len)) (hp : (ps.toList.zip (ps.toList.drop 1)).all (fun (a, next) => a.1 < next.1) = true) (ho : Op.lookupswitch.offset ps.toList dflt x.toInt = off) (ht : (pc : Int) + off = (tgt : Int)) (kk : AW E R nL Q ad0 n0 cells slots tgt lv st h) : AW E R nL Q ad0 n0 cells slots pc lv (.int x :: st) h := by
  obtain ⟨p, l, e, s, m, args, below, meth, c, D, tc, sa, A⟩ := E
  obtain ⟨⟨hx, hb, hml, hown, hts⟩, hK, hT, hA, hr, hlk, hnm⟩ := hE
  intro ad H locs ls hP hD hS hl hn h0 h1
  exact lv_lookup hx hb hd hp ho ht (kk ad H locs ls hP hD hS hl hn h0 h1)

theorem A_alen (hE : AGood E cc nL own ret nm) (q : Nat) {i : Nat} {n : Nat} {f : Nat → Int32} (hd : decode cc pc = .ok (.arraylength, 1)) (hq : pc + 1 = q) (hh : getO h i = some (.inl (0, n, .inl f))) (kk : AW E R nL Q ad0 n0 cells slots q lv (.int (nI n) :: st) h) : AW E R nL Q ad0 n0 cells slots pc lv (.ref i :: st) h := by
  obtain ⟨p, l, e, s, m, args, below, meth, c, D, tc, sa, A⟩ := E
  subst hq
  obtain ⟨⟨hx, hb, hml, hown, hts⟩, hK, hT, hA, hr, hlk, hnm⟩ := hE
  intro ad H locs ls hP hD hS hl hn h0 h1
  exact va_alen hx hb hK hP i 0 (cw_get hh) rfl rfl hd (kk ad H locs ls hP hD hS hl hn h0 h1)
/-- an element at a place that is a small number -/
theorem A_iald (hE : AGood E cc nL own ret nm) (q k : Nat) {i n : Nat} {f : Nat → Int32} {x : Int32} (hd : decode cc pc = .ok (.iaload, 1)) (hq : pc + 1 = q) (hh : getO h i = some (.inl (0, n, .inl f))) (hx : x = nI k) (hk : k < n) (hn : Nat.ble n 1000 = true) (kk : AW E R nL Q ad0 n0 cells slots q lv (.int (f k) :: st) h) : AW E R nL Q ad0 n0 cells slots pc lv (.int x :: .ref i :: st) h := by
  have hn' : n ≤ 1000 := Nat.le_of_ble_eq_true hn
  subst hx
  refine A_iaload hE q hd hq hh (vp_in_nI hk (by omega)) ?_
  rw [nI_clamp (by omega)]
  exact kk
theorem A_iast (hE : AGood E cc nL own ret nm) (q k : Nat) {i n : Nat} {f : Nat → Int32} {x y : Int32} {h' : List AE} (hd : decode cc pc = .ok (.iastore, 1)) (hq : pc + 1 = q) (hh : getO h i = some (.inl (0, n, .inl f))) (hx : x = nI k) (hk : k < n) (hn : Nat.ble n 1000 = true) (hs : setO h i (.inl (0, n, .inl (upd f k y))) = some h') (kk : AW E R nL Q ad0 n0 cells slots q lv st h') : AW E R nL Q ad0 n0 cells slots pc lv (.int y :: .int x :: .ref i :: st) h := by
  have hn' : n ≤ 1000 := Nat.le_of_ble_eq_true hn
  subst hx
  refine A_iastore hE q hd hq hh (vp_in_nI hk (by omega)) ?_ kk
  rw [nI_clamp (by omega)]
  exact hs
theorem A_aald (hE : AGood E cc nL own ret nm) (q k : Nat) {i n j : Nat} {f : Nat → Option Nat} {x : Int32} (hd : decode cc pc = .ok (.aaload, 1)) (hq : pc + 1 = q) (hh : getO h i = some (.inl (1, n, .inr (.inr (.inr (.inr f)))))) (hx : x = nI k) (hk : k < n) (hn : Nat.ble n 1000 = true) (hj : f k = some j) (kk : AW E R nL Q ad0 n0 cells slots q lv (.ref j :: st) h) : AW E R nL Q ad0 n0 cells slots pc lv (.int x :: .ref i :: st) h := by
  have hn' : n ≤ 1000 := Nat.le_of_ble_eq_true hn
  subst hx
  obtain ⟨p, l, e, s, m, args, below, meth, c, D, tc, sa, A⟩ := E
  subst hq
  obtain ⟨⟨hx, hb, hml, hown, hts⟩, hK, hT, hA, hr, hlk, hnm⟩ := hE
  intro ad H locs ls hP hD hS hl hn h0 h1
  refine va_aldq hx hb hK hP i 1 (cw_get hh) rfl (vp_in_nI hk (by omega)) hd ?_
  rw [nI_clamp (by omega), hj]
  exact kk ad H locs ls hP hD hS hl hn h0 h1
theorem A_aast (hE : AGood E cc nL own ret nm) (q k : Nat) {i n j : Nat} {f : Nat → Option Nat} {fs : List Value} {x : Int32} {h' : List AE} (hd : decode cc pc = .ok (.aastore, 1)) (hq : pc + 1 = q) (hh : getO h i = some (.inl (1, n, .inr (.inr (.inr (.inr f)))))) (hj : getO h j = some (.inr (4, fs))) (hx : x = nI k) (hk : k < n) (hn : Nat.ble n 1000 = true) (hs : setO h i (.inl (1, n, .inr (.inr (.inr (.inr (va_up f k (some j))))))) = some h') (kk : AW E R nL Q ad0 n0 cells slots q lv st h') : AW E R nL Q ad0 n0 cells slots pc lv (.ref j :: .int x :: .ref i :: st) h := by
  have hn' : n ≤ 1000 := Nat.le_of_ble_eq_true hn
  subst hx
  obtain ⟨p, l, e, s, m, args, below, meth, c, D, tc, sa, A⟩ := E
  subst hq
  obtain ⟨⟨hx, hb, hml, hown, hts⟩, hK, hT, hA, hr, hlk, hnm⟩ := hE
  intro ad H locs ls hP hD hS hl hn h0 h1
  obtain ⟨e1, e2⟩ := cw_set (ad := ad) (sa := sa) (tc := tc) hs
  refine va_astq hx hb hK hP hD hS i 1 j 4 (cw_get hh) rfl (cw_get hj) rfl (vp_in_nI hk (by omega)) hd fun H1 locs1 hP1 hD1 hS1 => ?_
  rw [nI_clamp (by omega)] at hP1 hD1
  have e3 : (ce ad sa tc (.inl (1, n, .inr (.inr (.inr (.inr (va_up f k (some j)))))))) = .inl (tc 1, n, .inr (.inr (.inr (.inr (va_up (fun z => (f z).map ad) k (some (ad j))))))) := by
    show (Sum.inl (tc 1, n, .inr (.inr (.inr (.inr (fun z => (va_up f k (some j) z).map ad))))) : va_E) = _
    have e4 : (fun z => (va_up f k (some j) z).map ad) = va_up (fun z => (f z).map ad) k (some (ad j)) := by
      funext z
      by_cases hz : z = k
      · simp [va_up, hz]
      · simp [va_up, hz]
    rw [e4]
  rw [e3] at e1
  rw [← e1] at hP1 hD1
  exact kk ad H1 locs1 ls hP1 hD1 hS1 hl (e2.trans hn) h0 h1

theorem A_gsAbove (hE : AGood E cc nL own ret nm) (q : Nat) {idx : Nat} (hd : decode cc pc = .ok (.getstatic idx, 3)) (hq : pc + 3 = q) (hf : Cond.fieldLink own idx "LoanedRound" "ABOVE" "[I" ∈ lw_g) (kk : AW E R nL Q ad0 n0 cells slots q lv (.retAddr 0 :: st) h) : AW E R nL Q ad0 n0 cells slots pc lv st h := by
  obtain ⟨p, l, e, s, m, args, below, meth, c, D, tc, sa, A⟩ := E
  subst hq
  obtain ⟨⟨hx, hb, hml, hown, hts⟩, hK, hT, hA, hr, hlk, hnm⟩ := hE
  intro ad H locs ls hP hD hS hl hn h0 h1
  exact va_gets hx hb hT.1.1 hS hown (hts _ hf) (fun _ z => z) hd (kk ad H locs ls hP hD hS hl hn h0 h1)
theorem A_gsAboveN (hE : AGood E cc nL "LoanedRound$Voices" ret nm) (q : Nat) (hd : decode cc pc = .ok (.getstatic 57, 3)) (hq : pc + 3 = q) (kk : AW E R nL Q ad0 n0 cells slots q lv (.retAddr 0 :: st) h) : AW E R nL Q ad0 n0 cells slots pc lv st h := by
  obtain ⟨p, l, e, s, m, args, below, meth, c, D, tc, sa, A⟩ := E
  subst hq
  obtain ⟨⟨hx, hb, hml, hown, hts⟩, hK, hT, hA, hr, hlk, hnm⟩ := hE
  intro ad H locs ls hP hD hS hl hn h0 h1
  exact va_getsN hx hb hT.1.1 hS hown (va_Nw.use rfl hT.2.2.2.2.2.1) (fun _ z => z) hd (kk ad H locs ls hP hD hS hl hn h0 h1)
theorem A_gsBodies (hE : AGood E cc nL own ret nm) (q : Nat) {idx : Nat} (hd : decode cc pc = .ok (.getstatic idx, 3)) (hq : pc + 3 = q) (hf : Cond.fieldLink own idx "LoanedRound$Voices" "BODIES" "[I" ∈ lw_g) (kk : AW E R nL Q ad0 n0 cells slots q lv (.retAddr 1 :: st) h) : AW E R nL Q ad0 n0 cells slots pc lv st h := by
  obtain ⟨p, l, e, s, m, args, below, meth, c, D, tc, sa, A⟩ := E
  subst hq
  obtain ⟨⟨hx, hb, hml, hown, hts⟩, hK, hT, hA, hr, hlk, hnm⟩ := hE
  intro ad H locs ls hP hD hS hl hn h0 h1
  exact va_gets hx hb hT.2.1.1 hS hown (hts _ hf) (fun _ z => z) hd (kk ad H locs ls hP hD hS hl hn h0 h1)
theorem A_tabA (hE : AGood E cc nL own ret nm) (q k : Nat) {x : Int32} (hd : decode cc pc = .ok (.iaload, 1)) (hq : pc + 1 = q) (hx : x = nI k) (hk : k < 7) (v : Int32) (hv : aboveL.getD k 0 = v) (kk : AW E R nL Q ad0 n0 cells slots q lv (.int v :: st) h) : AW E R nL Q ad0 n0 cells slots pc lv (.int x :: .retAddr 0 :: st) h := by
  subst hx
  obtain ⟨p, l, e, s, m, args, below, meth, c, D, tc, sa, A⟩ := E
  subst hq
  obtain ⟨⟨hx, hb, hml, hown, hts⟩, hK, hT, hA, hr, hlk, hnm⟩ := hE
  intro ad H locs ls hP hD hS hl hn h0 h1
  exact va_ti hx hb hT.1.2 hS (vp_in_nI hk (by omega)) (by rw [nI_clamp (by omega), hv]; rfl) hd (kk ad H locs ls hP hD hS hl hn h0 h1)
theorem A_tabB (hE : AGood E cc nL own ret nm) (q k : Nat) {x : Int32} (hd : decode cc pc = .ok (.iaload, 1)) (hq : pc + 1 = q) (hx : x = nI k) (hk : k < 28) (v : Int32) (hv : bodiesL.getD k 0 = v) (kk : AW E R nL Q ad0 n0 cells slots q lv (.int v :: st) h) : AW E R nL Q ad0 n0 cells slots pc lv (.int x :: .retAddr 1 :: st) h := by
  subst hx
  obtain ⟨p, l, e, s, m, args, below, meth, c, D, tc, sa, A⟩ := E
  subst hq
  obtain ⟨⟨hx, hb, hml, hown, hts⟩, hK, hT, hA, hr, hlk, hnm⟩ := hE
  intro ad H locs ls hP hD hS hl hn h0 h1
  exact va_ti hx hb hT.2.1.2 hS (vp_in_nI hk (by omega)) (by rw [nI_clamp (by omega), hv]; rfl) hd (kk ad H locs ls hP hD hS hl hn h0 h1)
theorem A_ldcE (hE : AGood E cc nL RX1 ret nm) (q : Nat) (hd : decode cc pc = .ok (.ldc 23, 2)) (hq : pc + 2 = q) (kk : AW E R nL Q ad0 n0 cells slots q lv (.retAddr 2 :: st) h) : AW E R nL Q ad0 n0 cells slots pc lv st h := by
  obtain ⟨p, l, e, s, m, args, below, meth, c, D, tc, sa, A⟩ := E
  subst hq
  obtain ⟨⟨hx, hb, hml, hown, hts⟩, hK, hT, hA, hr, hlk, hnm⟩ := hE
  intro ad H locs ls hP hD hS hl hn h0 h1
  exact va_ldcS hx hb hown hT.2.2.2.2.1.1 hd (kk ad H locs ls hP hD hS hl hn h0 h1)
theorem A_ldcV (hE : AGood E cc nL RX1 ret nm) (q : Nat) (hd : decode cc pc = .ok (.ldc 36, 2)) (hq : pc + 2 = q) (kk : AW E R nL Q ad0 n0 cells slots q lv (.retAddr 3 :: st) h) : AW E R nL Q ad0 n0 cells slots pc lv st h := by
  obtain ⟨p, l, e, s, m, args, below, meth, c, D, tc, sa, A⟩ := E
  subst hq
  obtain ⟨⟨hx, hb, hml, hown, hts⟩, hK, hT, hA, hr, hlk, hnm⟩ := hE
  intro ad H locs ls hP hD hS hl hn h0 h1
  exact va_ldcS hx hb hown hT.2.2.2.2.1.2.1 hd (kk ad H locs ls hP hD hS hl hn h0 h1)
theorem A_ldcL (hE : AGood E cc nL RX1 ret nm) (q : Nat) (hd : decode cc pc = .ok (.ldc 38, 2)) (hq : pc + 2 = q) (kk : AW E R nL Q ad0 n0 cells slots q lv (.retAddr 4 :: st) h) : AW E R nL Q ad0 n0 cells slots pc lv st h := by
  obtain ⟨p, l, e, s, m, args, below, meth, c, D, tc, sa, A⟩ := E
  subst hq
  obtain ⟨⟨hx, hb, hml, hown, hts⟩, hK, hT, hA, hr, hlk, hnm⟩ := hE
  intro ad H locs ls hP hD hS hl hn h0 h1
  exact va_ldcS hx hb hown hT.2.2.2.2.1.2.2 hd (kk ad H locs ls hP hD hS hl hn h0 h1)

theorem A_mmax (hE : AGood E cc nL own ret nm) (q : Nat) {idx : Nat} {x y : Int32} (hd : decode cc pc = .ok (.invokestatic idx, 3)) (hq : pc + 3 = q) (hlkk : Cond.methodLink own idx Lib.Math.max.name ∈ lw_g) (hst : Cond.static Lib.Math.max.name ∈ lw_g) (hcd : Cond.code Lib.Math.max.name Lib.Math.max.code 2 (some .int) ∈ lw_g) (hin : Cond.initialized "java/lang/Math" ∈ lw_g) (hfr : Nat.ble 1 R.frames = true) (hlo : ((st.map (cv (fun _ => 0) (fun _ => 0))).map fun v => v.category).sum + 13 ≤ R.locals) (hc : cells ≤ R.cells) (hs : slots ≤ R.slots) (kk : AW E R nL Q ad0 n0 cells slots q lv (.int (if x < y then y else x) :: st) h) : AW E R nL Q ad0 n0 cells slots pc lv (.int y :: .int x :: st) h := by
  obtain ⟨p, l, e, s, m, args, below, meth, c, D, tc, sa, A⟩ := E
  subst hq
  obtain ⟨⟨hx, hb, hml, hown, hts⟩, hK, hT, hA, hr, hlk, hnm⟩ := hE
  intro ad H locs ls hP hD hS hl hn h0 h1
  have hcat : ((st.map (cv ad sa)).map fun v => v.category) = ((st.map (cv (fun _ => 0) (fun _ => 0))).map fun v => v.category) := by
    rw [List.map_map, List.map_map]
    refine List.map_congr_left fun v _ => ?_
    cases v <;> rfl
  exact va_mmax hx hb (hml.trans hl.1.symm) hown (hts _ hlkk) (hts _ hst) (hts _ hin) (hts _ hcd) (Nat.le_of_ble_eq_true hfr) (by rw [hcat]; exact hlo) hc hs hd (kk ad H locs ls hP hD hS hl hn h0 h1)
theorem A_mmin (hE : AGood E cc nL own ret nm) (q : Nat) {idx : Nat} {x y : Int32} (hd : decode cc pc = .ok (.invokestatic idx, 3)) (hq : pc + 3 = q) (hlkk : Cond.methodLink own idx Lib.Math.min.name ∈ lw_g) (hst : Cond.static Lib.Math.min.name ∈ lw_g) (hcd : Cond.code Lib.Math.min.name Lib.Math.min.code 2 (some .int) ∈ lw_g) (hin : Cond.initialized "java/lang/Math" ∈ lw_g) (hfr : Nat.ble 1 R.frames = true) (hlo : ((st.map (cv (fun _ => 0) (fun _ => 0))).map fun v => v.category).sum + 13 ≤ R.locals) (hc : cells ≤ R.cells) (hs : slots ≤ R.slots) (kk : AW E R nL Q ad0 n0 cells slots q lv (.int (if y < x then y else x) :: st) h) : AW E R nL Q ad0 n0 cells slots pc lv (.int y :: .int x :: st) h := by
  obtain ⟨p, l, e, s, m, args, below, meth, c, D, tc, sa, A⟩ := E
  subst hq
  obtain ⟨⟨hx, hb, hml, hown, hts⟩, hK, hT, hA, hr, hlk, hnm⟩ := hE
  intro ad H locs ls hP hD hS hl hn h0 h1
  have hcat : ((st.map (cv ad sa)).map fun v => v.category) = ((st.map (cv (fun _ => 0) (fun _ => 0))).map fun v => v.category) := by
    rw [List.map_map, List.map_map]
    refine List.map_congr_left fun v _ => ?_
    cases v <;> rfl
  exact va_mmin hx hb (hml.trans hl.1.symm) hown (hts _ hlkk) (hts _ hst) (hts _ hin) (hts _ hcd) (Nat.le_of_ble_eq_true hfr) (by rw [hcat]; exact hlo) hc hs hd (kk ad H locs ls hP hD hS hl hn h0 h1)
theorem A_objInit (hE : AGood E cc nL own ret nm) (q : Nat) {idx i : Nat} (hd : decode cc pc = .ok (.invokespecial idx, 3)) (hq : pc + 3 = q) (hlkk : Cond.methodLink own idx Lib.objectInit ∈ lw_g) (hin : Cond.instanceMethod Lib.objectInit ∈ lw_g) (hcd : Cond.code Lib.objectInit ⟨#[0xb1]⟩ 1 none ∈ lw_g) (hfr : Nat.ble 1 R.frames = true) (hlo : ((st.map (cv (fun _ => 0) (fun _ => 0))).map fun v => v.category).sum + 12 ≤ R.locals) (kk : AW E R nL Q ad0 n0 cells slots q lv st h) : AW E R nL Q ad0 n0 cells slots pc lv (.ref i :: st) h := by
  obtain ⟨p, l, e, s, m, args, below, meth, c, D, tc, sa, A⟩ := E
  subst hq
  obtain ⟨⟨hx, hb, hml, hown, hts⟩, hK, hT, hA, hr, hlk, hnm⟩ := hE
  intro ad H locs ls hP hD hS hl hn h0 h1
  have hcat : ((st.map (cv ad sa)).map fun v => v.category) = ((st.map (cv (fun _ => 0) (fun _ => 0))).map fun v => v.category) := by
    rw [List.map_map, List.map_map]
    refine List.map_congr_left fun v _ => ?_
    cases v <;> rfl
  refine W.objInit hx hb hown (hts _ hlkk) (hts _ hin) (hts _ hcd) rfl (hl.1.trans hml.symm) rfl hd (Nat.le_of_ble_eq_true hfr) ?_ (kk ad H locs ls hP hD hS hl hn h0 h1)
  rw [hcat]
  show 2 * 0 + _ + 12 ≤ _
  omega

theorem A_copyi (hE : AGood E cc nL own ret nm) (q : Nat) {idx i j n0' n1 : Nat} {f g : Nat → Int32} {sp dp n : Int32} {h' : List AE} (hd : decode cc pc = .ok (.invokestatic idx, 3)) (hq : pc + 3 = q) (hlkk : Cond.methodLink own idx arraycopyName ∈ lw_g) (hnt : Cond.native arraycopyName ∈ lw_g) (hst : Cond.static arraycopyName ∈ lw_g) (hin : Cond.initialized "java/lang/System" ∈ lw_g) (hf : getO h i = some (.inl (0, n0', .inl f))) (hg : getO h j = some (.inl (0, n1, .inl g))) (a1 : ¬ sp < 0) (a2 : ¬ dp < 0) (a3 : ¬ n < 0) (a4 : sp.toNatClampNeg + n.toNatClampNeg ≤ n0') (a5 : dp.toNatClampNeg + n.toNatClampNeg ≤ n1) (hfr : Nat.ble 1 R.frames = true) (hlo : ((st.map (cv (fun _ => 0) (fun _ => 0))).map fun v => v.category).sum + (nativeFrameWords "java/lang/System" "arraycopy" 5 + 11) ≤ R.locals) (hs : setO h j (.inl (0, n1, .inl (va_cpy f g sp.toNatClampNeg dp.toNatClampNeg n.toNatClampNeg))) = some h') (kk : AW E R nL Q ad0 n0 cells slots q lv st h') : AW E R nL Q ad0 n0 cells slots pc lv (.int n :: .int dp :: .ref j :: .int sp :: .ref i :: st) h := by
  obtain ⟨p, l, e, s, m, args, below, meth, c, D, tc, sa, A⟩ := E
  subst hq
  obtain ⟨⟨hx, hb, hml, hown, hts⟩, hK, hT, hA, hr, hlk, hnm⟩ := hE
  intro ad H locs ls hP hD hS hl hn h0 h1
  have hcat : ((st.map (cv ad sa)).map fun v => v.category) = ((st.map (cv (fun _ => 0) (fun _ => 0))).map fun v => v.category) := by
    rw [List.map_map, List.map_map]
    refine List.map_congr_left fun v _ => ?_
    cases v <;> rfl
  obtain ⟨e1, e2⟩ := cw_set (ad := ad) (sa := sa) (tc := tc) hs
  refine va_copyi hx hb (hml.trans hl.1.symm) hown (hts _ hlkk) (hts _ hnt) (hts _ hst) (hts _ hin) hK hP hD hS i j 0 0 (cw_get hf) (cw_get hg) rfl rfl rfl a1 a2 a3 a4 a5 (fun _ _ => rfl) (Nat.le_of_ble_eq_true hfr) (by rw [hcat]; exact hlo) hd fun H1 locs1 hP1 hD1 hS1 => ?_
  have hP1 : va_P D vwCl ((cw ad sa tc h).set j (ad j, ce ad sa tc (.inl (0, n1, .inl (va_cpy f g sp.toNatClampNeg dp.toNatClampNeg n.toNatClampNeg))))) H1 := hP1
  have hD1 : va_D A ((cw ad sa tc h).set j (ad j, ce ad sa tc (.inl (0, n1, .inl (va_cpy f g sp.toNatClampNeg dp.toNatClampNeg n.toNatClampNeg))))) := hD1
  rw [← e1] at hP1 hD1
  exact kk ad H1 locs1 ls hP1 hD1 hS1 hl (e2.trans hn) h0 h1
end ROWS2
end
section
/-! CONTRACTS over the abstract machine, their ends and calls -/
def rn (is : List Nat) (i : Nat) : Nat := match getO is i with
  | some j => j
  | none => i
def rv (is : List Nat) (v : Value) : Value := match v with
  | .ref i => .ref (rn is i)
  | .retAddr k => .retAddr k
  | .int x => .int x
  | .long x => .long x
  | .float x => .float x
  | .double x => .double x
  | .null => .null
def ra (is : List Nat) (a : vp_A) : vp_A := match a with
  | (n, .inl f) => (n, .inl f)
  | (n, .inr (.inl f)) => (n, .inr (.inl f))
  | (n, .inr (.inr (.inl f))) => (n, .inr (.inr (.inl f)))
  | (n, .inr (.inr (.inr (.inl f)))) => (n, .inr (.inr (.inr (.inl f))))
  | (n, .inr (.inr (.inr (.inr f)))) => (n, .inr (.inr (.inr (.inr (fun j => (f j).map (rn is))))))
def re (is : List Nat) (e : AE) : AE := match e with
  | .inl (k, a) => .inl (k, ra is a)
  | .inr (c, fs) => .inr (c, fs.map (rv is))
theorem cv_rn (ad sa : Nat → Nat) (is : List Nat) (v : Value) : cv (fun i => ad (rn is i)) sa v = cv ad sa (rv is v) := by cases v <;> rfl
theorem ce_rn (ad sa : Nat → Nat) (tc : Nat → ClassId) (is : List Nat) (e : AE) : ce (fun i => ad (rn is i)) sa tc e = ce ad sa tc (re is e) := by
  cases e with
  | inl x =>
    obtain ⟨k, n, f | f | f | f | f⟩ := x
    · rfl
    · rfl
    · rfl
    · rfl
    · show (Sum.inl (tc k, n, Sum.inr (Sum.inr (Sum.inr (Sum.inr (fun j => (f j).map (fun i => ad (rn is i))))))) : va_E) = Sum.inl (tc k, n, Sum.inr (Sum.inr (Sum.inr (Sum.inr (fun j => ((f j).map (rn is)).map ad)))))
      have e4 : (fun j => (f j).map (fun i => ad (rn is i))) = (fun j => ((f j).map (rn is)).map ad) := by
        funext j
        cases f j <;> rfl
      rw [e4]
  | inr x =>
    obtain ⟨c, fs⟩ := x
    show (Sum.inr (c, fs.map (cv (fun i => ad (rn is i)) sa)) : va_E) = Sum.inr (c, (fs.map (rv is)).map (cv ad sa))
    rw [List.map_map]
    congr 2
    exact List.map_congr_left fun v _ => cv_rn ad sa is v
theorem gets_spec : ∀ (h : List AE) (is : List Nat) (r : List AE), gets h is = some r → r.length = is.length ∧ ∀ k i : Nat, is[k]? = some i → ∃ e : AE, h[i]? = some e ∧ r[k]? = some e
  | _, [], r, hr => by
    simp only [gets, Option.some.injEq] at hr
    subst hr
    exact ⟨rfl, fun k i hk => by simp at hk⟩
  | h, j :: is, r, hr => by
    cases h1 : getO h j with
    | none => simp [gets, h1] at hr
    | some e =>
      cases h2 : gets h is with
      | none => simp [gets, h1, h2] at hr
      | some r2 =>
        simp only [gets, h1, h2, Option.some.injEq] at hr
        subst hr
        obtain ⟨g1, g2⟩ := gets_spec h is r2 h2
        refine ⟨by simp [g1], fun k i hk => ?_⟩
        cases k with
        | zero =>
          simp only [List.getElem?_cons_zero, Option.some.injEq] at hk
          subst hk
          rw [getO_eq] at h1
          exact ⟨e, h1, rfl⟩
        | succ k =>
          rw [List.getElem?_cons_succ] at hk
          rw [List.getElem?_cons_succ]
          exact g2 k i hk
theorem wbO_spec : ∀ (is : List Nat) (r h h2 : List AE), wbO is r h = some h2 → va_nd is = true → h2.length = h.length ∧ (∀ k : Nat, k ∉ is → h2[k]? = h[k]?) ∧ ∀ j i : Nat, is[j]? = some i → ∃ e : AE, r[j]? = some e ∧ h2[i]? = some e
  | [], _, h, h2, hw, _ => by
    simp only [wbO, Option.some.injEq] at hw
    subst hw
    exact ⟨rfl, fun _ _ => rfl, fun j i hj => by simp at hj⟩
  | _ :: _, [], _, _, hw, _ => by simp [wbO] at hw
  | i :: is, e :: r, h, h2, hw, hn => by
    simp only [va_nd, Bool.and_eq_true, decide_eq_true_eq] at hn
    cases h1 : setO h i e with
    | none => simp [wbO, h1] at hw
    | some h' =>
      simp only [wbO, h1] at hw
      obtain ⟨rfl, hl⟩ := setO_eq _ _ _ _ h1
      obtain ⟨g1, g2, g3⟩ := wbO_spec is r _ h2 hw hn.2
      refine ⟨by simpa using g1, fun k hk => ?_, fun j z hj => ?_⟩
      · rw [List.mem_cons, not_or] at hk
        rw [g2 k hk.2, List.getElem?_set_ne (Ne.symm hk.1)]
      · cases j with
        | zero =>
          simp only [List.getElem?_cons_zero, Option.some.injEq] at hj
          subst hj
          exact ⟨e, rfl, by rw [g2 _ hn.1, List.getElem?_set_self hl]⟩
        | succ j =>
          rw [List.getElem?_cons_succ] at hj
          rw [List.getElem?_cons_succ]
          exact g3 j z hj
theorem rn_eq {is : List Nat} {k i : Nat} (h : is[k]? = some i) : rn is k = i := by
  rw [← getO_eq] at h
  simp [rn, h]
theorem sub_world {ad sa : Nat → Nat} {tc : Nat → ClassId} {h hc : List AE} {is : List Nat} (hg : gets h is = some (hc.map (re is))) : is.map (fun i => (cw ad sa tc h)[i]?) = (cw (fun i => ad (rn is i)) sa tc hc).map some := by
  obtain ⟨g1, g2⟩ := gets_spec _ _ _ hg
  rw [List.length_map] at g1
  apply List.ext_getElem?
  intro k
  rw [List.getElem?_map, List.getElem?_map]
  cases hk : is[k]? with
  | none =>
    have h1 : is.length ≤ k := by simpa using hk
    have h2 : (cw (fun i => ad (rn is i)) sa tc hc)[k]? = none := by
      rw [List.getElem?_eq_none_iff, cw_len, g1]
      exact h1
    rw [h2]
    rfl
  | some i =>
    obtain ⟨e, h1, h2⟩ := g2 k i hk
    rw [List.getElem?_map] at h2
    cases h3 : hc[k]? with
    | none => rw [h3] at h2; cases h2
    | some e0 =>
      rw [h3] at h2
      cases h2
      have h4 : (cw ad sa tc h)[i]? = some (ad i, ce ad sa tc (re is e0)) := cw_get (by rw [getO_eq]; exact h1)
      have h5 : (cw (fun i => ad (rn is i)) sa tc hc)[k]? = some (ad (rn is k), ce (fun i => ad (rn is i)) sa tc e0) := cw_get (ad := fun i => ad (rn is i)) (by rw [getO_eq]; exact h3)
      rw [h5]
      simp only [Option.map_some, h4]
      rw [ce_rn, rn_eq hk]
/-- the end of a contract: its answer, its cells -/
def QAc (D : va_G) (tc : Nat → ClassId) (sa : Nat → Nat) (A : Nat → Prop) (ad0 : Nat → Nat) (n0 mc : Nat) (post : Option Value → List AE → Prop) : Array Value → State → Outcome → State → Prop := fun _ st oc t =>
  (∃ (v : Option Value) (h' : List AE) (ad' : Nat → Nat), oc = .returned (v.map (cv ad' sa)) ∧ post v h' ∧ h'.length = n0 + mc ∧ (∀ i, i < n0 → ad' i = ad0 i) ∧ (mc = 0 → ad' = ad0) ∧ va_P D vwCl (cw ad' sa tc h') t.heap ∧ va_D A (cw ad' sa tc h')) ∧ va_F A st t
def QM (E : AV) (ad0 : Nat → Nat) (n0 mc ms : Nat) (post : Option Value → List AE → Prop) : State → Prop := match E with
  | (_, _, _, s, _, args, below, _, _, D, tc, sa, A) => MQ below (QAc D tc sa A ad0 n0 mc post) args s mc ms A
def B0 (D : va_G) (tc : Nat → ClassId) (sa ad : Nat → Nat) (sz : Nat) (h : List AE) (U : State) : Prop :=
  U.heap.size = sz ∧ va_P D vwCl (cw ad sa tc h) U.heap ∧ va_K D vwCl (tysO tc) U ∧ va_D (fun _ => True) (cw ad sa tc h) ∧ TB sa (va_A (cw ad sa tc h) sz) U U.heap
/-- the room of a method below which d calls may stand open -/
def rmD (d mc ms : Nat) : Room := { frames := d, cells := mc, slots := ms, locals := 32 * d + 20 }
/-- A CONTRACT: from the cells h, with the arguments as, the method returns, and post holds of its answer and the cells behind it -/
def AMet (y : MethodName) (cc : ByteArray) (nL : Nat) (ret : Option FieldType) (d mc ms : Nat) (as : List Value) (h : List AE) (post : Option Value → List AE → Prop) : Prop :=
  ∀ (l : Launch) (D : va_G) (tc : Nat → ClassId) (sa ad : Nat → Nat) (sz : Nat), Met l y (.code y cc nL ret :: lw_g) (rmD d mc ms) (va_Pc (as.map (cv ad sa)) (B0 D tc sa ad sz h)) (QAc D tc sa (va_A (cw ad sa tc h) sz) ad h.length mc post) mc ms (va_A (cw ad sa tc h) sz)
theorem lv_args_cv (ad sa : Nat → Nat) : ∀ (i : Nat) (vs : List Value), lv_args i (vs.map (cv ad sa)) = (lv_args i vs).map (cl' ad sa)
  | _, [] => rfl
  | i, v :: vs => by
    have e : (cv ad sa v).category = v.category := by cases v <;> rfl
    simp only [List.map_cons, lv_args, e]
    rw [lv_args_cv ad sa _ vs]
    rfl
theorem lg_sl_cv (ad sa : Nat → Nat) : ∀ (vs : List Value), (lg_sl (vs.map (cv ad sa))).length = (lg_sl vs).length
  | [] => rfl
  | v :: vs => by
    have ih := lg_sl_cv ad sa vs
    have e : (cv ad sa v).category = v.category := by cases v <;> rfl
    simp only [lg_sl, List.map_cons, List.flatMap_cons, List.length_append, e] at ih ⊢
    rw [ih]
    split <;> rfl
theorem AMet.of {y : MethodName} {cc : ByteArray} {nL : Nat} {ret : Option FieldType} {d mc ms : Nat} {as : List Value} {h : List AE} {post : Option Value → List AE → Prop} (hy : plainName y.cls = true) (hn : Nat.ble (lg_sl as).length nL = true)
    (body : ∀ (E : AV) (ad0 : Nat → Nat), AGood E cc nL y.cls ret y.name → AW E (rmD d mc ms) nL (QM E ad0 h.length mc ms post) ad0 h.length 0 0 0 (lv_args 0 as) [] h) : AMet y cc nL ret d mc ms as h post := by
  intro l D tc sa ad sz
  refine Met.ofW (cc := cc) (maxL := nL) (ret := ret) hy rfl ?_
  intro p e s m args below meth c s₁ B hml hv
  obtain ⟨rfl, hsz, hP, hK, hD0, hT⟩ := hv
  have hx := B.exec
  have hb := B.bytes
  have hr := B.returns
  have hts0 := atoms_spec (ws := .code y cc nL ret :: lw_g) B.pre
  have hts : ∀ w ∈ lw_g, w.before (as.map (cv ad sa)).toArray s = true := fun w hw => hts0 w (List.mem_cons_of_mem _ hw)
  have hown : s.vm.findClass y.cls = some m.cls := findClass_of_methodNamed B.named
  have hlocks := B.notSynchronized
  have hin : meth.name = y.name := (name_of_methodNamed B.named B.method).1
  subst hsz
  have hD := hD0.self (sz := s.heap.size)
  have hl := lv_entry (as.map (cv ad sa)) (n := nL) (by rw [lg_sl_cv]; exact Nat.le_of_ble_eq_true hn)
  rw [lg_entry_eq]
  rw [lv_args_cv] at hl
  exact body (p, l, e, s, m, (as.map (cv ad sa)).toArray, below, meth, c, D, tc, sa, va_A (cw ad sa tc h) s.heap.size) ad ⟨⟨hx, hb, hml, hown, hts⟩, hK, hT, fun q hq => Or.inr hq, hr, hlocks, hin⟩ ad s.heap [] _ hP hD va_S.rf hl rfl (fun _ _ => rfl) (fun _ => rfl)
/-- typed ends -/
def pI (P : Int32 → List AE → Prop) : Option Value → List AE → Prop := fun v h => ∃ x, v = some (.int x) ∧ P x h
def pV (P : List AE → Prop) : Option Value → List AE → Prop := fun v h => v = none ∧ P h
def pR (P : Nat → List AE → Prop) : Option Value → List AE → Prop := fun v h => ∃ i, v = some (.ref i) ∧ P i h
section RETS
variable {E : AV} {R : Room} {nL : Nat} {ad0 : Nat → Nat} {n0 cells slots pc mc ms : Nat} {lv : List (Nat × Value)} {h : List AE} {cc : ByteArray} {own : String} {ret : Option FieldType} {nm : String}
theorem A_iret {P : Int32 → List AE → Prop} {x : Int32} (hE : AGood E cc nL own (some .int) nm) (hd : decode cc pc = .ok (.ireturn, 1)) (hp : P x h) : AW E R nL (QM E ad0 n0 cells slots (pI P)) ad0 n0 cells slots pc lv [.int x] h := by
  obtain ⟨p, l, e, s, m, args, below, meth, c, D, tc, sa, A⟩ := E
  obtain ⟨⟨hx, hb, hml, hown, hts⟩, hK, hT, hA, hr, hlk, hnm⟩ := hE
  intro ad H locs ls hP hD hS hl hn h0 h1
  refine W.iret hx hb hr (fun t ht hW => ⟨⟨some (.int x), h, ad, rfl, ⟨x, rfl, hp⟩, hn, h0, h1, by rw [ht]; exact hP, hD⟩, hS.F ht⟩) hS.2.2 hd hlk
theorem A_zret {P : Int32 → List AE → Prop} {x : Int32} (hE : AGood E cc nL own (some .boolean) nm) (hd : decode cc pc = .ok (.ireturn, 1)) (hz : x = 0 ∨ x = 1) (hp : P x h) : AW E R nL (QM E ad0 n0 cells slots (pI P)) ad0 n0 cells slots pc lv [.int x] h := by
  obtain ⟨p, l, e, s, m, args, below, meth, c, D, tc, sa, A⟩ := E
  obtain ⟨⟨hx, hb, hml, hown, hts⟩, hK, hT, hA, hr, hlk, hnm⟩ := hE
  intro ad H locs ls hP hD hS hl hn h0 h1
  have hnr : narrow .boolean (.int x) = .int x := by rcases hz with rfl | rfl <;> decide
  refine W.zret hx hb hr hnr (fun t ht hW => ⟨⟨some (.int x), h, ad, rfl, ⟨x, rfl, hp⟩, hn, h0, h1, by rw [ht]; exact hP, hD⟩, hS.F ht⟩) hS.2.2 hd hlk
theorem A_cret {P : Int32 → List AE → Prop} {x : Int32} {ty : FieldType} (hE : AGood E cc nL own (some ty) nm) (hd : decode cc pc = .ok (.ireturn, 1)) (hnr : narrow ty (.int x) = .int x) (hp : P x h) : AW E R nL (QM E ad0 n0 cells slots (pI P)) ad0 n0 cells slots pc lv [.int x] h := by
  obtain ⟨p, l, e, s, m, args, below, meth, c, D, tc, sa, A⟩ := E
  obtain ⟨⟨hx, hb, hml, hown, hts⟩, hK, hT, hA, hr, hlk, hnm⟩ := hE
  intro ad H locs ls hP hD hS hl hn h0 h1
  refine W.zret hx hb hr hnr (fun t ht hW => ⟨⟨some (.int x), h, ad, rfl, ⟨x, rfl, hp⟩, hn, h0, h1, by rw [ht]; exact hP, hD⟩, hS.F ht⟩) hS.2.2 hd hlk
theorem A_vret {P : List AE → Prop} (hE : AGood E cc nL own none nm) (hd : decode cc pc = .ok (.return_, 1)) (hp : P h) : AW E R nL (QM E ad0 n0 cells slots (pV P)) ad0 n0 cells slots pc lv [] h := by
  obtain ⟨p, l, e, s, m, args, below, meth, c, D, tc, sa, A⟩ := E
  obtain ⟨⟨hx, hb, hml, hown, hts⟩, hK, hT, hA, hr, hlk, hnm⟩ := hE
  intro ad H locs ls hP hD hS hl hn h0 h1
  refine W.vret hx hb hr (fun t ht hW => ⟨⟨none, h, ad, rfl, ⟨rfl, hp⟩, hn, h0, h1, by rw [ht]; exact hP, hD⟩, hS.F ht⟩) hS.2.2 hd hlk
theorem A_aret {P : Nat → List AE → Prop} {i : Nat} {C : String} (hE : AGood E cc nL own (some (.object C)) nm) (hd : decode cc pc = .ok (.areturn, 1)) (hp : P i h) : AW E R nL (QM E ad0 n0 cells slots (pR P)) ad0 n0 cells slots pc lv [.ref i] h := by
  obtain ⟨p, l, e, s, m, args, below, meth, c, D, tc, sa, A⟩ := E
  obtain ⟨⟨hx, hb, hml, hown, hts⟩, hK, hT, hA, hr, hlk, hnm⟩ := hE
  intro ad H locs ls hP hD hS hl hn h0 h1
  exact W.aret hx hb hr (Or.inl ⟨C, rfl⟩) (Or.inr ⟨ad i, rfl⟩) (fun t ht hW => ⟨⟨some (.ref i), h, ad, rfl, ⟨i, rfl, hp⟩, hn, h0, h1, by rw [ht]; exact hP, hD⟩, hS.F ht⟩) hS.2.2 hd hlk
end RETS
section CALLS
variable {p : Program} {l : Launch} {e : Env} {R : Room} {s : State} {m : MethodId} {args : Array Value} {below : List Frame} {meth : Method} {c : Code} {H : Heap} {locs : List Loc} {cells slots : Nat} {Q : State → Prop}
variable {pc : Nat} {ls : Array Slot} {rest st0 : List Value} {a : Array Value} {A0 A1 : Nat → Prop} {H0 : Heap} {mc ms : Nat}
theorem callA {D : va_G} {tc : Nat → ClassId} {sa ad2 : Nat → Nat} {n2 : Nat} {post : Option Value → List AE → Prop} (hr : va_Run p l e R s m args below meth c H locs cells slots mc ms (F0 m pc ls st0) rest (QAc D tc sa A1 ad2 n2 mc post a) A1) (hS : va_S A0 H0 H locs) (hF : ∀ q, A1 q → A0 q)
    (kk : ∀ (v : Option Value) (h' : List AE) (ad' : Nat → Nat) (H1 : Heap) (locs1 : List Loc), post v h' → h'.length = n2 + mc → (∀ i, i < n2 → ad' i = ad2 i) → (mc = 0 → ad' = ad2) → va_P D vwCl (cw ad' sa tc h') H1 → va_D A1 (cw ad' sa tc h') → H.size ≤ H1.size → (∀ q : Nat, q < H.size → ¬ A1 q → H1[q]? = H[q]?) → va_S A0 H0 H1 locs1 → W p l e R s m args below meth c H1 locs1 (cells + mc) (slots + ms) Q (F0 m (pc + 3) ls ((v.map (cv ad' sa)).toList ++ rest))) : W p l e R s m args below meth c H locs cells slots Q (F0 m pc ls st0) := by
  intro T hT X
  obtain ⟨v0, st₀, t, T', L, h0, X', hL, e1, e2, ⟨⟨v, h', ad', hv, hp, g1, g2, g3, g4, g5⟩, hz, hk⟩, st⟩ := hr T hT X
  cases hv
  rw [h0] at hz hk
  obtain ⟨t2, a1, b1⟩ := kk v h' ad' T'.heap (locs ++ L) hp g1 g2 g3 (by rw [e1]; exact g4) g5 (by rw [e1]; exact hz) (fun q h1 h2 => by rw [e1]; exact hk q h1 h2)
    ⟨Nat.le_trans hS.1 (by rw [e1]; exact hz), fun q h1 h2 => by rw [e1, hk q (Nat.lt_of_lt_of_le h1 hS.1) (fun z => h2 (hF q z))]; exact hS.2.1 q h1 h2, fun q hq => by
      rcases List.mem_append.mp hq with h | h
      · exact hS.2.2 q h
      · exact hF _ (hL q h)⟩ T' rfl X'
  exact ⟨t2, st t2 a1, b1⟩
end CALLS
theorem B0_blind {av : List Value} {D : va_G} {tc : Nat → ClassId} {sa ad : Nat → Nat} {sz : Nat} {h : List AE} : FrameBlind (va_Pc av (B0 D tc sa ad sz h)) := by
  intro a U g mk hq
  obtain ⟨h1, h2, h3, h4, h5, h6⟩ := hq
  exact ⟨h1, h2, h3, va_K.moved (u := U) (U := U.calling g mk a) (Vm.Alike.refl U.vm) h4, h5, TB.same (s := U) (U := U.calling g mk a) h6 rfl⟩
/-- the callee's start, out of the caller's stand -/
theorem B0_of {D : va_G} {tc : Nat → ClassId} {sa ad : Nat → Nat} {h hc : List AE} {is : List Nat} {A : Nat → Prop} {s : State} {H : Heap} {locs : List Loc} (hP : va_P D vwCl (cw ad sa tc h) H) (hD : va_D A (cw ad sa tc h)) (hS : va_S A s.heap H locs) (hA : ∀ q : Nat, s.heap.size ≤ q → A q) (hK : va_K D vwCl (tysO tc) s) (hT : TB sa A s s.heap) (hg : gets h is = some (hc.map (re is))) (hnd : va_nd is = true) :
    (∀ U : State, U.heap = H → s.WarmedH U.vm → B0 D tc sa (fun i => ad (rn is i)) H.size hc U) ∧ va_P D vwCl (cw (fun i => ad (rn is i)) sa tc hc) H ∧ ∀ q, va_A (cw (fun i => ad (rn is i)) sa tc hc) H.size q → A q := by
  have hsub := sub_world (ad := ad) (sa := sa) (tc := tc) hg
  have hF := va_free hD hS hA is hsub
  have hDc := hD.sub is hnd hsub
  have hPc : va_P D vwCl (cw (fun i => ad (rn is i)) sa tc hc) H := by
    intro k q hk
    have h1 : (is.map (fun i => (cw ad sa tc h)[i]?))[k]? = some (some q) := by rw [hsub, List.getElem?_map, hk]; rfl
    rw [List.getElem?_map] at h1
    cases hi : is[k]? with
    | none => rw [hi] at h1; cases h1
    | some i => rw [hi] at h1; exact hP i q (Option.some.inj h1)
  refine ⟨fun U hU hW => ⟨by rw [hU], by rw [hU]; exact hPc, va_K.moved hW.alike hK, hDc.weaken (fun _ _ _ _ => trivial), ?_⟩, hPc, hF⟩
  rw [hU]
  exact ((hT.kept (fun a ha hn => hS.2.1 a ha hn)).narrow hF).warm hW
/-- the world behind a call that makes no cells -/
theorem back0 {D : va_G} {tc : Nat → ClassId} {sa ad : Nat → Nat} {h hc h' h2 : List AE} {is : List Nat} {A : Nat → Prop} {H H1 : Heap} (hP : va_P D vwCl (cw ad sa tc h) H) (hD : va_D A (cw ad sa tc h)) (hg : gets h is = some (hc.map (re is))) (hnd : va_nd is = true) (hw : wbO is (h'.map (re is)) h = some h2)
    (hP1 : va_P D vwCl (cw (fun i => ad (rn is i)) sa tc h') H1) (hk : ∀ q : Nat, q < H.size → ¬ va_A (cw (fun i => ad (rn is i)) sa tc hc) H.size q → H1[q]? = H[q]?) : va_P D vwCl (cw ad sa tc h2) H1 ∧ va_D A (cw ad sa tc h2) ∧ h2.length = h.length := by
  obtain ⟨w1, w2, w3⟩ := wbO_spec _ _ _ _ hw hnd
  obtain ⟨g1, g2⟩ := gets_spec _ _ _ hg
  rw [List.length_map] at g1
  have hadr : ∀ (k : Nat) (q : Nat × va_E), (cw ad sa tc h2)[k]? = some q → ∃ e0, (cw ad sa tc h)[k]? = some (ad k, e0) ∧ q.1 = ad k := by
    intro k q hq
    obtain ⟨e, h1, rfl⟩ := cw_inv hq
    have hlt : k < h.length := by rw [← w1]; exact (List.getElem?_eq_some_iff.mp h1).1
    exact ⟨_, cw_get (by rw [getO_eq]; exact List.getElem?_eq_getElem hlt), rfl⟩
  refine ⟨fun k q hq => ?_, ⟨fun i j x y hi hj hxy => ?_, fun k q hq => ?_⟩, w1⟩
  · obtain ⟨e, h1, rfl⟩ := cw_inv hq
    by_cases hin : k ∈ is
    · obtain ⟨j, hj⟩ := List.getElem?_of_mem hin
      obtain ⟨e', h3, h4⟩ := w3 j k hj
      rw [h1] at h4
      cases h4
      rw [List.getElem?_map] at h3
      cases h5 : h'[j]? with
      | none => rw [h5] at h3; cases h3
      | some e0 =>
        rw [h5] at h3
        cases h3
        have h6 := hP1 j _ (cw_get (ad := fun i => ad (rn is i)) (sa := sa) (tc := tc) (by rw [getO_eq]; exact h5))
        rw [ce_rn] at h6
        rw [← rn_eq hj]
        exact h6
    · rw [w2 k hin] at h1
      have h2 := hP k _ (cw_get (ad := ad) (sa := sa) (tc := tc) (by rw [getO_eq]; exact h1))
      refine h2.kept (hk _ h2.lt ?_)
      rintro (⟨k2, e2, hx⟩ | hx)
      · obtain ⟨e3, h3, h4⟩ := cw_inv hx
        have hk2 : k2 < is.length := by rw [← g1]; exact (List.getElem?_eq_some_iff.mp h3).1
        obtain ⟨i2, hi2⟩ : ∃ i2, is[k2]? = some i2 := ⟨_, List.getElem?_eq_getElem hk2⟩
        obtain ⟨e4, h5, -⟩ := g2 k2 i2 hi2
        have h7 := cw_get (ad := ad) (sa := sa) (tc := tc) (h := h) (k := i2) (by rw [getO_eq]; exact h5)
        have h8 := cw_get (ad := ad) (sa := sa) (tc := tc) (h := h) (k := k) (by rw [getO_eq]; exact h1)
        have h9 : ad k = ad i2 := by
          have := congrArg Prod.fst h4
          rw [← rn_eq hi2]
          exact this
        have h10 := hD.1 _ _ _ _ h8 h7 h9
        exact hin (h10 ▸ List.mem_of_getElem? hi2)
      · exact absurd h2.lt (Nat.not_lt.mpr hx)
  · obtain ⟨e1, h1, h2⟩ := hadr i x hi
    obtain ⟨e2, h3, h4⟩ := hadr j y hj
    exact hD.1 i j _ _ h1 h3 (h2.symm.trans (hxy.trans h4))
  · obtain ⟨e1, h1, h2⟩ := hadr k q hq
    rw [h2]
    exact hD.2 k _ h1
end
section
/-! calls, an instruction a row -/
def catS : List Value → Nat
  | [] => 0
  | v :: l => (match cat2 v with
    | true => 2
    | false => 1) + catS l
theorem catS_eq (ad sa : Nat → Nat) : ∀ st : List Value, ((st.map (cv ad sa)).map fun v => v.category).sum = catS st
  | [] => rfl
  | v :: l => by
    have ih := catS_eq ad sa l
    simp only [List.map_cons, List.sum_cons, catS, ih]
    cases v <;> rfl
theorem stk_eq {ad sa : Nat → Nat} {is : List Nat} {st0 st as : List Value} (h : st0 = (as.map (rv is)).reverse ++ st) : st0.map (cv ad sa) = (as.map (cv (fun i => ad (rn is i)) sa)).reverse ++ st.map (cv ad sa) := by
  subst h
  rw [List.map_append, List.map_reverse, List.map_map]
  congr 2
  exact List.map_congr_left fun v _ => (cv_rn ad sa is v).symm
theorem opt_rv (ad sa : Nat → Nat) (is : List Nat) (v : Option Value) (st : List Value) : (v.map (cv (fun i => ad (rn is i)) sa)).toList ++ st.map (cv ad sa) = ((v.map (rv is)).toList ++ st).map (cv ad sa) := by
  cases v with
  | none => rfl
  | some v =>
    show cv (fun i => ad (rn is i)) sa v :: _ = _
    rw [cv_rn]
    rfl
section CROWS
variable {E : AV} {R : Room} {nL : Nat} {Q : State → Prop} {ad0 : Nat → Nat} {n0 cells slots pc : Nat} {lv : List (Nat × Value)} {st0 st : List Value} {h : List AE} {cc : ByteArray} {own : String} {ret : Option FieldType} {nm : String}
variable {y : MethodName} {cc2 : ByteArray} {nL2 d2 np ci idx r : Nat} {ret2 : Option FieldType} {as : List Value} {hc : List AE} {post : Option Value → List AE → Prop} {fs : List Value}
theorem A_callV (hE : AGood E cc nL own ret nm) (q : Nat) (hM : AMet y cc2 nL2 ret2 d2 0 0 (.ref r :: as) hc post) (is : List Nat) (hd : decode cc pc = .ok (.invokevirtual idx, 3)) (hq : pc + 3 = q) (hk : MKV own idx y cc2 nL2 ret2 np ci) (hrc : getO hc r = some (.inr (ci, fs))) (hg : gets h is = some (hc.map (re is))) (hnd : va_nd is = true) (hst : st0 = (as.map (rv is)).reverse ++ .ref (rn is r) :: st) (hlen : as.length = np) (hfr : Nat.blt d2 R.frames = true) (hlo : Nat.ble (8 + (nL2 + 11) + (32 * d2 + 20)) R.locals = true) (hcl : cells ≤ R.cells) (hsl : slots ≤ R.slots) (hcat : Nat.ble (catS st) 8 = true)
    (kk : ∀ (v : Option Value) (h' h2 : List AE), post v h' → wbO is (h'.map (re is)) h = some h2 → AW E R nL Q ad0 n0 cells slots q lv ((v.map (rv is)).toList ++ st) h2) : AW E R nL Q ad0 n0 cells slots pc lv st0 h := by
  obtain ⟨p, l, e, s, m, args, below, meth, c, D, tc, sa, A⟩ := E
  subst hq
  obtain ⟨⟨hx, hb, hml, hown, hts⟩, hK, hT, hA, hr, hlk, hnm⟩ := hE
  intro ad H locs ls hP hD hS hl hn h0 h1
  obtain ⟨hB, hPc, hF⟩ := B0_of hP hD hS hA hK hT hg hnd
  obtain ⟨⟨k1, k2, k3, k4, k5, k6⟩, k7, k8, T, N, k9⟩ := hk
  have hstk : st0.map (cv ad sa) = (as.map (cv (fun i => ad (rn is i)) sa)).reverse ++ Value.ref (ad (rn is r)) :: st.map (cv ad sa) := stk_eq hst
  refine callA (va_runV (C := y.cls) (b := ad (rn is r)) (As := as.map (cv (fun i => ad (rn is i)) sa)) (rest := st.map (cv ad sa)) ⟨hx, hb, hml, hown, hts⟩ (hM l D tc sa (fun i => ad (rn is i)) H.size)
    ⟨callB_of np hts (lg_good k2) rfl rfl rfl (hts _ k3) (hts _ k1) ⟨k4, k5, k6⟩ ⟨Nat.le_of_ble_eq_true hfr, Nat.le_of_ble_eq_true hlo⟩, hts _ k7, hts _ k8⟩
    ⟨B0_blind, va_recv (q := (y.cls, T, N)) hK hPc k9 (cw_get hrc), fun U hU hW => ⟨rfl, hB U hU hW⟩⟩ rfl (by rw [List.length_map]; exact hlen) hl.1 hstk (by rw [catS_eq]; show 2 * 0 + _ ≤ _; rw [Nat.mul_zero, Nat.zero_add]; exact Nat.le_of_ble_eq_true hcat) hd ⟨hcl, hsl⟩) hS hF ?_
  intro v h' ad' H1 locs1 hp hlen' hx' hy' hP1 hD1 hz hk1 hS1
  have e0 := hy' rfl
  subst e0
  have hlw : ∃ h2, wbO is (h'.map (re is)) h = some h2 := by
    obtain ⟨g1, g2⟩ := gets_spec _ _ _ hg
    rw [List.length_map] at g1
    have key : ∀ (is : List Nat) (r : List AE) (h : List AE), is.length ≤ r.length → (∀ i ∈ is, i < h.length) → ∃ h2, wbO is r h = some h2 := by
      intro is
      induction is with
      | nil => intro r h _ _; exact ⟨h, rfl⟩
      | cons i is ih =>
        intro r h hr hi
        cases r with
        | nil => simp at hr
        | cons e r =>
          have hset : ∃ h', setO h i e = some h' := by
            have : ∀ (h : List AE) (i : Nat), i < h.length → ∃ h', setO h i e = some h' := by
              intro h
              induction h with
              | nil => intro i hi; simp at hi
              | cons a h ih2 =>
                intro i hi
                cases i with
                | zero => exact ⟨_, rfl⟩
                | succ i =>
                  obtain ⟨h', hh⟩ := ih2 i (by simpa using hi)
                  exact ⟨a :: h', by simp [setO, hh]⟩
            exact this h i (hi i List.mem_cons_self)
          obtain ⟨h', hh⟩ := hset
          obtain ⟨h2, hh2⟩ := ih r h' (by simpa using hr) (fun j hj => by rw [(setO_eq _ _ _ _ hh).1, List.length_set]; exact hi j (List.mem_cons_of_mem _ hj))
          exact ⟨h2, by simp only [wbO, hh]; exact hh2⟩
    refine key is _ h (by rw [List.length_map, hlen', ← g1]; omega) (fun i hi => ?_)
    obtain ⟨k, hk⟩ := List.getElem?_of_mem hi
    obtain ⟨e0, h3, -⟩ := g2 k i hk
    exact (List.getElem?_eq_some_iff.mp h3).1
  obtain ⟨h2, hw⟩ := hlw
  obtain ⟨b1, b2, b3⟩ := back0 hP hD hg hnd hw hP1 hk1
  rw [opt_rv]
  exact kk v h' h2 hp hw ad H1 locs1 ls b1 b2 hS1 hl (b3.trans hn) h0 h1
theorem A_callS (hE : AGood E cc nL own ret nm) (q : Nat) (hM : AMet y cc2 nL2 ret2 d2 0 0 as hc post) (is : List Nat) (hd : decode cc pc = .ok (.invokestatic idx, 3)) (hq : pc + 3 = q) (hk : MKS own idx y cc2 nL2 ret2 np) (hg : gets h is = some (hc.map (re is))) (hnd : va_nd is = true) (hst : st0 = (as.map (rv is)).reverse ++ st) (hlen : as.length = np) (hfr : Nat.blt d2 R.frames = true) (hlo : Nat.ble (8 + (nL2 + 11) + (32 * d2 + 20)) R.locals = true) (hcl : cells ≤ R.cells) (hsl : slots ≤ R.slots) (hcat : Nat.ble (catS st) 8 = true)
    (kk : ∀ (v : Option Value) (h' h2 : List AE), post v h' → wbO is (h'.map (re is)) h = some h2 → AW E R nL Q ad0 n0 cells slots q lv ((v.map (rv is)).toList ++ st) h2) : AW E R nL Q ad0 n0 cells slots pc lv st0 h := by
  obtain ⟨p, l, e, s, m, args, below, meth, c, D, tc, sa, A⟩ := E
  subst hq
  obtain ⟨⟨hx, hb, hml, hown, hts⟩, hK, hT, hA, hr, hlk, hnm⟩ := hE
  intro ad H locs ls hP hD hS hl hn h0 h1
  obtain ⟨hB, hPc, hF⟩ := B0_of hP hD hS hA hK hT hg hnd
  obtain ⟨⟨k1, k2, k3, k4, k5, k6⟩, k7⟩ := hk
  refine callA (va_runS (As := as.map (cv (fun i => ad (rn is i)) sa)) (rest := st.map (cv ad sa)) ⟨hx, hb, hml, hown, hts⟩ (hM l D tc sa (fun i => ad (rn is i)) H.size)
    ⟨callB_of np hts (lg_good k2) rfl rfl rfl (hts _ k3) (hts _ k1) ⟨k4, k5, k6⟩ ⟨Nat.le_of_ble_eq_true hfr, Nat.le_of_ble_eq_true hlo⟩, hts _ k7⟩
    ⟨B0_blind, fun U hU hW => ⟨rfl, hB U hU hW⟩⟩ rfl (by rw [List.length_map]; exact hlen) hl.1 (stk_eq hst) (by rw [catS_eq]; show 2 * 0 + _ ≤ _; rw [Nat.mul_zero, Nat.zero_add]; exact Nat.le_of_ble_eq_true hcat) hd ⟨hcl, hsl⟩) hS hF ?_
  intro v h' ad' H1 locs1 hp hlen' hx' hy' hP1 hD1 hz hk1 hS1
  have e0 := hy' rfl
  subst e0
  have hlw : ∃ h2, wbO is (h'.map (re is)) h = some h2 := by
    obtain ⟨g1, g2⟩ := gets_spec _ _ _ hg
    rw [List.length_map] at g1
    have key : ∀ (is : List Nat) (r : List AE) (h : List AE), is.length ≤ r.length → (∀ i ∈ is, i < h.length) → ∃ h2, wbO is r h = some h2 := by
      intro is
      induction is with
      | nil => intro r h _ _; exact ⟨h, rfl⟩
      | cons i is ih =>
        intro r h hr hi
        cases r with
        | nil => simp at hr
        | cons e r =>
          have hset : ∃ h', setO h i e = some h' := by
            have : ∀ (h : List AE) (i : Nat), i < h.length → ∃ h', setO h i e = some h' := by
              intro h
              induction h with
              | nil => intro i hi; simp at hi
              | cons a h ih2 =>
                intro i hi
                cases i with
                | zero => exact ⟨_, rfl⟩
                | succ i =>
                  obtain ⟨h', hh⟩ := ih2 i (by simpa using hi)
                  exact ⟨a :: h', by simp [setO, hh]⟩
            exact this h i (hi i List.mem_cons_self)
          obtain ⟨h', hh⟩ := hset
          obtain ⟨h2, hh2⟩ := ih r h' (by simpa using hr) (fun j hj => by rw [(setO_eq _ _ _ _ hh).1, List.length_set]; exact hi j (List.mem_cons_of_mem _ hj))
          exact ⟨h2, by simp only [wbO, hh]; exact hh2⟩
    refine key is _ h (by rw [List.length_map, hlen', ← g1]; omega) (fun i hi => ?_)
    obtain ⟨k, hk⟩ := List.getElem?_of_mem hi
    obtain ⟨e0, h3, -⟩ := g2 k i hk
    exact (List.getElem?_eq_some_iff.mp h3).1
  obtain ⟨h2, hw⟩ := hlw
  obtain ⟨b1, b2, b3⟩ := back0 hP hD hg hnd hw hP1 hk1
  rw [opt_rv]
  exact kk v h' h2 hp hw ad H1 locs1 ls b1 b2 hS1 hl (b3.trans hn) h0 h1
theorem A_callVi {P : Int32 → List AE → Prop} (hE : AGood E cc nL own ret nm) (q : Nat) (hM : AMet y cc2 nL2 ret2 d2 0 0 (.ref r :: as) hc (pI P)) (is : List Nat) (hd : decode cc pc = .ok (.invokevirtual idx, 3)) (hq : pc + 3 = q) (hk : MKV own idx y cc2 nL2 ret2 np ci) (hrc : getO hc r = some (.inr (ci, fs))) (hg : gets h is = some (hc.map (re is))) (hnd : va_nd is = true) (hst : st0 = (as.map (rv is)).reverse ++ .ref (rn is r) :: st) (hlen : as.length = np) (hfr : Nat.blt d2 R.frames = true) (hlo : Nat.ble (8 + (nL2 + 11) + (32 * d2 + 20)) R.locals = true) (hcl : cells ≤ R.cells) (hsl : slots ≤ R.slots) (hcat : Nat.ble (catS st) 8 = true)
    (kk : ∀ (x : Int32) (h' h2 : List AE), P x h' → wbO is (h'.map (re is)) h = some h2 → AW E R nL Q ad0 n0 cells slots q lv (.int x :: st) h2) : AW E R nL Q ad0 n0 cells slots pc lv st0 h :=
  A_callV hE q hM is hd hq hk hrc hg hnd hst hlen hfr hlo hcl hsl hcat fun v h' h2 hp hw => by
    obtain ⟨x, rfl, hp⟩ := hp
    exact kk x h' h2 hp hw
theorem A_callVv {P : List AE → Prop} (hE : AGood E cc nL own ret nm) (q : Nat) (hM : AMet y cc2 nL2 ret2 d2 0 0 (.ref r :: as) hc (pV P)) (is : List Nat) (hd : decode cc pc = .ok (.invokevirtual idx, 3)) (hq : pc + 3 = q) (hk : MKV own idx y cc2 nL2 ret2 np ci) (hrc : getO hc r = some (.inr (ci, fs))) (hg : gets h is = some (hc.map (re is))) (hnd : va_nd is = true) (hst : st0 = (as.map (rv is)).reverse ++ .ref (rn is r) :: st) (hlen : as.length = np) (hfr : Nat.blt d2 R.frames = true) (hlo : Nat.ble (8 + (nL2 + 11) + (32 * d2 + 20)) R.locals = true) (hcl : cells ≤ R.cells) (hsl : slots ≤ R.slots) (hcat : Nat.ble (catS st) 8 = true)
    (kk : ∀ (h' h2 : List AE), P h' → wbO is (h'.map (re is)) h = some h2 → AW E R nL Q ad0 n0 cells slots q lv st h2) : AW E R nL Q ad0 n0 cells slots pc lv st0 h :=
  A_callV hE q hM is hd hq hk hrc hg hnd hst hlen hfr hlo hcl hsl hcat fun v h' h2 hp hw => by
    obtain ⟨rfl, hp⟩ := hp
    exact kk h' h2 hp hw
theorem A_callVr {P : Nat → List AE → Prop} (hE : AGood E cc nL own ret nm) (q : Nat) (hM : AMet y cc2 nL2 ret2 d2 0 0 (.ref r :: as) hc (pR P)) (is : List Nat) (hd : decode cc pc = .ok (.invokevirtual idx, 3)) (hq : pc + 3 = q) (hk : MKV own idx y cc2 nL2 ret2 np ci) (hrc : getO hc r = some (.inr (ci, fs))) (hg : gets h is = some (hc.map (re is))) (hnd : va_nd is = true) (hst : st0 = (as.map (rv is)).reverse ++ .ref (rn is r) :: st) (hlen : as.length = np) (hfr : Nat.blt d2 R.frames = true) (hlo : Nat.ble (8 + (nL2 + 11) + (32 * d2 + 20)) R.locals = true) (hcl : cells ≤ R.cells) (hsl : slots ≤ R.slots) (hcat : Nat.ble (catS st) 8 = true)
    (kk : ∀ (i : Nat) (h' h2 : List AE), P i h' → wbO is (h'.map (re is)) h = some h2 → AW E R nL Q ad0 n0 cells slots q lv (.ref (rn is i) :: st) h2) : AW E R nL Q ad0 n0 cells slots pc lv st0 h :=
  A_callV hE q hM is hd hq hk hrc hg hnd hst hlen hfr hlo hcl hsl hcat fun v h' h2 hp hw => by
    obtain ⟨i, rfl, hp⟩ := hp
    exact kk i h' h2 hp hw
theorem A_callSi {P : Int32 → List AE → Prop} (hE : AGood E cc nL own ret nm) (q : Nat) (hM : AMet y cc2 nL2 ret2 d2 0 0 as hc (pI P)) (is : List Nat) (hd : decode cc pc = .ok (.invokestatic idx, 3)) (hq : pc + 3 = q) (hk : MKS own idx y cc2 nL2 ret2 np) (hg : gets h is = some (hc.map (re is))) (hnd : va_nd is = true) (hst : st0 = (as.map (rv is)).reverse ++ st) (hlen : as.length = np) (hfr : Nat.blt d2 R.frames = true) (hlo : Nat.ble (8 + (nL2 + 11) + (32 * d2 + 20)) R.locals = true) (hcl : cells ≤ R.cells) (hsl : slots ≤ R.slots) (hcat : Nat.ble (catS st) 8 = true)
    (kk : ∀ (x : Int32) (h' h2 : List AE), P x h' → wbO is (h'.map (re is)) h = some h2 → AW E R nL Q ad0 n0 cells slots q lv (.int x :: st) h2) : AW E R nL Q ad0 n0 cells slots pc lv st0 h :=
  A_callS hE q hM is hd hq hk hg hnd hst hlen hfr hlo hcl hsl hcat fun v h' h2 hp hw => by
    obtain ⟨x, rfl, hp⟩ := hp
    exact kk x h' h2 hp hw
theorem A_callSv {P : List AE → Prop} (hE : AGood E cc nL own ret nm) (q : Nat) (hM : AMet y cc2 nL2 ret2 d2 0 0 as hc (pV P)) (is : List Nat) (hd : decode cc pc = .ok (.invokestatic idx, 3)) (hq : pc + 3 = q) (hk : MKS own idx y cc2 nL2 ret2 np) (hg : gets h is = some (hc.map (re is))) (hnd : va_nd is = true) (hst : st0 = (as.map (rv is)).reverse ++ st) (hlen : as.length = np) (hfr : Nat.blt d2 R.frames = true) (hlo : Nat.ble (8 + (nL2 + 11) + (32 * d2 + 20)) R.locals = true) (hcl : cells ≤ R.cells) (hsl : slots ≤ R.slots) (hcat : Nat.ble (catS st) 8 = true)
    (kk : ∀ (h' h2 : List AE), P h' → wbO is (h'.map (re is)) h = some h2 → AW E R nL Q ad0 n0 cells slots q lv st h2) : AW E R nL Q ad0 n0 cells slots pc lv st0 h :=
  A_callS hE q hM is hd hq hk hg hnd hst hlen hfr hlo hcl hsl hcat fun v h' h2 hp hw => by
    obtain ⟨rfl, hp⟩ := hp
    exact kk h' h2 hp hw
end CROWS
end
