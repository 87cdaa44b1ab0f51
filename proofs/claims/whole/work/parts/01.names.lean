-- ===== PART A: goes FIRST, ahead of the names: the tables' words, and 'selects' of the private methods out of them =====
/-- a private method of a class that the tables say can be made, by its rows of tables_1 -/
def lw_okq (q : MethodName × Nat) : Prop := (q.1.cls ≠ "java/lang/invoke/MethodHandle" ∧ q.1.cls ≠ "java/lang/invoke/VarHandle") ∧ Cond.instantiable q.1.cls q.2 ∈ tables_1 ∧ Cond.privateMethod q.1 ∈ tables_1 ∧ Cond.instanceMethod q.1 ∈ tables_1
theorem lw_p0 : lw_okq (⟨"HatCongress", "finding", "(I)I"⟩, 7) := ⟨⟨by decide +kernel, by decide +kernel⟩, List.mem_of_getElem? (i := 17) (by decide +kernel), List.mem_of_getElem? (i := 194) (by decide +kernel), List.mem_of_getElem? (i := 195) (by decide +kernel)⟩
theorem lw_p1 : lw_okq (⟨"HatCongress$Delegate", "answerAsBowler", "(I)I"⟩, 7) := ⟨⟨by decide +kernel, by decide +kernel⟩, List.mem_of_getElem? (i := 32) (by decide +kernel), List.mem_of_getElem? (i := 215) (by decide +kernel), List.mem_of_getElem? (i := 216) (by decide +kernel)⟩
theorem lw_p2 : lw_okq (⟨"HatCongress$Delegate", "answerAsCap", "(II)I"⟩, 7) := ⟨⟨by decide +kernel, by decide +kernel⟩, List.mem_of_getElem? (i := 32) (by decide +kernel), List.mem_of_getElem? (i := 222) (by decide +kernel), List.mem_of_getElem? (i := 223) (by decide +kernel)⟩
theorem lw_p3 : lw_okq (⟨"HatCongress$Table", "judge", "(LHatCongress$Delegate;I)V"⟩, 7) := ⟨⟨by decide +kernel, by decide +kernel⟩, List.mem_of_getElem? (i := 25) (by decide +kernel), List.mem_of_getElem? (i := 322) (by decide +kernel), List.mem_of_getElem? (i := 323) (by decide +kernel)⟩
theorem lw_p4 : lw_okq (⟨"HatCongress", "lookAhead", "(I)V"⟩, 7) := ⟨⟨by decide +kernel, by decide +kernel⟩, List.mem_of_getElem? (i := 17) (by decide +kernel), List.mem_of_getElem? (i := 346) (by decide +kernel), List.mem_of_getElem? (i := 347) (by decide +kernel)⟩
theorem lw_p5 : lw_okq (⟨"HatCongress$Clerk", "next", "()V"⟩, 5) := ⟨⟨by decide +kernel, by decide +kernel⟩, List.mem_of_getElem? (i := 103) (by decide +kernel), List.mem_of_getElem? (i := 441) (by decide +kernel), List.mem_of_getElem? (i := 442) (by decide +kernel)⟩
theorem lw_p6 : lw_okq (⟨"HatCongress$Clerk", "valueOfDigits", "()I"⟩, 5) := ⟨⟨by decide +kernel, by decide +kernel⟩, List.mem_of_getElem? (i := 103) (by decide +kernel), List.mem_of_getElem? (i := 453) (by decide +kernel), List.mem_of_getElem? (i := 454) (by decide +kernel)⟩
theorem lw_p7 : lw_okq (⟨"HatCongress$Clerk", "item", "(LHatCongress$Table;)Z"⟩, 5) := ⟨⟨by decide +kernel, by decide +kernel⟩, List.mem_of_getElem? (i := 103) (by decide +kernel), List.mem_of_getElem? (i := 457) (by decide +kernel), List.mem_of_getElem? (i := 458) (by decide +kernel)⟩
theorem lw_p8 : lw_okq (⟨"HatCongress$Clerk", "kindNamed", "()I"⟩, 5) := ⟨⟨by decide +kernel, by decide +kernel⟩, List.mem_of_getElem? (i := 103) (by decide +kernel), List.mem_of_getElem? (i := 461) (by decide +kernel), List.mem_of_getElem? (i := 462) (by decide +kernel)⟩
theorem lw_p9 : lw_okq (⟨"HatCongress$Clerk", "isWord", "(Ljava/lang/String;)Z"⟩, 5) := ⟨⟨by decide +kernel, by decide +kernel⟩, List.mem_of_getElem? (i := 103) (by decide +kernel), List.mem_of_getElem? (i := 474) (by decide +kernel), List.mem_of_getElem? (i := 475) (by decide +kernel)⟩
theorem lw_p10 : lw_okq (⟨"HatCongress$Clerk", "hatItem", "(LHatCongress$Table;I)Z"⟩, 5) := ⟨⟨by decide +kernel, by decide +kernel⟩, List.mem_of_getElem? (i := 103) (by decide +kernel), List.mem_of_getElem? (i := 526) (by decide +kernel), List.mem_of_getElem? (i := 527) (by decide +kernel)⟩
theorem lw_p11 : lw_okq (⟨"HatCongress$Clerk", "takes", "(Ljava/lang/String;)Z"⟩, 5) := ⟨⟨by decide +kernel, by decide +kernel⟩, List.mem_of_getElem? (i := 103) (by decide +kernel), List.mem_of_getElem? (i := 533) (by decide +kernel), List.mem_of_getElem? (i := 534) (by decide +kernel)⟩
theorem lw_p12 : lw_okq (⟨"HatCongress$Clerk", "isNumberUpTo", "(I)Z"⟩, 5) := ⟨⟨by decide +kernel, by decide +kernel⟩, List.mem_of_getElem? (i := 103) (by decide +kernel), List.mem_of_getElem? (i := 537) (by decide +kernel), List.mem_of_getElem? (i := 538) (by decide +kernel)⟩
theorem lw_p13 : lw_okq (⟨"HatCongress$Clerk", "truthItem", "(LHatCongress$Table;)Z"⟩, 5) := ⟨⟨by decide +kernel, by decide +kernel⟩, List.mem_of_getElem? (i := 103) (by decide +kernel), List.mem_of_getElem? (i := 544) (by decide +kernel), List.mem_of_getElem? (i := 545) (by decide +kernel)⟩
theorem lw_p14 : lw_okq (⟨"HatCongress$Clerk", "holdsItem", "(LHatCongress$Table;)Z"⟩, 5) := ⟨⟨by decide +kernel, by decide +kernel⟩, List.mem_of_getElem? (i := 103) (by decide +kernel), List.mem_of_getElem? (i := 549) (by decide +kernel), List.mem_of_getElem? (i := 550) (by decide +kernel)⟩
theorem lw_p15 : lw_okq (⟨"HatCongress$Clerk", "liftItem", "(LHatCongress$Table;)Z"⟩, 5) := ⟨⟨by decide +kernel, by decide +kernel⟩, List.mem_of_getElem? (i := 103) (by decide +kernel), List.mem_of_getElem? (i := 556) (by decide +kernel), List.mem_of_getElem? (i := 557) (by decide +kernel)⟩
def lw_privs_1 : List (MethodName × Nat) := [(⟨"HatCongress", "finding", "(I)I"⟩, 7), (⟨"HatCongress$Delegate", "answerAsBowler", "(I)I"⟩, 7), (⟨"HatCongress$Delegate", "answerAsCap", "(II)I"⟩, 7), (⟨"HatCongress$Table", "judge", "(LHatCongress$Delegate;I)V"⟩, 7), (⟨"HatCongress", "lookAhead", "(I)V"⟩, 7), (⟨"HatCongress$Clerk", "next", "()V"⟩, 5), (⟨"HatCongress$Clerk", "valueOfDigits", "()I"⟩, 5), (⟨"HatCongress$Clerk", "item", "(LHatCongress$Table;)Z"⟩, 5), (⟨"HatCongress$Clerk", "kindNamed", "()I"⟩, 5), (⟨"HatCongress$Clerk", "isWord", "(Ljava/lang/String;)Z"⟩, 5), (⟨"HatCongress$Clerk", "hatItem", "(LHatCongress$Table;I)Z"⟩, 5), (⟨"HatCongress$Clerk", "takes", "(Ljava/lang/String;)Z"⟩, 5), (⟨"HatCongress$Clerk", "isNumberUpTo", "(I)Z"⟩, 5), (⟨"HatCongress$Clerk", "truthItem", "(LHatCongress$Table;)Z"⟩, 5), (⟨"HatCongress$Clerk", "holdsItem", "(LHatCongress$Table;)Z"⟩, 5), (⟨"HatCongress$Clerk", "liftItem", "(LHatCongress$Table;)Z"⟩, 5)]
theorem lw_r1 : ∀ q ∈ lw_privs_1, lw_okq q := List.forall_mem_cons.mpr ⟨lw_p0, List.forall_mem_cons.mpr ⟨lw_p1, List.forall_mem_cons.mpr ⟨lw_p2, List.forall_mem_cons.mpr ⟨lw_p3, List.forall_mem_cons.mpr ⟨lw_p4, List.forall_mem_cons.mpr ⟨lw_p5, List.forall_mem_cons.mpr ⟨lw_p6, List.forall_mem_cons.mpr ⟨lw_p7, List.forall_mem_cons.mpr ⟨lw_p8, List.forall_mem_cons.mpr ⟨lw_p9, List.forall_mem_cons.mpr ⟨lw_p10, List.forall_mem_cons.mpr ⟨lw_p11, List.forall_mem_cons.mpr ⟨lw_p12, List.forall_mem_cons.mpr ⟨lw_p13, List.forall_mem_cons.mpr ⟨lw_p14, List.forall_mem_cons.mpr ⟨lw_p15, fun _ h => absurd h List.not_mem_nil⟩⟩⟩⟩⟩⟩⟩⟩⟩⟩⟩⟩⟩⟩⟩⟩
theorem lw_p16 : lw_okq (⟨"HatCongress", "saysJustSo", "(LHatCongress$Sheet;I)Z"⟩, 7) := ⟨⟨by decide +kernel, by decide +kernel⟩, List.mem_of_getElem? (i := 17) (by decide +kernel), List.mem_of_getElem? (i := 624) (by decide +kernel), List.mem_of_getElem? (i := 625) (by decide +kernel)⟩
theorem lw_p17 : lw_okq (⟨"HatCongressModel", "becomes", "(II)I"⟩, 16) := ⟨⟨by decide +kernel, by decide +kernel⟩, List.mem_of_getElem? (i := 648) (by decide +kernel), List.mem_of_getElem? (i := 710) (by decide +kernel), List.mem_of_getElem? (i := 711) (by decide +kernel)⟩
theorem lw_p18 : lw_okq (⟨"HatCongressModel", "finds", "(I)I"⟩, 16) := ⟨⟨by decide +kernel, by decide +kernel⟩, List.mem_of_getElem? (i := 648) (by decide +kernel), List.mem_of_getElem? (i := 715) (by decide +kernel), List.mem_of_getElem? (i := 716) (by decide +kernel)⟩
theorem lw_p19 : lw_okq (⟨"HatCongressModel", "asked", "()I"⟩, 16) := ⟨⟨by decide +kernel, by decide +kernel⟩, List.mem_of_getElem? (i := 648) (by decide +kernel), List.mem_of_getElem? (i := 723) (by decide +kernel), List.mem_of_getElem? (i := 724) (by decide +kernel)⟩
theorem lw_p20 : lw_okq (⟨"HatCongressModel", "weight", "(II)I"⟩, 16) := ⟨⟨by decide +kernel, by decide +kernel⟩, List.mem_of_getElem? (i := 648) (by decide +kernel), List.mem_of_getElem? (i := 727) (by decide +kernel), List.mem_of_getElem? (i := 728) (by decide +kernel)⟩
theorem lw_p21 : lw_okq (⟨"HatCongressModel", "it", "(II)I"⟩, 16) := ⟨⟨by decide +kernel, by decide +kernel⟩, List.mem_of_getElem? (i := 648) (by decide +kernel), List.mem_of_getElem? (i := 731) (by decide +kernel), List.mem_of_getElem? (i := 732) (by decide +kernel)⟩
theorem lw_p22 : lw_okq (⟨"HatCongressModel", "saysTo", "(II)I"⟩, 16) := ⟨⟨by decide +kernel, by decide +kernel⟩, List.mem_of_getElem? (i := 648) (by decide +kernel), List.mem_of_getElem? (i := 735) (by decide +kernel), List.mem_of_getElem? (i := 736) (by decide +kernel)⟩
theorem lw_p23 : lw_okq (⟨"HatCongressModel", "weighs", "(I)I"⟩, 16) := ⟨⟨by decide +kernel, by decide +kernel⟩, List.mem_of_getElem? (i := 648) (by decide +kernel), List.mem_of_getElem? (i := 739) (by decide +kernel), List.mem_of_getElem? (i := 740) (by decide +kernel)⟩
theorem lw_p24 : lw_okq (⟨"HatCongressModel", "onTable", "()I"⟩, 16) := ⟨⟨by decide +kernel, by decide +kernel⟩, List.mem_of_getElem? (i := 648) (by decide +kernel), List.mem_of_getElem? (i := 743) (by decide +kernel), List.mem_of_getElem? (i := 744) (by decide +kernel)⟩
theorem lw_p25 : lw_okq (⟨"HatCongressModel", "trueOnes", "()I"⟩, 16) := ⟨⟨by decide +kernel, by decide +kernel⟩, List.mem_of_getElem? (i := 648) (by decide +kernel), List.mem_of_getElem? (i := 747) (by decide +kernel), List.mem_of_getElem? (i := 748) (by decide +kernel)⟩
theorem lw_p26 : lw_okq (⟨"HatCongressModel", "comesAs", "(IIII)I"⟩, 16) := ⟨⟨by decide +kernel, by decide +kernel⟩, List.mem_of_getElem? (i := 648) (by decide +kernel), List.mem_of_getElem? (i := 756) (by decide +kernel), List.mem_of_getElem? (i := 757) (by decide +kernel)⟩
theorem lw_p27 : lw_okq (⟨"HatCongressModel", "put", "(III)V"⟩, 16) := ⟨⟨by decide +kernel, by decide +kernel⟩, List.mem_of_getElem? (i := 648) (by decide +kernel), List.mem_of_getElem? (i := 760) (by decide +kernel), List.mem_of_getElem? (i := 761) (by decide +kernel)⟩
theorem lw_p28 : lw_okq (⟨"HatCongressModel", "isHat", "(I)Z"⟩, 16) := ⟨⟨by decide +kernel, by decide +kernel⟩, List.mem_of_getElem? (i := 648) (by decide +kernel), List.mem_of_getElem? (i := 768) (by decide +kernel), List.mem_of_getElem? (i := 769) (by decide +kernel)⟩
theorem lw_p29 : lw_okq (⟨"HatCongressModel", "doesLearn", "(I)Z"⟩, 16) := ⟨⟨by decide +kernel, by decide +kernel⟩, List.mem_of_getElem? (i := 648) (by decide +kernel), List.mem_of_getElem? (i := 772) (by decide +kernel), List.mem_of_getElem? (i := 773) (by decide +kernel)⟩
theorem lw_p30 : lw_okq (⟨"HatCongressModel", "stirs", "(I)I"⟩, 16) := ⟨⟨by decide +kernel, by decide +kernel⟩, List.mem_of_getElem? (i := 648) (by decide +kernel), List.mem_of_getElem? (i := 776) (by decide +kernel), List.mem_of_getElem? (i := 777) (by decide +kernel)⟩
theorem lw_p31 : lw_okq (⟨"HatCongressModel", "goesFor", "(I)V"⟩, 16) := ⟨⟨by decide +kernel, by decide +kernel⟩, List.mem_of_getElem? (i := 648) (by decide +kernel), List.mem_of_getElem? (i := 806) (by decide +kernel), List.mem_of_getElem? (i := 807) (by decide +kernel)⟩
def lw_privs_2 : List (MethodName × Nat) := [(⟨"HatCongress", "saysJustSo", "(LHatCongress$Sheet;I)Z"⟩, 7), (⟨"HatCongressModel", "becomes", "(II)I"⟩, 16), (⟨"HatCongressModel", "finds", "(I)I"⟩, 16), (⟨"HatCongressModel", "asked", "()I"⟩, 16), (⟨"HatCongressModel", "weight", "(II)I"⟩, 16), (⟨"HatCongressModel", "it", "(II)I"⟩, 16), (⟨"HatCongressModel", "saysTo", "(II)I"⟩, 16), (⟨"HatCongressModel", "weighs", "(I)I"⟩, 16), (⟨"HatCongressModel", "onTable", "()I"⟩, 16), (⟨"HatCongressModel", "trueOnes", "()I"⟩, 16), (⟨"HatCongressModel", "comesAs", "(IIII)I"⟩, 16), (⟨"HatCongressModel", "put", "(III)V"⟩, 16), (⟨"HatCongressModel", "isHat", "(I)Z"⟩, 16), (⟨"HatCongressModel", "doesLearn", "(I)Z"⟩, 16), (⟨"HatCongressModel", "stirs", "(I)I"⟩, 16), (⟨"HatCongressModel", "goesFor", "(I)V"⟩, 16)]
theorem lw_r2 : ∀ q ∈ lw_privs_2, lw_okq q := List.forall_mem_cons.mpr ⟨lw_p16, List.forall_mem_cons.mpr ⟨lw_p17, List.forall_mem_cons.mpr ⟨lw_p18, List.forall_mem_cons.mpr ⟨lw_p19, List.forall_mem_cons.mpr ⟨lw_p20, List.forall_mem_cons.mpr ⟨lw_p21, List.forall_mem_cons.mpr ⟨lw_p22, List.forall_mem_cons.mpr ⟨lw_p23, List.forall_mem_cons.mpr ⟨lw_p24, List.forall_mem_cons.mpr ⟨lw_p25, List.forall_mem_cons.mpr ⟨lw_p26, List.forall_mem_cons.mpr ⟨lw_p27, List.forall_mem_cons.mpr ⟨lw_p28, List.forall_mem_cons.mpr ⟨lw_p29, List.forall_mem_cons.mpr ⟨lw_p30, List.forall_mem_cons.mpr ⟨lw_p31, fun _ h => absurd h List.not_mem_nil⟩⟩⟩⟩⟩⟩⟩⟩⟩⟩⟩⟩⟩⟩⟩⟩
theorem lw_p32 : lw_okq (⟨"HatCongressModel", "goes", "()V"⟩, 16) := ⟨⟨by decide +kernel, by decide +kernel⟩, List.mem_of_getElem? (i := 648) (by decide +kernel), List.mem_of_getElem? (i := 810) (by decide +kernel), List.mem_of_getElem? (i := 811) (by decide +kernel)⟩
theorem lw_p33 : lw_okq (⟨"HatCongressModel", "isJudged", "(III)V"⟩, 16) := ⟨⟨by decide +kernel, by decide +kernel⟩, List.mem_of_getElem? (i := 648) (by decide +kernel), List.mem_of_getElem? (i := 817) (by decide +kernel), List.mem_of_getElem? (i := 818) (by decide +kernel)⟩
theorem lw_p34 : lw_okq (⟨"HatCongressModel", "thinks", "()V"⟩, 16) := ⟨⟨by decide +kernel, by decide +kernel⟩, List.mem_of_getElem? (i := 648) (by decide +kernel), List.mem_of_getElem? (i := 828) (by decide +kernel), List.mem_of_getElem? (i := 829) (by decide +kernel)⟩
theorem lw_p35 : lw_okq (⟨"HatCongressModel", "putsBack", "()V"⟩, 16) := ⟨⟨by decide +kernel, by decide +kernel⟩, List.mem_of_getElem? (i := 648) (by decide +kernel), List.mem_of_getElem? (i := 835) (by decide +kernel), List.mem_of_getElem? (i := 836) (by decide +kernel)⟩
theorem lw_p36 : lw_okq (⟨"HatCongressModel", "wiseOn", "(I)I"⟩, 16) := ⟨⟨by decide +kernel, by decide +kernel⟩, List.mem_of_getElem? (i := 648) (by decide +kernel), List.mem_of_getElem? (i := 860) (by decide +kernel), List.mem_of_getElem? (i := 861) (by decide +kernel)⟩
theorem lw_p37 : lw_okq (⟨"HatCongressModel", "orNone", "(I)I"⟩, 16) := ⟨⟨by decide +kernel, by decide +kernel⟩, List.mem_of_getElem? (i := 648) (by decide +kernel), List.mem_of_getElem? (i := 867) (by decide +kernel), List.mem_of_getElem? (i := 868) (by decide +kernel)⟩
theorem lw_p38 : lw_okq (⟨"HatCongressModel", "rightOn", "(II)I"⟩, 16) := ⟨⟨by decide +kernel, by decide +kernel⟩, List.mem_of_getElem? (i := 648) (by decide +kernel), List.mem_of_getElem? (i := 875) (by decide +kernel), List.mem_of_getElem? (i := 876) (by decide +kernel)⟩
theorem lw_p39 : lw_okq (⟨"HatCongressModel", "heldThen", "()I"⟩, 16) := ⟨⟨by decide +kernel, by decide +kernel⟩, List.mem_of_getElem? (i := 648) (by decide +kernel), List.mem_of_getElem? (i := 891) (by decide +kernel), List.mem_of_getElem? (i := 892) (by decide +kernel)⟩
theorem lw_p40 : lw_okq (⟨"HatCongressModel", "sums", "(I)I"⟩, 16) := ⟨⟨by decide +kernel, by decide +kernel⟩, List.mem_of_getElem? (i := 648) (by decide +kernel), List.mem_of_getElem? (i := 899) (by decide +kernel), List.mem_of_getElem? (i := 900) (by decide +kernel)⟩
theorem lw_p41 : lw_okq (⟨"HatCongressModel", "merit", "(I)I"⟩, 16) := ⟨⟨by decide +kernel, by decide +kernel⟩, List.mem_of_getElem? (i := 648) (by decide +kernel), List.mem_of_getElem? (i := 907) (by decide +kernel), List.mem_of_getElem? (i := 908) (by decide +kernel)⟩
theorem lw_p42 : lw_okq (⟨"HatCongressModel", "reads", "()V"⟩, 16) := ⟨⟨by decide +kernel, by decide +kernel⟩, List.mem_of_getElem? (i := 648) (by decide +kernel), List.mem_of_getElem? (i := 923) (by decide +kernel), List.mem_of_getElem? (i := 924) (by decide +kernel)⟩
theorem lw_p43 : lw_okq (⟨"HatCongressModel", "isByte", "(III)Z"⟩, 16) := ⟨⟨by decide +kernel, by decide +kernel⟩, List.mem_of_getElem? (i := 648) (by decide +kernel), List.mem_of_getElem? (i := 927) (by decide +kernel), List.mem_of_getElem? (i := 928) (by decide +kernel)⟩
theorem lw_p44 : lw_okq (⟨"HatCongressModel", "wordHere", "()I"⟩, 16) := ⟨⟨by decide +kernel, by decide +kernel⟩, List.mem_of_getElem? (i := 648) (by decide +kernel), List.mem_of_getElem? (i := 931) (by decide +kernel), List.mem_of_getElem? (i := 932) (by decide +kernel)⟩
theorem lw_p45 : lw_okq (⟨"HatCongressModel", "isName", "(II)Z"⟩, 16) := ⟨⟨by decide +kernel, by decide +kernel⟩, List.mem_of_getElem? (i := 648) (by decide +kernel), List.mem_of_getElem? (i := 935) (by decide +kernel), List.mem_of_getElem? (i := 936) (by decide +kernel)⟩
theorem lw_p46 : lw_okq (⟨"HatCongressModel", "item", "()V"⟩, 16) := ⟨⟨by decide +kernel, by decide +kernel⟩, List.mem_of_getElem? (i := 648) (by decide +kernel), List.mem_of_getElem? (i := 941) (by decide +kernel), List.mem_of_getElem? (i := 942) (by decide +kernel)⟩
theorem lw_p47 : lw_okq (⟨"HatCongressModel", "hatItem", "()V"⟩, 16) := ⟨⟨by decide +kernel, by decide +kernel⟩, List.mem_of_getElem? (i := 648) (by decide +kernel), List.mem_of_getElem? (i := 945) (by decide +kernel), List.mem_of_getElem? (i := 946) (by decide +kernel)⟩
def lw_privs_3 : List (MethodName × Nat) := [(⟨"HatCongressModel", "goes", "()V"⟩, 16), (⟨"HatCongressModel", "isJudged", "(III)V"⟩, 16), (⟨"HatCongressModel", "thinks", "()V"⟩, 16), (⟨"HatCongressModel", "putsBack", "()V"⟩, 16), (⟨"HatCongressModel", "wiseOn", "(I)I"⟩, 16), (⟨"HatCongressModel", "orNone", "(I)I"⟩, 16), (⟨"HatCongressModel", "rightOn", "(II)I"⟩, 16), (⟨"HatCongressModel", "heldThen", "()I"⟩, 16), (⟨"HatCongressModel", "sums", "(I)I"⟩, 16), (⟨"HatCongressModel", "merit", "(I)I"⟩, 16), (⟨"HatCongressModel", "reads", "()V"⟩, 16), (⟨"HatCongressModel", "isByte", "(III)Z"⟩, 16), (⟨"HatCongressModel", "wordHere", "()I"⟩, 16), (⟨"HatCongressModel", "isName", "(II)Z"⟩, 16), (⟨"HatCongressModel", "item", "()V"⟩, 16), (⟨"HatCongressModel", "hatItem", "()V"⟩, 16)]
theorem lw_r3 : ∀ q ∈ lw_privs_3, lw_okq q := List.forall_mem_cons.mpr ⟨lw_p32, List.forall_mem_cons.mpr ⟨lw_p33, List.forall_mem_cons.mpr ⟨lw_p34, List.forall_mem_cons.mpr ⟨lw_p35, List.forall_mem_cons.mpr ⟨lw_p36, List.forall_mem_cons.mpr ⟨lw_p37, List.forall_mem_cons.mpr ⟨lw_p38, List.forall_mem_cons.mpr ⟨lw_p39, List.forall_mem_cons.mpr ⟨lw_p40, List.forall_mem_cons.mpr ⟨lw_p41, List.forall_mem_cons.mpr ⟨lw_p42, List.forall_mem_cons.mpr ⟨lw_p43, List.forall_mem_cons.mpr ⟨lw_p44, List.forall_mem_cons.mpr ⟨lw_p45, List.forall_mem_cons.mpr ⟨lw_p46, List.forall_mem_cons.mpr ⟨lw_p47, fun _ h => absurd h List.not_mem_nil⟩⟩⟩⟩⟩⟩⟩⟩⟩⟩⟩⟩⟩⟩⟩⟩
theorem lw_p48 : lw_okq (⟨"HatCongressModel", "perhaps", "(IIII)I"⟩, 16) := ⟨⟨by decide +kernel, by decide +kernel⟩, List.mem_of_getElem? (i := 648) (by decide +kernel), List.mem_of_getElem? (i := 949) (by decide +kernel), List.mem_of_getElem? (i := 950) (by decide +kernel)⟩
theorem lw_p49 : lw_okq (⟨"HatCongressModel", "passes", "(I)Z"⟩, 16) := ⟨⟨by decide +kernel, by decide +kernel⟩, List.mem_of_getElem? (i := 648) (by decide +kernel), List.mem_of_getElem? (i := 953) (by decide +kernel), List.mem_of_getElem? (i := 954) (by decide +kernel)⟩
theorem lw_p50 : lw_okq (⟨"HatCongressModel", "number", "(II)I"⟩, 16) := ⟨⟨by decide +kernel, by decide +kernel⟩, List.mem_of_getElem? (i := 648) (by decide +kernel), List.mem_of_getElem? (i := 957) (by decide +kernel), List.mem_of_getElem? (i := 958) (by decide +kernel)⟩
theorem lw_p51 : lw_okq (⟨"HatCongressModel", "holdsItem", "()V"⟩, 16) := ⟨⟨by decide +kernel, by decide +kernel⟩, List.mem_of_getElem? (i := 648) (by decide +kernel), List.mem_of_getElem? (i := 961) (by decide +kernel), List.mem_of_getElem? (i := 962) (by decide +kernel)⟩
theorem lw_p52 : lw_okq (⟨"HatCongressModel", "notThere", "(I)I"⟩, 16) := ⟨⟨by decide +kernel, by decide +kernel⟩, List.mem_of_getElem? (i := 648) (by decide +kernel), List.mem_of_getElem? (i := 977) (by decide +kernel), List.mem_of_getElem? (i := 978) (by decide +kernel)⟩
theorem lw_p53 : lw_okq (⟨"HatCongressModel", "notCopied", "(IIIII)I"⟩, 16) := ⟨⟨by decide +kernel, by decide +kernel⟩, List.mem_of_getElem? (i := 648) (by decide +kernel), List.mem_of_getElem? (i := 989) (by decide +kernel), List.mem_of_getElem? (i := 990) (by decide +kernel)⟩
theorem lw_p54 : lw_okq (⟨"HatCongressModel", "notAsked", "(II)I"⟩, 16) := ⟨⟨by decide +kernel, by decide +kernel⟩, List.mem_of_getElem? (i := 648) (by decide +kernel), List.mem_of_getElem? (i := 1001) (by decide +kernel), List.mem_of_getElem? (i := 1002) (by decide +kernel)⟩
theorem lw_p55 : lw_okq (⟨"HatCongressModel", "isBook", "(II)Z"⟩, 16) := ⟨⟨by decide +kernel, by decide +kernel⟩, List.mem_of_getElem? (i := 648) (by decide +kernel), List.mem_of_getElem? (i := 1009) (by decide +kernel), List.mem_of_getElem? (i := 1010) (by decide +kernel)⟩
def lw_privs_4 : List (MethodName × Nat) := [(⟨"HatCongressModel", "perhaps", "(IIII)I"⟩, 16), (⟨"HatCongressModel", "passes", "(I)Z"⟩, 16), (⟨"HatCongressModel", "number", "(II)I"⟩, 16), (⟨"HatCongressModel", "holdsItem", "()V"⟩, 16), (⟨"HatCongressModel", "notThere", "(I)I"⟩, 16), (⟨"HatCongressModel", "notCopied", "(IIIII)I"⟩, 16), (⟨"HatCongressModel", "notAsked", "(II)I"⟩, 16), (⟨"HatCongressModel", "isBook", "(II)Z"⟩, 16)]
theorem lw_r4 : ∀ q ∈ lw_privs_4, lw_okq q := List.forall_mem_cons.mpr ⟨lw_p48, List.forall_mem_cons.mpr ⟨lw_p49, List.forall_mem_cons.mpr ⟨lw_p50, List.forall_mem_cons.mpr ⟨lw_p51, List.forall_mem_cons.mpr ⟨lw_p52, List.forall_mem_cons.mpr ⟨lw_p53, List.forall_mem_cons.mpr ⟨lw_p54, List.forall_mem_cons.mpr ⟨lw_p55, fun _ h => absurd h List.not_mem_nil⟩⟩⟩⟩⟩⟩⟩⟩
def lw_privs : List (MethodName × Nat) := lw_privs_1 ++ (lw_privs_2 ++ (lw_privs_3 ++ (lw_privs_4)))
def lw_tbl : List Cond := k2_sels lw_privs ++ tables_1
theorem lw_privs_ok : ∀ q ∈ lw_privs, lw_okq q := by
  show ∀ q ∈ lw_privs_1 ++ (lw_privs_2 ++ (lw_privs_3 ++ (lw_privs_4))), lw_okq q
  exact List.forall_mem_append.mpr ⟨lw_r1, List.forall_mem_append.mpr ⟨lw_r2, List.forall_mem_append.mpr ⟨lw_r3, lw_r4⟩⟩⟩
/-! names, as the program printed them -/
def RX0 : String := "HatCongress$Clerk"
def TX0 : u_T := fun k => match k with
  | 0 => ("HatCongress$Clerk", "tape", "LHatCongress$Tape;", true)
  | 1 => ("HatCongress$Clerk", "token", "I", false)
  | 2 => ("HatCongress$Clerk", "start", "I", false)
  | 3 => ("HatCongress$Clerk", "end", "I", false)
  | _ => ("HatCongress$Clerk", "number", "I", false)
def tyX0 : Nat → FieldType := fun k => match k with
  | 0 => .object "HatCongress$Tape"
  | 1 => .int
  | 2 => .int
  | 3 => .int
  | _ => .int
abbrev wsX00 : List Cond := u_ws RX0 TX0 5
theorem nmX0 : ∀ a, a < 5 → ∀ b, b < 5 → a ≠ b → (TX0 a).2.1 ≠ (TX0 b).2.1 := by decide +kernel
theorem tyX0_ok : ∀ k, k < 5 → parseFieldDescriptor (TX0 k).2.2.1 = some (tyX0 k) := by decide +kernel
abbrev cX0_init : ByteArray := prog_2_method_1_code
def yX0_init : MethodName := ⟨RX0, "<init>", "()V"⟩
abbrev cX0_takeDown : ByteArray := prog_2_method_2_code
def yX0_takeDown : MethodName := ⟨RX0, "takeDown", "(LHatCongress$Table;)I"⟩
abbrev cX0_item : ByteArray := prog_2_method_3_code
def yX0_item : MethodName := ⟨RX0, "item", "(LHatCongress$Table;)Z"⟩
abbrev cX0_hatItem : ByteArray := prog_2_method_4_code
def yX0_hatItem : MethodName := ⟨RX0, "hatItem", "(LHatCongress$Table;I)Z"⟩
abbrev cX0_truthItem : ByteArray := prog_2_method_5_code
def yX0_truthItem : MethodName := ⟨RX0, "truthItem", "(LHatCongress$Table;)Z"⟩
abbrev cX0_holdsItem : ByteArray := prog_2_method_6_code
def yX0_holdsItem : MethodName := ⟨RX0, "holdsItem", "(LHatCongress$Table;)Z"⟩
abbrev cX0_liftItem : ByteArray := prog_2_method_7_code
def yX0_liftItem : MethodName := ⟨RX0, "liftItem", "(LHatCongress$Table;)Z"⟩
abbrev cX0_kindNamed : ByteArray := prog_2_method_8_code
def yX0_kindNamed : MethodName := ⟨RX0, "kindNamed", "()I"⟩
abbrev cX0_nameOf : ByteArray := prog_2_method_9_code
def yX0_nameOf : MethodName := ⟨RX0, "nameOf", "(I)Ljava/lang/String;"⟩
abbrev cX0_isNumberUpTo : ByteArray := prog_2_method_10_code
def yX0_isNumberUpTo : MethodName := ⟨RX0, "isNumberUpTo", "(I)Z"⟩
abbrev cX0_isWord : ByteArray := prog_2_method_11_code
def yX0_isWord : MethodName := ⟨RX0, "isWord", "(Ljava/lang/String;)Z"⟩
abbrev cX0_takes : ByteArray := prog_2_method_12_code
def yX0_takes : MethodName := ⟨RX0, "takes", "(Ljava/lang/String;)Z"⟩
abbrev cX0_next : ByteArray := prog_2_method_13_code
def yX0_next : MethodName := ⟨RX0, "next", "()V"⟩
abbrev cX0_valueOfDigits : ByteArray := prog_2_method_14_code
def yX0_valueOfDigits : MethodName := ⟨RX0, "valueOfDigits", "()I"⟩
def RX1 : String := "HatCongress$Delegate"
def TX1 : u_T := fun k => match k with
  | 0 => ("HatCongress$Delegate", "kind", "I", false)
  | 1 => ("HatCongress$Delegate", "view", "I", false)
  | 2 => ("HatCongress$Delegate", "right", "I", false)
  | 3 => ("HatCongress$Delegate", "wrong", "I", false)
  | 4 => ("HatCongress$Delegate", "faith", "I", false)
  | 5 => ("HatCongress$Delegate", "on", "I", false)
  | _ => ("HatCongress$Delegate", "said", "I", false)
def tyX1 : Nat → FieldType := fun k => match k with
  | 0 => .int
  | 1 => .int
  | 2 => .int
  | 3 => .int
  | 4 => .int
  | 5 => .int
  | _ => .int
abbrev wsX10 : List Cond := u_ws RX1 TX1 7
theorem nmX1 : ∀ a, a < 7 → ∀ b, b < 7 → a ≠ b → (TX1 a).2.1 ≠ (TX1 b).2.1 := by decide +kernel
theorem tyX1_ok : ∀ k, k < 7 → parseFieldDescriptor (TX1 k).2.2.1 = some (tyX1 k) := by decide +kernel
abbrev cX1_init : ByteArray := prog_3_method_1_code
def yX1_init : MethodName := ⟨RX1, "<init>", "()V"⟩
abbrev cX1_begin : ByteArray := prog_3_method_2_code
def yX1_begin : MethodName := ⟨RX1, "begin", "(II)V"⟩
abbrev cX1_become : ByteArray := prog_3_method_3_code
def yX1_become : MethodName := ⟨RX1, "become", "(LHatCongress$Delegate;)V"⟩
abbrev cX1_trait : ByteArray := prog_3_method_4_code
def yX1_trait : MethodName := ⟨RX1, "trait", "(I)I"⟩
abbrev cX1_put : ByteArray := prog_3_method_5_code
def yX1_put : MethodName := ⟨RX1, "put", "(II)V"⟩
abbrev cX1_mostOf : ByteArray := prog_3_method_6_code
def yX1_mostOf : MethodName := ⟨RX1, "mostOf", "(I)I"⟩
abbrev cX1_isOfKind : ByteArray := prog_3_method_7_code
def yX1_isOfKind : MethodName := ⟨RX1, "isOfKind", "(I)Z"⟩
abbrev cX1_answer : ByteArray := prog_3_method_8_code
def yX1_answer : MethodName := ⟨RX1, "answer", "(II)I"⟩
abbrev cX1_answerAsBowler : ByteArray := prog_3_method_9_code
def yX1_answerAsBowler : MethodName := ⟨RX1, "answerAsBowler", "(I)I"⟩
abbrev cX1_answerAsCap : ByteArray := prog_3_method_10_code
def yX1_answerAsCap : MethodName := ⟨RX1, "answerAsCap", "(II)I"⟩
abbrev cX1_weight : ByteArray := prog_3_method_11_code
def yX1_weight : MethodName := ⟨RX1, "weight", "(I)I"⟩
abbrev cX1_isLearning : ByteArray := prog_3_method_12_code
def yX1_isLearning : MethodName := ⟨RX1, "isLearning", "(I)Z"⟩
abbrev cX1_stir : ByteArray := prog_3_method_13_code
def yX1_stir : MethodName := ⟨RX1, "stir", "()I"⟩
abbrev cX1_beRight : ByteArray := prog_3_method_14_code
def yX1_beRight : MethodName := ⟨RX1, "beRight", "()V"⟩
abbrev cX1_beWrong : ByteArray := prog_3_method_15_code
def yX1_beWrong : MethodName := ⟨RX1, "beWrong", "(III)V"⟩
abbrev cX1_credit : ByteArray := prog_3_method_16_code
def yX1_credit : MethodName := ⟨RX1, "credit", "()I"⟩
def RX2 : String := "HatCongress$Sheet"
def TX2 : u_T := fun k => match k with
  | 0 => ("HatCongress$Sheet", "numbers", "[J", true)
  | 1 => ("HatCongress$Sheet", "bits", "I", false)
  | _ => ("HatCongress$Sheet", "length", "I", false)
def tyX2 : Nat → FieldType := fun k => match k with
  | 0 => .array .long
  | 1 => .int
  | _ => .int
abbrev wsX20 : List Cond := u_ws RX2 TX2 3
theorem nmX2 : ∀ a, a < 3 → ∀ b, b < 3 → a ≠ b → (TX2 a).2.1 ≠ (TX2 b).2.1 := by decide +kernel
theorem tyX2_ok : ∀ k, k < 3 → parseFieldDescriptor (TX2 k).2.2.1 = some (tyX2 k) := by decide +kernel
abbrev cX2_init : ByteArray := prog_4_method_1_code
def yX2_init : MethodName := ⟨RX2, "<init>", "()V"⟩
abbrev cX2_mayHave : ByteArray := prog_4_method_2_code
def yX2_mayHave : MethodName := ⟨RX2, "mayHave", "(I)Z"⟩
abbrev cX2_isMissing : ByteArray := prog_4_method_3_code
def yX2_isMissing : MethodName := ⟨RX2, "isMissing", "()Z"⟩
abbrev cX2_begin : ByteArray := prog_4_method_4_code
def yX2_begin : MethodName := ⟨RX2, "begin", "(II)V"⟩
abbrev cX2_put : ByteArray := prog_4_method_5_code
def yX2_put : MethodName := ⟨RX2, "put", "(IJ)V"⟩
abbrev cX2_hasRun : ByteArray := prog_4_method_6_code
def yX2_hasRun : MethodName := ⟨RX2, "hasRun", "(II)Z"⟩
def RX3 : String := "HatCongress$Table"
def TX3 : u_T := fun k => match k with
  | 0 => ("HatCongress$Table", "session", "I", false)
  | 1 => ("HatCongress$Table", "truth", "I", false)
  | 2 => ("HatCongress$Table", "held", "I", false)
  | 3 => ("HatCongress$Table", "hats", "I", false)
  | 4 => ("HatCongress$Table", "seats", "[LHatCongress$Delegate;", true)
  | 5 => ("HatCongress$Table", "yes", "I", false)
  | _ => ("HatCongress$Table", "no", "I", false)
def tyX3 : Nat → FieldType := fun k => match k with
  | 0 => .int
  | 1 => .int
  | 2 => .int
  | 3 => .int
  | 4 => .array (.object "HatCongress$Delegate")
  | 5 => .int
  | _ => .int
abbrev wsX30 : List Cond := u_ws RX3 TX3 7
theorem nmX3 : ∀ a, a < 7 → ∀ b, b < 7 → a ≠ b → (TX3 a).2.1 ≠ (TX3 b).2.1 := by decide +kernel
theorem tyX3_ok : ∀ k, k < 7 → parseFieldDescriptor (TX3 k).2.2.1 = some (tyX3 k) := by decide +kernel
abbrev cX3_init : ByteArray := prog_5_method_1_code
def yX3_init : MethodName := ⟨RX3, "<init>", "()V"⟩
abbrev cX3_become : ByteArray := prog_5_method_2_code
def yX3_become : MethodName := ⟨RX3, "become", "(LHatCongress$Table;)V"⟩
abbrev cX3_has : ByteArray := prog_5_method_3_code
def yX3_has : MethodName := ⟨RX3, "has", "(I)Z"⟩
abbrev cX3_isFull : ByteArray := prog_5_method_4_code
def yX3_isFull : MethodName := ⟨RX3, "isFull", "()Z"⟩
abbrev cX3_add : ByteArray := prog_5_method_5_code
def yX3_add : MethodName := ⟨RX3, "add", "(II)V"⟩
abbrev cX3_question : ByteArray := prog_5_method_6_code
def yX3_question : MethodName := ⟨RX3, "question", "()I"⟩
abbrev cX3_trueOnes : ByteArray := prog_5_method_7_code
def yX3_trueOnes : MethodName := ⟨RX3, "trueOnes", "()I"⟩
abbrev cX3_hatsOn : ByteArray := prog_5_method_8_code
def yX3_hatsOn : MethodName := ⟨RX3, "hatsOn", "()I"⟩
abbrev cX3_sum : ByteArray := prog_5_method_9_code
def yX3_sum : MethodName := ⟨RX3, "sum", "(I)I"⟩
abbrev cX3_word : ByteArray := prog_5_method_10_code
def yX3_word : MethodName := ⟨RX3, "word", "(I)I"⟩
abbrev cX3_ask : ByteArray := prog_5_method_11_code
def yX3_ask : MethodName := ⟨RX3, "ask", "()V"⟩
abbrev cX3_verdict : ByteArray := prog_5_method_12_code
def yX3_verdict : MethodName := ⟨RX3, "verdict", "()I"⟩
abbrev cX3_go : ByteArray := prog_5_method_13_code
def yX3_go : MethodName := ⟨RX3, "go", "(I)V"⟩
abbrev cX3_judge : ByteArray := prog_5_method_14_code
def yX3_judge : MethodName := ⟨RX3, "judge", "(LHatCongress$Delegate;I)V"⟩
def RX4 : String := "HatCongress$Tape"
def TX4 : u_T := fun k => match k with
  | 0 => ("HatCongress$Tape", "bytes", "[I", true)
  | _ => ("HatCongress$Tape", "length", "I", false)
def tyX4 : Nat → FieldType := fun k => match k with
  | 0 => .array .int
  | _ => .int
abbrev wsX40 : List Cond := u_ws RX4 TX4 2
theorem nmX4 : ∀ a, a < 2 → ∀ b, b < 2 → a ≠ b → (TX4 a).2.1 ≠ (TX4 b).2.1 := by decide +kernel
theorem tyX4_ok : ∀ k, k < 2 → parseFieldDescriptor (TX4 k).2.2.1 = some (tyX4 k) := by decide +kernel
abbrev cX4_init : ByteArray := prog_6_method_1_code
def yX4_init : MethodName := ⟨RX4, "<init>", "()V"⟩
abbrev cX4_add : ByteArray := prog_6_method_2_code
def yX4_add : MethodName := ⟨RX4, "add", "(I)V"⟩
abbrev cX4_isAt : ByteArray := prog_6_method_3_code
def yX4_isAt : MethodName := ⟨RX4, "isAt", "(III)Z"⟩
abbrev cX4_endOfRun : ByteArray := prog_6_method_4_code
def yX4_endOfRun : MethodName := ⟨RX4, "endOfRun", "(III)I"⟩
def RX5 : String := "HatCongress"
def TX5 : u_T := fun k => match k with
  | 0 => ("HatCongress", "table", "LHatCongress$Table;", true)
  | 1 => ("HatCongress", "ahead", "LHatCongress$Table;", true)
  | 2 => ("HatCongress", "image", "LHatCongress$Table;", true)
  | 3 => ("HatCongress", "imageKept", "Z", false)
  | 4 => ("HatCongress", "clerk", "LHatCongress$Clerk;", true)
  | 5 => ("HatCongress", "sheets", "[LHatCongress$Sheet;", true)
  | _ => ("HatCongress", "found", "[I", true)
def tyX5 : Nat → FieldType := fun k => match k with
  | 0 => .object "HatCongress$Table"
  | 1 => .object "HatCongress$Table"
  | 2 => .object "HatCongress$Table"
  | 3 => .boolean
  | 4 => .object "HatCongress$Clerk"
  | 5 => .array (.object "HatCongress$Sheet")
  | _ => .array .int
abbrev wsX50 : List Cond := u_ws RX5 TX5 7
theorem nmX5 : ∀ a, a < 7 → ∀ b, b < 7 → a ≠ b → (TX5 a).2.1 ≠ (TX5 b).2.1 := by decide +kernel
theorem tyX5_ok : ∀ k, k < 7 → parseFieldDescriptor (TX5 k).2.2.1 = some (tyX5 k) := by decide +kernel
abbrev cX5_init : ByteArray := prog_1_method_1_code
def yX5_init : MethodName := ⟨RX5, "<init>", "()V"⟩
abbrev cX5_holds : ByteArray := prog_1_method_2_code
def yX5_holds : MethodName := ⟨RX5, "holds", "(II)I"⟩
abbrev cX5_now : ByteArray := prog_1_method_3_code
def yX5_now : MethodName := ⟨RX5, "now", "(I)I"⟩
abbrev cX5_hat : ByteArray := prog_1_method_4_code
def yX5_hat : MethodName := ⟨RX5, "hat", "(II)I"⟩
abbrev cX5_of : ByteArray := prog_1_method_5_code
def yX5_of : MethodName := ⟨RX5, "of", "(II)I"⟩
abbrev cX5_says : ByteArray := prog_1_method_6_code
def yX5_says : MethodName := ⟨RX5, "says", "(II)I"⟩
abbrev cX5_set : ByteArray := prog_1_method_7_code
def yX5_set : MethodName := ⟨RX5, "set", "(III)I"⟩
abbrev cX5_turn : ByteArray := prog_1_method_8_code
def yX5_turn : MethodName := ⟨RX5, "turn", "(II)I"⟩
abbrev cX5_as : ByteArray := prog_1_method_9_code
def yX5_as : MethodName := ⟨RX5, "as", "(II)I"⟩
abbrev cX5_sessions : ByteArray := prog_1_method_10_code
def yX5_sessions : MethodName := ⟨RX5, "sessions", "(I)I"⟩
abbrev cX5_on : ByteArray := prog_1_method_11_code
def yX5_on : MethodName := ⟨RX5, "on", "(III)I"⟩
abbrev cX5_then : ByteArray := prog_1_method_12_code
def yX5_then : MethodName := ⟨RX5, "then", "(II)I"⟩
abbrev cX5_comes : ByteArray := prog_1_method_13_code
def yX5_comes : MethodName := ⟨RX5, "comes", "(II)I"⟩
abbrev cX5_wise : ByteArray := prog_1_method_14_code
def yX5_wise : MethodName := ⟨RX5, "wise", "()I"⟩
abbrev cX5_errs : ByteArray := prog_1_method_15_code
def yX5_errs : MethodName := ⟨RX5, "errs", "(I)I"⟩
abbrev cX5_lift : ByteArray := prog_1_method_16_code
def yX5_lift : MethodName := ⟨RX5, "lift", "(I)I"⟩
abbrev cX5_kind : ByteArray := prog_1_method_17_code
def yX5_kind : MethodName := ⟨RX5, "kind", "(II)I"⟩
abbrev cX5_view : ByteArray := prog_1_method_18_code
def yX5_view : MethodName := ⟨RX5, "view", "(II)I"⟩
abbrev cX5_faith : ByteArray := prog_1_method_19_code
def yX5_faith : MethodName := ⟨RX5, "faith", "(III)I"⟩
abbrev cX5_swing : ByteArray := prog_1_method_20_code
def yX5_swing : MethodName := ⟨RX5, "swing", "()I"⟩
abbrev cX5_revise : ByteArray := prog_1_method_21_code
def yX5_revise : MethodName := ⟨RX5, "revise", "(I)I"⟩
abbrev cX5_best : ByteArray := prog_1_method_22_code
def yX5_best : MethodName := ⟨RX5, "best", "(I)I"⟩
abbrev cX5_feed : ByteArray := prog_1_method_23_code
def yX5_feed : MethodName := ⟨RX5, "feed", "(II)I"⟩
abbrev cX5_wipe : ByteArray := prog_1_method_24_code
def yX5_wipe : MethodName := ⟨RX5, "wipe", "()I"⟩
abbrev cX5_lobby : ByteArray := prog_1_method_25_code
def yX5_lobby : MethodName := ⟨RX5, "lobby", "()I"⟩
abbrev cX5_sheet : ByteArray := prog_1_method_26_code
def yX5_sheet : MethodName := ⟨RX5, "sheet", "(III)I"⟩
abbrev cX5_write : ByteArray := prog_1_method_27_code
def yX5_write : MethodName := ⟨RX5, "write", "(IIJ)J"⟩
abbrev cX5_copy : ByteArray := prog_1_method_28_code
def yX5_copy : MethodName := ⟨RX5, "copy", "(IIIII)I"⟩
abbrev cX5_lays : ByteArray := prog_1_method_29_code
def yX5_lays : MethodName := ⟨RX5, "lays", "(I)I"⟩
abbrev cX5_book : ByteArray := prog_1_method_30_code
def yX5_book : MethodName := ⟨RX5, "book", "(II)I"⟩
abbrev cX5_read : ByteArray := prog_1_method_31_code
def yX5_read : MethodName := ⟨RX5, "read", "(II)I"⟩
abbrev cX5_image : ByteArray := prog_1_method_32_code
def yX5_image : MethodName := ⟨RX5, "image", "()I"⟩
abbrev cX5_undo : ByteArray := prog_1_method_33_code
def yX5_undo : MethodName := ⟨RX5, "undo", "()I"⟩
abbrev cX5_tear : ByteArray := prog_1_method_34_code
def yX5_tear : MethodName := ⟨RX5, "tear", "()I"⟩
abbrev cX5_count : ByteArray := prog_1_method_35_code
def yX5_count : MethodName := ⟨RX5, "count", "(I)I"⟩
abbrev cX5_status : ByteArray := prog_1_method_36_code
def yX5_status : MethodName := ⟨RX5, "status", "(I)I"⟩
abbrev cX5_outside : ByteArray := prog_1_method_37_code
def yX5_outside : MethodName := ⟨RX5, "outside", "(III)Z"⟩
abbrev cX5_bit : ByteArray := prog_1_method_38_code
def yX5_bit : MethodName := ⟨RX5, "bit", "(II)I"⟩
abbrev cX5_noSheet : ByteArray := prog_1_method_39_code
def yX5_noSheet : MethodName := ⟨RX5, "noSheet", "(I)Z"⟩
abbrev cX5_finding : ByteArray := prog_1_method_40_code
def yX5_finding : MethodName := ⟨RX5, "finding", "(I)I"⟩
abbrev cX5_lookAhead : ByteArray := prog_1_method_41_code
def yX5_lookAhead : MethodName := ⟨RX5, "lookAhead", "(I)V"⟩
abbrev cX5_saysJustSo : ByteArray := prog_1_method_42_code
def yX5_saysJustSo : MethodName := ⟨RX5, "saysJustSo", "(LHatCongress$Sheet;I)Z"⟩
def RX6 : String := "HatCongressModel"
def TX6 : u_T := fun k => match k with
  | 0 => ("HatCongressModel", "m", "[I", true)
  | 1 => ("HatCongressModel", "kept", "[I", true)
  | 2 => ("HatCongressModel", "was", "[I", true)
  | 3 => ("HatCongressModel", "isKept", "Z", false)
  | 4 => ("HatCongressModel", "found", "[I", true)
  | 5 => ("HatCongressModel", "said", "[I", true)
  | 6 => ("HatCongressModel", "tape", "[I", true)
  | 7 => ("HatCongressModel", "taped", "I", false)
  | 8 => ("HatCongressModel", "token", "I", false)
  | 9 => ("HatCongressModel", "begin", "I", false)
  | 10 => ("HatCongressModel", "at", "I", false)
  | 11 => ("HatCongressModel", "value", "I", false)
  | 12 => ("HatCongressModel", "bad", "Z", false)
  | 13 => ("HatCongressModel", "bitsOf", "[I", true)
  | 14 => ("HatCongressModel", "sizeOf", "[I", true)
  | _ => ("HatCongressModel", "cells", "[J", true)
def tyX6 : Nat → FieldType := fun k => match k with
  | 0 => .array .int
  | 1 => .array .int
  | 2 => .array .int
  | 3 => .boolean
  | 4 => .array .int
  | 5 => .array .int
  | 6 => .array .int
  | 7 => .int
  | 8 => .int
  | 9 => .int
  | 10 => .int
  | 11 => .int
  | 12 => .boolean
  | 13 => .array .int
  | 14 => .array .int
  | _ => .array .long
abbrev wsX60 : List Cond := u_ws RX6 TX6 16
theorem nmX6 : ∀ a, a < 16 → ∀ b, b < 16 → a ≠ b → (TX6 a).2.1 ≠ (TX6 b).2.1 := by decide +kernel
theorem tyX6_ok : ∀ k, k < 16 → parseFieldDescriptor (TX6 k).2.2.1 = some (tyX6 k) := by decide +kernel
abbrev cX6_init : ByteArray := prog_8_method_1_code
def yX6_init : MethodName := ⟨RX6, "<init>", "()V"⟩
abbrev cX6_finds : ByteArray := prog_8_method_2_code
def yX6_finds : MethodName := ⟨RX6, "finds", "(I)I"⟩
abbrev cX6_orNone : ByteArray := prog_8_method_3_code
def yX6_orNone : MethodName := ⟨RX6, "orNone", "(I)I"⟩
abbrev cX6_in : ByteArray := prog_8_method_4_code
def yX6_in : MethodName := ⟨RX6, "in", "(JII)Z"⟩
abbrev cX6_held : ByteArray := prog_8_method_5_code
def yX6_held : MethodName := ⟨RX6, "held", "(III)I"⟩
abbrev cX6_copyAll : ByteArray := prog_8_method_6_code
def yX6_copyAll : MethodName := ⟨RX6, "copyAll", "([I[I)V"⟩
abbrev cX6_bits : ByteArray := prog_8_method_7_code
def yX6_bits : MethodName := ⟨RX6, "bits", "(I)I"⟩
abbrev cX6_becomes : ByteArray := prog_8_method_8_code
def yX6_becomes : MethodName := ⟨RX6, "becomes", "(II)I"⟩
abbrev cX6_isHat : ByteArray := prog_8_method_9_code
def yX6_isHat : MethodName := ⟨RX6, "isHat", "(I)Z"⟩
abbrev cX6_it : ByteArray := prog_8_method_10_code
def yX6_it : MethodName := ⟨RX6, "it", "(II)I"⟩
abbrev cX6_put : ByteArray := prog_8_method_11_code
def yX6_put : MethodName := ⟨RX6, "put", "(III)V"⟩
abbrev cX6_asked : ByteArray := prog_8_method_12_code
def yX6_asked : MethodName := ⟨RX6, "asked", "()I"⟩
abbrev cX6_saysTo : ByteArray := prog_8_method_13_code
def yX6_saysTo : MethodName := ⟨RX6, "saysTo", "(II)I"⟩
abbrev cX6_weighs : ByteArray := prog_8_method_14_code
def yX6_weighs : MethodName := ⟨RX6, "weighs", "(I)I"⟩
abbrev cX6_doesLearn : ByteArray := prog_8_method_15_code
def yX6_doesLearn : MethodName := ⟨RX6, "doesLearn", "(I)Z"⟩
abbrev cX6_stirs : ByteArray := prog_8_method_16_code
def yX6_stirs : MethodName := ⟨RX6, "stirs", "(I)I"⟩
abbrev cX6_holds : ByteArray := prog_8_method_17_code
def yX6_holds : MethodName := ⟨RX6, "holds", "(II)I"⟩
abbrev cX6_weight : ByteArray := prog_8_method_18_code
def yX6_weight : MethodName := ⟨RX6, "weight", "(II)I"⟩
abbrev cX6_onTable : ByteArray := prog_8_method_19_code
def yX6_onTable : MethodName := ⟨RX6, "onTable", "()I"⟩
abbrev cX6_trueOnes : ByteArray := prog_8_method_20_code
def yX6_trueOnes : MethodName := ⟨RX6, "trueOnes", "()I"⟩
abbrev cX6_now : ByteArray := prog_8_method_21_code
def yX6_now : MethodName := ⟨RX6, "now", "(I)I"⟩
abbrev cX6_comesAs : ByteArray := prog_8_method_22_code
def yX6_comesAs : MethodName := ⟨RX6, "comesAs", "(IIII)I"⟩
abbrev cX6_hat : ByteArray := prog_8_method_23_code
def yX6_hat : MethodName := ⟨RX6, "hat", "(II)I"⟩
abbrev cX6_of : ByteArray := prog_8_method_24_code
def yX6_of : MethodName := ⟨RX6, "of", "(II)I"⟩
abbrev cX6_says : ByteArray := prog_8_method_25_code
def yX6_says : MethodName := ⟨RX6, "says", "(II)I"⟩
abbrev cX6_mostOf : ByteArray := prog_8_method_26_code
def yX6_mostOf : MethodName := ⟨RX6, "mostOf", "(I)I"⟩
abbrev cX6_set : ByteArray := prog_8_method_27_code
def yX6_set : MethodName := ⟨RX6, "set", "(III)I"⟩
abbrev cX6_turn : ByteArray := prog_8_method_28_code
def yX6_turn : MethodName := ⟨RX6, "turn", "(II)I"⟩
abbrev cX6_as : ByteArray := prog_8_method_29_code
def yX6_as : MethodName := ⟨RX6, "as", "(II)I"⟩
abbrev cX6_withBit : ByteArray := prog_8_method_30_code
def yX6_withBit : MethodName := ⟨RX6, "withBit", "(III)I"⟩
abbrev cX6_isJudged : ByteArray := prog_8_method_31_code
def yX6_isJudged : MethodName := ⟨RX6, "isJudged", "(III)V"⟩
abbrev cX6_goes : ByteArray := prog_8_method_32_code
def yX6_goes : MethodName := ⟨RX6, "goes", "()V"⟩
abbrev cX6_goesFor : ByteArray := prog_8_method_33_code
def yX6_goesFor : MethodName := ⟨RX6, "goesFor", "(I)V"⟩
abbrev cX6_sessions : ByteArray := prog_8_method_34_code
def yX6_sessions : MethodName := ⟨RX6, "sessions", "(I)I"⟩
abbrev cX6_thinks : ByteArray := prog_8_method_35_code
def yX6_thinks : MethodName := ⟨RX6, "thinks", "()V"⟩
abbrev cX6_putsBack : ByteArray := prog_8_method_36_code
def yX6_putsBack : MethodName := ⟨RX6, "putsBack", "()V"⟩
abbrev cX6_on : ByteArray := prog_8_method_37_code
def yX6_on : MethodName := ⟨RX6, "on", "(III)I"⟩
abbrev cX6_then : ByteArray := prog_8_method_38_code
def yX6_then : MethodName := ⟨RX6, "then", "(II)I"⟩
abbrev cX6_comes : ByteArray := prog_8_method_39_code
def yX6_comes : MethodName := ⟨RX6, "comes", "(II)I"⟩
abbrev cX6_wise : ByteArray := prog_8_method_40_code
def yX6_wise : MethodName := ⟨RX6, "wise", "()I"⟩
abbrev cX6_errs : ByteArray := prog_8_method_41_code
def yX6_errs : MethodName := ⟨RX6, "errs", "(I)I"⟩
abbrev cX6_wiseOn : ByteArray := prog_8_method_42_code
def yX6_wiseOn : MethodName := ⟨RX6, "wiseOn", "(I)I"⟩
abbrev cX6_rightOn : ByteArray := prog_8_method_43_code
def yX6_rightOn : MethodName := ⟨RX6, "rightOn", "(II)I"⟩
abbrev cX6_lift : ByteArray := prog_8_method_44_code
def yX6_lift : MethodName := ⟨RX6, "lift", "(I)I"⟩
abbrev cX6_kind : ByteArray := prog_8_method_45_code
def yX6_kind : MethodName := ⟨RX6, "kind", "(II)I"⟩
abbrev cX6_view : ByteArray := prog_8_method_46_code
def yX6_view : MethodName := ⟨RX6, "view", "(II)I"⟩
abbrev cX6_faith : ByteArray := prog_8_method_47_code
def yX6_faith : MethodName := ⟨RX6, "faith", "(III)I"⟩
abbrev cX6_heldThen : ByteArray := prog_8_method_48_code
def yX6_heldThen : MethodName := ⟨RX6, "heldThen", "()I"⟩
abbrev cX6_swing : ByteArray := prog_8_method_49_code
def yX6_swing : MethodName := ⟨RX6, "swing", "()I"⟩
abbrev cX6_sums : ByteArray := prog_8_method_50_code
def yX6_sums : MethodName := ⟨RX6, "sums", "(I)I"⟩
abbrev cX6_revise : ByteArray := prog_8_method_51_code
def yX6_revise : MethodName := ⟨RX6, "revise", "(I)I"⟩
abbrev cX6_merit : ByteArray := prog_8_method_52_code
def yX6_merit : MethodName := ⟨RX6, "merit", "(I)I"⟩
abbrev cX6_best : ByteArray := prog_8_method_53_code
def yX6_best : MethodName := ⟨RX6, "best", "(I)I"⟩
abbrev cX6_feed : ByteArray := prog_8_method_54_code
def yX6_feed : MethodName := ⟨RX6, "feed", "(II)I"⟩
abbrev cX6_wipe : ByteArray := prog_8_method_55_code
def yX6_wipe : MethodName := ⟨RX6, "wipe", "()I"⟩
abbrev cX6_isByte : ByteArray := prog_8_method_56_code
def yX6_isByte : MethodName := ⟨RX6, "isByte", "(III)Z"⟩
abbrev cX6_isName : ByteArray := prog_8_method_57_code
def yX6_isName : MethodName := ⟨RX6, "isName", "(II)Z"⟩
abbrev cX6_wordHere : ByteArray := prog_8_method_58_code
def yX6_wordHere : MethodName := ⟨RX6, "wordHere", "()I"⟩
abbrev cX6_reads : ByteArray := prog_8_method_59_code
def yX6_reads : MethodName := ⟨RX6, "reads", "()V"⟩
abbrev cX6_passes : ByteArray := prog_8_method_60_code
def yX6_passes : MethodName := ⟨RX6, "passes", "(I)Z"⟩
abbrev cX6_number : ByteArray := prog_8_method_61_code
def yX6_number : MethodName := ⟨RX6, "number", "(II)I"⟩
abbrev cX6_perhaps : ByteArray := prog_8_method_62_code
def yX6_perhaps : MethodName := ⟨RX6, "perhaps", "(IIII)I"⟩
abbrev cX6_hatItem : ByteArray := prog_8_method_63_code
def yX6_hatItem : MethodName := ⟨RX6, "hatItem", "()V"⟩
abbrev cX6_holdsItem : ByteArray := prog_8_method_64_code
def yX6_holdsItem : MethodName := ⟨RX6, "holdsItem", "()V"⟩
abbrev cX6_item : ByteArray := prog_8_method_65_code
def yX6_item : MethodName := ⟨RX6, "item", "()V"⟩
abbrev cX6_lobby : ByteArray := prog_8_method_66_code
def yX6_lobby : MethodName := ⟨RX6, "lobby", "()I"⟩
abbrev cX6_isSheet : ByteArray := prog_8_method_67_code
def yX6_isSheet : MethodName := ⟨RX6, "isSheet", "(I)Z"⟩
abbrev cX6_sheet : ByteArray := prog_8_method_68_code
def yX6_sheet : MethodName := ⟨RX6, "sheet", "(III)I"⟩
abbrev cX6_notThere : ByteArray := prog_8_method_69_code
def yX6_notThere : MethodName := ⟨RX6, "notThere", "(I)I"⟩
abbrev cX6_cutTo : ByteArray := prog_8_method_70_code
def yX6_cutTo : MethodName := ⟨RX6, "cutTo", "(IJ)J"⟩
abbrev cX6_write : ByteArray := prog_8_method_71_code
def yX6_write : MethodName := ⟨RX6, "write", "(IIJ)J"⟩
abbrev cX6_notCopied : ByteArray := prog_8_method_72_code
def yX6_notCopied : MethodName := ⟨RX6, "notCopied", "(IIIII)I"⟩
abbrev cX6_copy : ByteArray := prog_8_method_73_code
def yX6_copy : MethodName := ⟨RX6, "copy", "(IIIII)I"⟩
abbrev cX6_lays : ByteArray := prog_8_method_74_code
def yX6_lays : MethodName := ⟨RX6, "lays", "(I)I"⟩
abbrev cX6_notAsked : ByteArray := prog_8_method_75_code
def yX6_notAsked : MethodName := ⟨RX6, "notAsked", "(II)I"⟩
abbrev cX6_book : ByteArray := prog_8_method_76_code
def yX6_book : MethodName := ⟨RX6, "book", "(II)I"⟩
abbrev cX6_isBook : ByteArray := prog_8_method_77_code
def yX6_isBook : MethodName := ⟨RX6, "isBook", "(II)Z"⟩
abbrev cX6_read : ByteArray := prog_8_method_78_code
def yX6_read : MethodName := ⟨RX6, "read", "(II)I"⟩
abbrev cX6_image : ByteArray := prog_8_method_79_code
def yX6_image : MethodName := ⟨RX6, "image", "()I"⟩
abbrev cX6_undo : ByteArray := prog_8_method_80_code
def yX6_undo : MethodName := ⟨RX6, "undo", "()I"⟩
abbrev cX6_tear : ByteArray := prog_8_method_81_code
def yX6_tear : MethodName := ⟨RX6, "tear", "()I"⟩
abbrev cX6_count : ByteArray := prog_8_method_82_code
def yX6_count : MethodName := ⟨RX6, "count", "(I)I"⟩
abbrev cX6_status : ByteArray := prog_8_method_83_code
def yX6_status : MethodName := ⟨RX6, "status", "(I)I"⟩
def RJx145de : String := "java/io/Serializable"
def TJx145de : u_T := fun k => match k with
  | _ => ("", "", "", false)
def tyJx145de : Nat → FieldType := fun k => match k with
  | _ => .int
abbrev wsJx145de0 : List Cond := u_ws RJx145de TJx145de 0
theorem nmJx145de : ∀ a, a < 0 → ∀ b, b < 0 → a ≠ b → (TJx145de a).2.1 ≠ (TJx145de b).2.1 := by decide +kernel
theorem tyJx145de_ok : ∀ k, k < 0 → parseFieldDescriptor (TJx145de k).2.2.1 = some (tyJx145de k) := by decide +kernel
def RJx9f9b0 : String := "java/lang/CharSequence"
def TJx9f9b0 : u_T := fun k => match k with
  | _ => ("", "", "", false)
def tyJx9f9b0 : Nat → FieldType := fun k => match k with
  | _ => .int
abbrev wsJx9f9b00 : List Cond := u_ws RJx9f9b0 TJx9f9b0 0
theorem nmJx9f9b0 : ∀ a, a < 0 → ∀ b, b < 0 → a ≠ b → (TJx9f9b0 a).2.1 ≠ (TJx9f9b0 b).2.1 := by decide +kernel
theorem tyJx9f9b0_ok : ∀ k, k < 0 → parseFieldDescriptor (TJx9f9b0 k).2.2.1 = some (tyJx9f9b0 k) := by decide +kernel
def RJxb160c : String := "java/lang/Comparable"
def TJxb160c : u_T := fun k => match k with
  | _ => ("", "", "", false)
def tyJxb160c : Nat → FieldType := fun k => match k with
  | _ => .int
abbrev wsJxb160c0 : List Cond := u_ws RJxb160c TJxb160c 0
theorem nmJxb160c : ∀ a, a < 0 → ∀ b, b < 0 → a ≠ b → (TJxb160c a).2.1 ≠ (TJxb160c b).2.1 := by decide +kernel
theorem tyJxb160c_ok : ∀ k, k < 0 → parseFieldDescriptor (TJxb160c k).2.2.1 = some (tyJxb160c k) := by decide +kernel
def RJ6 : String := "java/lang/Integer"
def TJ6 : u_T := fun k => match k with
  | _ => ("", "", "", false)
def tyJ6 : Nat → FieldType := fun k => match k with
  | _ => .int
abbrev wsJ60 : List Cond := u_ws RJ6 TJ6 0
theorem nmJ6 : ∀ a, a < 0 → ∀ b, b < 0 → a ≠ b → (TJ6 a).2.1 ≠ (TJ6 b).2.1 := by decide +kernel
theorem tyJ6_ok : ∀ k, k < 0 → parseFieldDescriptor (TJ6 k).2.2.1 = some (tyJ6 k) := by decide +kernel
abbrev cJ6_bitCount_0f7a4 : ByteArray := prog_9_method_49_code
def yJ6_bitCount_0f7a4 : MethodName := ⟨RJ6, "bitCount", "(I)I"⟩
def RJ9 : String := "java/lang/Math"
def TJ9 : u_T := fun k => match k with
  | _ => ("", "", "", false)
def tyJ9 : Nat → FieldType := fun k => match k with
  | _ => .int
abbrev wsJ90 : List Cond := u_ws RJ9 TJ9 0
theorem nmJ9 : ∀ a, a < 0 → ∀ b, b < 0 → a ≠ b → (TJ9 a).2.1 ≠ (TJ9 b).2.1 := by decide +kernel
theorem tyJ9_ok : ∀ k, k < 0 → parseFieldDescriptor (TJ9 k).2.2.1 = some (tyJ9 k) := by decide +kernel
abbrev cJ9_max_7cf53 : ByteArray := prog_10_method_65_code
def yJ9_max_7cf53 : MethodName := ⟨RJ9, "max", "(II)I"⟩
abbrev cJ9_min_7cf53 : ByteArray := prog_10_method_69_code
def yJ9_min_7cf53 : MethodName := ⟨RJ9, "min", "(II)I"⟩
def RJ0 : String := "java/lang/String"
def TJ0 : u_T := fun k => match k with
  | _ => ("", "", "", false)
def tyJ0 : Nat → FieldType := fun k => match k with
  | _ => .int
abbrev wsJ00 : List Cond := u_ws RJ0 TJ0 0
theorem nmJ0 : ∀ a, a < 0 → ∀ b, b < 0 → a ≠ b → (TJ0 a).2.1 ≠ (TJ0 b).2.1 := by decide +kernel
theorem tyJ0_ok : ∀ k, k < 0 → parseFieldDescriptor (TJ0 k).2.2.1 = some (tyJ0 k) := by decide +kernel
abbrev cJ0_length_8abf5 : ByteArray := prog_11_method_54_code
def yJ0_length_8abf5 : MethodName := ⟨RJ0, "length", "()I"⟩
abbrev cJ0_charAt_5068e : ByteArray := prog_11_method_56_code
def yJ0_charAt_5068e : MethodName := ⟨RJ0, "charAt", "(I)C"⟩
abbrev cJ0_coder_7d493 : ByteArray := prog_11_method_152_code
def yJ0_coder_7d493 : MethodName := ⟨RJ0, "coder", "()B"⟩
abbrev cJ0_isLatin1_aae02 : ByteArray := prog_11_method_154_code
def yJ0_isLatin1_aae02 : MethodName := ⟨RJ0, "isLatin1", "()Z"⟩
abbrev cJ0_checkIndex_df160 : ByteArray := prog_11_method_155_code
def yJ0_checkIndex_df160 : MethodName := ⟨RJ0, "checkIndex", "(II)V"⟩
def RJ1 : String := "java/lang/StringLatin1"
def TJ1 : u_T := fun k => match k with
  | _ => ("", "", "", false)
def tyJ1 : Nat → FieldType := fun k => match k with
  | _ => .int
abbrev wsJ10 : List Cond := u_ws RJ1 TJ1 0
theorem nmJ1 : ∀ a, a < 0 → ∀ b, b < 0 → a ≠ b → (TJ1 a).2.1 ≠ (TJ1 b).2.1 := by decide +kernel
theorem tyJ1_ok : ∀ k, k < 0 → parseFieldDescriptor (TJ1 k).2.2.1 = some (tyJ1 k) := by decide +kernel
abbrev cJ1_charAt_3b067 : ByteArray := prog_12_method_2_code
def yJ1_charAt_3b067 : MethodName := ⟨RJ1, "charAt", "([BI)C"⟩
def RJ2 : String := "java/lang/StringUTF16"
def TJ2 : u_T := fun k => match k with
  | _ => ("", "", "", false)
def tyJ2 : Nat → FieldType := fun k => match k with
  | _ => .int
abbrev wsJ20 : List Cond := u_ws RJ2 TJ2 0
theorem nmJ2 : ∀ a, a < 0 → ∀ b, b < 0 → a ≠ b → (TJ2 a).2.1 ≠ (TJ2 b).2.1 := by decide +kernel
theorem tyJ2_ok : ∀ k, k < 0 → parseFieldDescriptor (TJ2 k).2.2.1 = some (tyJ2 k) := by decide +kernel
abbrev cJ2_getChar_3b067 : ByteArray := prog_13_method_5_code
def yJ2_getChar_3b067 : MethodName := ⟨RJ2, "getChar", "([BI)C"⟩
abbrev cJ2_length_9d52b : ByteArray := prog_13_method_6_code
def yJ2_length_9d52b : MethodName := ⟨RJ2, "length", "([B)I"⟩
abbrev cJ2_charAt_3b067 : ByteArray := prog_13_method_83_code
def yJ2_charAt_3b067 : MethodName := ⟨RJ2, "charAt", "([BI)C"⟩
abbrev cJ2_checkIndex_2214a : ByteArray := prog_13_method_91_code
def yJ2_checkIndex_2214a : MethodName := ⟨RJ2, "checkIndex", "(I[B)V"⟩
def RJ10 : String := "java/lang/System"
def TJ10 : u_T := fun k => match k with
  | _ => ("", "", "", false)
def tyJ10 : Nat → FieldType := fun k => match k with
  | _ => .int
abbrev wsJ100 : List Cond := u_ws RJ10 TJ10 0
theorem nmJ10 : ∀ a, a < 0 → ∀ b, b < 0 → a ≠ b → (TJ10 a).2.1 ≠ (TJ10 b).2.1 := by decide +kernel
theorem tyJ10_ok : ∀ k, k < 0 → parseFieldDescriptor (TJ10 k).2.2.1 = some (tyJ10 k) := by decide +kernel
def RJxfd54e : String := "java/lang/constant/Constable"
def TJxfd54e : u_T := fun k => match k with
  | _ => ("", "", "", false)
def tyJxfd54e : Nat → FieldType := fun k => match k with
  | _ => .int
abbrev wsJxfd54e0 : List Cond := u_ws RJxfd54e TJxfd54e 0
theorem nmJxfd54e : ∀ a, a < 0 → ∀ b, b < 0 → a ≠ b → (TJxfd54e a).2.1 ≠ (TJxfd54e b).2.1 := by decide +kernel
theorem tyJxfd54e_ok : ∀ k, k < 0 → parseFieldDescriptor (TJxfd54e k).2.2.1 = some (tyJxfd54e k) := by decide +kernel
def RJx3cf43 : String := "java/lang/constant/ConstantDesc"
def TJx3cf43 : u_T := fun k => match k with
  | _ => ("", "", "", false)
def tyJx3cf43 : Nat → FieldType := fun k => match k with
  | _ => .int
abbrev wsJx3cf430 : List Cond := u_ws RJx3cf43 TJx3cf43 0
theorem nmJx3cf43 : ∀ a, a < 0 → ∀ b, b < 0 → a ≠ b → (TJx3cf43 a).2.1 ≠ (TJx3cf43 b).2.1 := by decide +kernel
theorem tyJx3cf43_ok : ∀ k, k < 0 → parseFieldDescriptor (TJx3cf43 k).2.2.1 = some (tyJx3cf43 k) := by decide +kernel
def RJ7 : String := "java/util/Arrays"
def TJ7 : u_T := fun k => match k with
  | _ => ("", "", "", false)
def tyJ7 : Nat → FieldType := fun k => match k with
  | _ => .int
abbrev wsJ70 : List Cond := u_ws RJ7 TJ7 0
theorem nmJ7 : ∀ a, a < 0 → ∀ b, b < 0 → a ≠ b → (TJ7 a).2.1 ≠ (TJ7 b).2.1 := by decide +kernel
theorem tyJ7_ok : ∀ k, k < 0 → parseFieldDescriptor (TJ7 k).2.2.1 = some (tyJ7 k) := by decide +kernel
abbrev cJ7_fill_d0a16 : ByteArray := prog_15_method_101_code
def yJ7_fill_d0a16 : MethodName := ⟨RJ7, "fill", "([JJ)V"⟩
def RJ3 : String := "jdk/internal/util/Preconditions"
def TJ3 : u_T := fun k => match k with
  | _ => ("", "", "", false)
def tyJ3 : Nat → FieldType := fun k => match k with
  | _ => .int
abbrev wsJ30 : List Cond := u_ws RJ3 TJ3 0
theorem nmJ3 : ∀ a, a < 0 → ∀ b, b < 0 → a ≠ b → (TJ3 a).2.1 ≠ (TJ3 b).2.1 := by decide +kernel
theorem tyJ3_ok : ∀ k, k < 0 → parseFieldDescriptor (TJ3 k).2.2.1 = some (tyJ3 k) := by decide +kernel
abbrev cJ3_checkIndex_8e157 : ByteArray := prog_16_method_11_code
def yJ3_checkIndex_8e157 : MethodName := ⟨RJ3, "checkIndex", "(IILjava/util/function/BiFunction;)I"⟩
def RL : String := "HatCongressLaw"
abbrev cL_law : ByteArray := code
def yL_law : MethodName := ⟨RL, "law", "([I)Z"⟩
def wsX4_init : List Cond := .code yX4_init cX4_init 1 none :: ([.methodLink RX4 3 objectInit, .instanceMethod objectInit, .code objectInit ⟨#[0xb1]⟩ 1 none, .arrayClass .int, .fieldLink RX4 9 "HatCongress$Tape" "bytes" "[I"] ++ wsX40)
abbrev vwCl : List vw_C := [(RX0, TX0, 5), (RX1, TX1, 7), (RX2, TX2, 3), (RX3, TX3, 7), (RX4, TX4, 2), (RX5, TX5, 7), (RX6, TX6, 16)]
