section
-- ===== PART A: goes FIRST, ahead of the names: the tables' words, and 'selects' of the private methods out of them =====
/-- a private method of a class that the tables say can be made, by its rows of tables_1 -/
def lw_okq (q : MethodName × Nat) : Prop := (q.1.cls ≠ "java/lang/invoke/MethodHandle" ∧ q.1.cls ≠ "java/lang/invoke/VarHandle") ∧ Cond.instantiable q.1.cls q.2 ∈ tables_1 ∧ Cond.privateMethod q.1 ∈ tables_1 ∧ Cond.instanceMethod q.1 ∈ tables_1
theorem lw_p0 : lw_okq (⟨"HatCongress", "finding", "(I)I"⟩, 8) := ⟨⟨by decide +kernel, by decide +kernel⟩, List.mem_of_getElem? (i := 17) (by decide +kernel), List.mem_of_getElem? (i := 199) (by decide +kernel), List.mem_of_getElem? (i := 200) (by decide +kernel)⟩
theorem lw_p1 : lw_okq (⟨"HatCongress$Delegate", "answerAsBowler", "(I)I"⟩, 7) := ⟨⟨by decide +kernel, by decide +kernel⟩, List.mem_of_getElem? (i := 32) (by decide +kernel), List.mem_of_getElem? (i := 220) (by decide +kernel), List.mem_of_getElem? (i := 221) (by decide +kernel)⟩
theorem lw_p2 : lw_okq (⟨"HatCongress$Delegate", "answerAsCap", "(II)I"⟩, 7) := ⟨⟨by decide +kernel, by decide +kernel⟩, List.mem_of_getElem? (i := 32) (by decide +kernel), List.mem_of_getElem? (i := 227) (by decide +kernel), List.mem_of_getElem? (i := 228) (by decide +kernel)⟩
theorem lw_p3 : lw_okq (⟨"HatCongress$Table", "judge", "(LHatCongress$Delegate;I)V"⟩, 7) := ⟨⟨by decide +kernel, by decide +kernel⟩, List.mem_of_getElem? (i := 25) (by decide +kernel), List.mem_of_getElem? (i := 327) (by decide +kernel), List.mem_of_getElem? (i := 328) (by decide +kernel)⟩
theorem lw_p4 : lw_okq (⟨"HatCongress", "lookAhead", "(I)V"⟩, 8) := ⟨⟨by decide +kernel, by decide +kernel⟩, List.mem_of_getElem? (i := 17) (by decide +kernel), List.mem_of_getElem? (i := 351) (by decide +kernel), List.mem_of_getElem? (i := 352) (by decide +kernel)⟩
theorem lw_p5 : lw_okq (⟨"HatCongress$Clerk", "next", "()V"⟩, 6) := ⟨⟨by decide +kernel, by decide +kernel⟩, List.mem_of_getElem? (i := 120) (by decide +kernel), List.mem_of_getElem? (i := 446) (by decide +kernel), List.mem_of_getElem? (i := 447) (by decide +kernel)⟩
theorem lw_p6 : lw_okq (⟨"HatCongress$Clerk", "valueOfDigits", "()I"⟩, 6) := ⟨⟨by decide +kernel, by decide +kernel⟩, List.mem_of_getElem? (i := 120) (by decide +kernel), List.mem_of_getElem? (i := 458) (by decide +kernel), List.mem_of_getElem? (i := 459) (by decide +kernel)⟩
theorem lw_p7 : lw_okq (⟨"HatCongress$Clerk", "item", "()Z"⟩, 6) := ⟨⟨by decide +kernel, by decide +kernel⟩, List.mem_of_getElem? (i := 120) (by decide +kernel), List.mem_of_getElem? (i := 462) (by decide +kernel), List.mem_of_getElem? (i := 463) (by decide +kernel)⟩
theorem lw_p8 : lw_okq (⟨"HatCongress$Clerk", "kindNamed", "()I"⟩, 6) := ⟨⟨by decide +kernel, by decide +kernel⟩, List.mem_of_getElem? (i := 120) (by decide +kernel), List.mem_of_getElem? (i := 466) (by decide +kernel), List.mem_of_getElem? (i := 467) (by decide +kernel)⟩
theorem lw_p9 : lw_okq (⟨"HatCongress$Clerk", "isWord", "(Ljava/lang/String;)Z"⟩, 6) := ⟨⟨by decide +kernel, by decide +kernel⟩, List.mem_of_getElem? (i := 120) (by decide +kernel), List.mem_of_getElem? (i := 479) (by decide +kernel), List.mem_of_getElem? (i := 480) (by decide +kernel)⟩
theorem lw_p10 : lw_okq (⟨"HatCongress$Clerk", "hatItem", "(I)Z"⟩, 6) := ⟨⟨by decide +kernel, by decide +kernel⟩, List.mem_of_getElem? (i := 120) (by decide +kernel), List.mem_of_getElem? (i := 531) (by decide +kernel), List.mem_of_getElem? (i := 532) (by decide +kernel)⟩
theorem lw_p11 : lw_okq (⟨"HatCongress$Clerk", "takes", "(Ljava/lang/String;)Z"⟩, 6) := ⟨⟨by decide +kernel, by decide +kernel⟩, List.mem_of_getElem? (i := 120) (by decide +kernel), List.mem_of_getElem? (i := 538) (by decide +kernel), List.mem_of_getElem? (i := 539) (by decide +kernel)⟩
theorem lw_p12 : lw_okq (⟨"HatCongress$Clerk", "isNumberUpTo", "(I)Z"⟩, 6) := ⟨⟨by decide +kernel, by decide +kernel⟩, List.mem_of_getElem? (i := 120) (by decide +kernel), List.mem_of_getElem? (i := 542) (by decide +kernel), List.mem_of_getElem? (i := 543) (by decide +kernel)⟩
theorem lw_p13 : lw_okq (⟨"HatCongress$Clerk", "truthItem", "()Z"⟩, 6) := ⟨⟨by decide +kernel, by decide +kernel⟩, List.mem_of_getElem? (i := 120) (by decide +kernel), List.mem_of_getElem? (i := 549) (by decide +kernel), List.mem_of_getElem? (i := 550) (by decide +kernel)⟩
theorem lw_p14 : lw_okq (⟨"HatCongress$Clerk", "holdsItem", "()Z"⟩, 6) := ⟨⟨by decide +kernel, by decide +kernel⟩, List.mem_of_getElem? (i := 120) (by decide +kernel), List.mem_of_getElem? (i := 554) (by decide +kernel), List.mem_of_getElem? (i := 555) (by decide +kernel)⟩
theorem lw_p15 : lw_okq (⟨"HatCongress$Clerk", "liftItem", "()Z"⟩, 6) := ⟨⟨by decide +kernel, by decide +kernel⟩, List.mem_of_getElem? (i := 120) (by decide +kernel), List.mem_of_getElem? (i := 561) (by decide +kernel), List.mem_of_getElem? (i := 562) (by decide +kernel)⟩
def lw_privs_1 : List (MethodName × Nat) := [(⟨"HatCongress", "finding", "(I)I"⟩, 8), (⟨"HatCongress$Delegate", "answerAsBowler", "(I)I"⟩, 7), (⟨"HatCongress$Delegate", "answerAsCap", "(II)I"⟩, 7), (⟨"HatCongress$Table", "judge", "(LHatCongress$Delegate;I)V"⟩, 7), (⟨"HatCongress", "lookAhead", "(I)V"⟩, 8), (⟨"HatCongress$Clerk", "next", "()V"⟩, 6), (⟨"HatCongress$Clerk", "valueOfDigits", "()I"⟩, 6), (⟨"HatCongress$Clerk", "item", "()Z"⟩, 6), (⟨"HatCongress$Clerk", "kindNamed", "()I"⟩, 6), (⟨"HatCongress$Clerk", "isWord", "(Ljava/lang/String;)Z"⟩, 6), (⟨"HatCongress$Clerk", "hatItem", "(I)Z"⟩, 6), (⟨"HatCongress$Clerk", "takes", "(Ljava/lang/String;)Z"⟩, 6), (⟨"HatCongress$Clerk", "isNumberUpTo", "(I)Z"⟩, 6), (⟨"HatCongress$Clerk", "truthItem", "()Z"⟩, 6), (⟨"HatCongress$Clerk", "holdsItem", "()Z"⟩, 6), (⟨"HatCongress$Clerk", "liftItem", "()Z"⟩, 6)]
theorem lw_r1 : ∀ q ∈ lw_privs_1, lw_okq q := List.forall_mem_cons.mpr ⟨lw_p0, List.forall_mem_cons.mpr ⟨lw_p1, List.forall_mem_cons.mpr ⟨lw_p2, List.forall_mem_cons.mpr ⟨lw_p3, List.forall_mem_cons.mpr ⟨lw_p4, List.forall_mem_cons.mpr ⟨lw_p5, List.forall_mem_cons.mpr ⟨lw_p6, List.forall_mem_cons.mpr ⟨lw_p7, List.forall_mem_cons.mpr ⟨lw_p8, List.forall_mem_cons.mpr ⟨lw_p9, List.forall_mem_cons.mpr ⟨lw_p10, List.forall_mem_cons.mpr ⟨lw_p11, List.forall_mem_cons.mpr ⟨lw_p12, List.forall_mem_cons.mpr ⟨lw_p13, List.forall_mem_cons.mpr ⟨lw_p14, List.forall_mem_cons.mpr ⟨lw_p15, fun _ h => absurd h List.not_mem_nil⟩⟩⟩⟩⟩⟩⟩⟩⟩⟩⟩⟩⟩⟩⟩⟩
theorem lw_p16 : lw_okq (⟨"HatCongress", "saysJustSo", "(LHatCongress$Sheet;I)Z"⟩, 8) := ⟨⟨by decide +kernel, by decide +kernel⟩, List.mem_of_getElem? (i := 17) (by decide +kernel), List.mem_of_getElem? (i := 629) (by decide +kernel), List.mem_of_getElem? (i := 630) (by decide +kernel)⟩
theorem lw_p17 : lw_okq (⟨"HatCongressModel", "becomes", "(II)I"⟩, 16) := ⟨⟨by decide +kernel, by decide +kernel⟩, List.mem_of_getElem? (i := 653) (by decide +kernel), List.mem_of_getElem? (i := 715) (by decide +kernel), List.mem_of_getElem? (i := 716) (by decide +kernel)⟩
theorem lw_p18 : lw_okq (⟨"HatCongressModel", "finds", "(I)I"⟩, 16) := ⟨⟨by decide +kernel, by decide +kernel⟩, List.mem_of_getElem? (i := 653) (by decide +kernel), List.mem_of_getElem? (i := 720) (by decide +kernel), List.mem_of_getElem? (i := 721) (by decide +kernel)⟩
theorem lw_p19 : lw_okq (⟨"HatCongressModel", "asked", "()I"⟩, 16) := ⟨⟨by decide +kernel, by decide +kernel⟩, List.mem_of_getElem? (i := 653) (by decide +kernel), List.mem_of_getElem? (i := 728) (by decide +kernel), List.mem_of_getElem? (i := 729) (by decide +kernel)⟩
theorem lw_p20 : lw_okq (⟨"HatCongressModel", "weight", "(II)I"⟩, 16) := ⟨⟨by decide +kernel, by decide +kernel⟩, List.mem_of_getElem? (i := 653) (by decide +kernel), List.mem_of_getElem? (i := 732) (by decide +kernel), List.mem_of_getElem? (i := 733) (by decide +kernel)⟩
theorem lw_p21 : lw_okq (⟨"HatCongressModel", "it", "(II)I"⟩, 16) := ⟨⟨by decide +kernel, by decide +kernel⟩, List.mem_of_getElem? (i := 653) (by decide +kernel), List.mem_of_getElem? (i := 736) (by decide +kernel), List.mem_of_getElem? (i := 737) (by decide +kernel)⟩
theorem lw_p22 : lw_okq (⟨"HatCongressModel", "saysTo", "(II)I"⟩, 16) := ⟨⟨by decide +kernel, by decide +kernel⟩, List.mem_of_getElem? (i := 653) (by decide +kernel), List.mem_of_getElem? (i := 740) (by decide +kernel), List.mem_of_getElem? (i := 741) (by decide +kernel)⟩
theorem lw_p23 : lw_okq (⟨"HatCongressModel", "weighs", "(I)I"⟩, 16) := ⟨⟨by decide +kernel, by decide +kernel⟩, List.mem_of_getElem? (i := 653) (by decide +kernel), List.mem_of_getElem? (i := 744) (by decide +kernel), List.mem_of_getElem? (i := 745) (by decide +kernel)⟩
theorem lw_p24 : lw_okq (⟨"HatCongressModel", "onTable", "()I"⟩, 16) := ⟨⟨by decide +kernel, by decide +kernel⟩, List.mem_of_getElem? (i := 653) (by decide +kernel), List.mem_of_getElem? (i := 748) (by decide +kernel), List.mem_of_getElem? (i := 749) (by decide +kernel)⟩
theorem lw_p25 : lw_okq (⟨"HatCongressModel", "trueOnes", "()I"⟩, 16) := ⟨⟨by decide +kernel, by decide +kernel⟩, List.mem_of_getElem? (i := 653) (by decide +kernel), List.mem_of_getElem? (i := 752) (by decide +kernel), List.mem_of_getElem? (i := 753) (by decide +kernel)⟩
theorem lw_p26 : lw_okq (⟨"HatCongressModel", "comesAs", "(IIII)I"⟩, 16) := ⟨⟨by decide +kernel, by decide +kernel⟩, List.mem_of_getElem? (i := 653) (by decide +kernel), List.mem_of_getElem? (i := 761) (by decide +kernel), List.mem_of_getElem? (i := 762) (by decide +kernel)⟩
theorem lw_p27 : lw_okq (⟨"HatCongressModel", "put", "(III)V"⟩, 16) := ⟨⟨by decide +kernel, by decide +kernel⟩, List.mem_of_getElem? (i := 653) (by decide +kernel), List.mem_of_getElem? (i := 765) (by decide +kernel), List.mem_of_getElem? (i := 766) (by decide +kernel)⟩
theorem lw_p28 : lw_okq (⟨"HatCongressModel", "isHat", "(I)Z"⟩, 16) := ⟨⟨by decide +kernel, by decide +kernel⟩, List.mem_of_getElem? (i := 653) (by decide +kernel), List.mem_of_getElem? (i := 773) (by decide +kernel), List.mem_of_getElem? (i := 774) (by decide +kernel)⟩
theorem lw_p29 : lw_okq (⟨"HatCongressModel", "doesLearn", "(I)Z"⟩, 16) := ⟨⟨by decide +kernel, by decide +kernel⟩, List.mem_of_getElem? (i := 653) (by decide +kernel), List.mem_of_getElem? (i := 777) (by decide +kernel), List.mem_of_getElem? (i := 778) (by decide +kernel)⟩
theorem lw_p30 : lw_okq (⟨"HatCongressModel", "stirs", "(I)I"⟩, 16) := ⟨⟨by decide +kernel, by decide +kernel⟩, List.mem_of_getElem? (i := 653) (by decide +kernel), List.mem_of_getElem? (i := 781) (by decide +kernel), List.mem_of_getElem? (i := 782) (by decide +kernel)⟩
theorem lw_p31 : lw_okq (⟨"HatCongressModel", "goesFor", "(I)V"⟩, 16) := ⟨⟨by decide +kernel, by decide +kernel⟩, List.mem_of_getElem? (i := 653) (by decide +kernel), List.mem_of_getElem? (i := 811) (by decide +kernel), List.mem_of_getElem? (i := 812) (by decide +kernel)⟩
def lw_privs_2 : List (MethodName × Nat) := [(⟨"HatCongress", "saysJustSo", "(LHatCongress$Sheet;I)Z"⟩, 8), (⟨"HatCongressModel", "becomes", "(II)I"⟩, 16), (⟨"HatCongressModel", "finds", "(I)I"⟩, 16), (⟨"HatCongressModel", "asked", "()I"⟩, 16), (⟨"HatCongressModel", "weight", "(II)I"⟩, 16), (⟨"HatCongressModel", "it", "(II)I"⟩, 16), (⟨"HatCongressModel", "saysTo", "(II)I"⟩, 16), (⟨"HatCongressModel", "weighs", "(I)I"⟩, 16), (⟨"HatCongressModel", "onTable", "()I"⟩, 16), (⟨"HatCongressModel", "trueOnes", "()I"⟩, 16), (⟨"HatCongressModel", "comesAs", "(IIII)I"⟩, 16), (⟨"HatCongressModel", "put", "(III)V"⟩, 16), (⟨"HatCongressModel", "isHat", "(I)Z"⟩, 16), (⟨"HatCongressModel", "doesLearn", "(I)Z"⟩, 16), (⟨"HatCongressModel", "stirs", "(I)I"⟩, 16), (⟨"HatCongressModel", "goesFor", "(I)V"⟩, 16)]
theorem lw_r2 : ∀ q ∈ lw_privs_2, lw_okq q := List.forall_mem_cons.mpr ⟨lw_p16, List.forall_mem_cons.mpr ⟨lw_p17, List.forall_mem_cons.mpr ⟨lw_p18, List.forall_mem_cons.mpr ⟨lw_p19, List.forall_mem_cons.mpr ⟨lw_p20, List.forall_mem_cons.mpr ⟨lw_p21, List.forall_mem_cons.mpr ⟨lw_p22, List.forall_mem_cons.mpr ⟨lw_p23, List.forall_mem_cons.mpr ⟨lw_p24, List.forall_mem_cons.mpr ⟨lw_p25, List.forall_mem_cons.mpr ⟨lw_p26, List.forall_mem_cons.mpr ⟨lw_p27, List.forall_mem_cons.mpr ⟨lw_p28, List.forall_mem_cons.mpr ⟨lw_p29, List.forall_mem_cons.mpr ⟨lw_p30, List.forall_mem_cons.mpr ⟨lw_p31, fun _ h => absurd h List.not_mem_nil⟩⟩⟩⟩⟩⟩⟩⟩⟩⟩⟩⟩⟩⟩⟩⟩
theorem lw_p32 : lw_okq (⟨"HatCongressModel", "goes", "()V"⟩, 16) := ⟨⟨by decide +kernel, by decide +kernel⟩, List.mem_of_getElem? (i := 653) (by decide +kernel), List.mem_of_getElem? (i := 815) (by decide +kernel), List.mem_of_getElem? (i := 816) (by decide +kernel)⟩
theorem lw_p33 : lw_okq (⟨"HatCongressModel", "isJudged", "(III)V"⟩, 16) := ⟨⟨by decide +kernel, by decide +kernel⟩, List.mem_of_getElem? (i := 653) (by decide +kernel), List.mem_of_getElem? (i := 822) (by decide +kernel), List.mem_of_getElem? (i := 823) (by decide +kernel)⟩
theorem lw_p34 : lw_okq (⟨"HatCongressModel", "thinks", "()V"⟩, 16) := ⟨⟨by decide +kernel, by decide +kernel⟩, List.mem_of_getElem? (i := 653) (by decide +kernel), List.mem_of_getElem? (i := 833) (by decide +kernel), List.mem_of_getElem? (i := 834) (by decide +kernel)⟩
theorem lw_p35 : lw_okq (⟨"HatCongressModel", "putsBack", "()V"⟩, 16) := ⟨⟨by decide +kernel, by decide +kernel⟩, List.mem_of_getElem? (i := 653) (by decide +kernel), List.mem_of_getElem? (i := 840) (by decide +kernel), List.mem_of_getElem? (i := 841) (by decide +kernel)⟩
theorem lw_p36 : lw_okq (⟨"HatCongressModel", "wiseOn", "(I)I"⟩, 16) := ⟨⟨by decide +kernel, by decide +kernel⟩, List.mem_of_getElem? (i := 653) (by decide +kernel), List.mem_of_getElem? (i := 865) (by decide +kernel), List.mem_of_getElem? (i := 866) (by decide +kernel)⟩
theorem lw_p37 : lw_okq (⟨"HatCongressModel", "orNone", "(I)I"⟩, 16) := ⟨⟨by decide +kernel, by decide +kernel⟩, List.mem_of_getElem? (i := 653) (by decide +kernel), List.mem_of_getElem? (i := 872) (by decide +kernel), List.mem_of_getElem? (i := 873) (by decide +kernel)⟩
theorem lw_p38 : lw_okq (⟨"HatCongressModel", "rightOn", "(II)I"⟩, 16) := ⟨⟨by decide +kernel, by decide +kernel⟩, List.mem_of_getElem? (i := 653) (by decide +kernel), List.mem_of_getElem? (i := 880) (by decide +kernel), List.mem_of_getElem? (i := 881) (by decide +kernel)⟩
theorem lw_p39 : lw_okq (⟨"HatCongressModel", "heldThen", "()I"⟩, 16) := ⟨⟨by decide +kernel, by decide +kernel⟩, List.mem_of_getElem? (i := 653) (by decide +kernel), List.mem_of_getElem? (i := 896) (by decide +kernel), List.mem_of_getElem? (i := 897) (by decide +kernel)⟩
theorem lw_p40 : lw_okq (⟨"HatCongressModel", "sums", "(I)I"⟩, 16) := ⟨⟨by decide +kernel, by decide +kernel⟩, List.mem_of_getElem? (i := 653) (by decide +kernel), List.mem_of_getElem? (i := 904) (by decide +kernel), List.mem_of_getElem? (i := 905) (by decide +kernel)⟩
theorem lw_p41 : lw_okq (⟨"HatCongressModel", "merit", "(I)I"⟩, 16) := ⟨⟨by decide +kernel, by decide +kernel⟩, List.mem_of_getElem? (i := 653) (by decide +kernel), List.mem_of_getElem? (i := 912) (by decide +kernel), List.mem_of_getElem? (i := 913) (by decide +kernel)⟩
theorem lw_p42 : lw_okq (⟨"HatCongressModel", "reads", "()V"⟩, 16) := ⟨⟨by decide +kernel, by decide +kernel⟩, List.mem_of_getElem? (i := 653) (by decide +kernel), List.mem_of_getElem? (i := 928) (by decide +kernel), List.mem_of_getElem? (i := 929) (by decide +kernel)⟩
theorem lw_p43 : lw_okq (⟨"HatCongressModel", "isByte", "(III)Z"⟩, 16) := ⟨⟨by decide +kernel, by decide +kernel⟩, List.mem_of_getElem? (i := 653) (by decide +kernel), List.mem_of_getElem? (i := 932) (by decide +kernel), List.mem_of_getElem? (i := 933) (by decide +kernel)⟩
theorem lw_p44 : lw_okq (⟨"HatCongressModel", "wordHere", "()I"⟩, 16) := ⟨⟨by decide +kernel, by decide +kernel⟩, List.mem_of_getElem? (i := 653) (by decide +kernel), List.mem_of_getElem? (i := 936) (by decide +kernel), List.mem_of_getElem? (i := 937) (by decide +kernel)⟩
theorem lw_p45 : lw_okq (⟨"HatCongressModel", "isName", "(II)Z"⟩, 16) := ⟨⟨by decide +kernel, by decide +kernel⟩, List.mem_of_getElem? (i := 653) (by decide +kernel), List.mem_of_getElem? (i := 940) (by decide +kernel), List.mem_of_getElem? (i := 941) (by decide +kernel)⟩
theorem lw_p46 : lw_okq (⟨"HatCongressModel", "item", "()V"⟩, 16) := ⟨⟨by decide +kernel, by decide +kernel⟩, List.mem_of_getElem? (i := 653) (by decide +kernel), List.mem_of_getElem? (i := 946) (by decide +kernel), List.mem_of_getElem? (i := 947) (by decide +kernel)⟩
theorem lw_p47 : lw_okq (⟨"HatCongressModel", "hatItem", "()V"⟩, 16) := ⟨⟨by decide +kernel, by decide +kernel⟩, List.mem_of_getElem? (i := 653) (by decide +kernel), List.mem_of_getElem? (i := 950) (by decide +kernel), List.mem_of_getElem? (i := 951) (by decide +kernel)⟩
def lw_privs_3 : List (MethodName × Nat) := [(⟨"HatCongressModel", "goes", "()V"⟩, 16), (⟨"HatCongressModel", "isJudged", "(III)V"⟩, 16), (⟨"HatCongressModel", "thinks", "()V"⟩, 16), (⟨"HatCongressModel", "putsBack", "()V"⟩, 16), (⟨"HatCongressModel", "wiseOn", "(I)I"⟩, 16), (⟨"HatCongressModel", "orNone", "(I)I"⟩, 16), (⟨"HatCongressModel", "rightOn", "(II)I"⟩, 16), (⟨"HatCongressModel", "heldThen", "()I"⟩, 16), (⟨"HatCongressModel", "sums", "(I)I"⟩, 16), (⟨"HatCongressModel", "merit", "(I)I"⟩, 16), (⟨"HatCongressModel", "reads", "()V"⟩, 16), (⟨"HatCongressModel", "isByte", "(III)Z"⟩, 16), (⟨"HatCongressModel", "wordHere", "()I"⟩, 16), (⟨"HatCongressModel", "isName", "(II)Z"⟩, 16), (⟨"HatCongressModel", "item", "()V"⟩, 16), (⟨"HatCongressModel", "hatItem", "()V"⟩, 16)]
theorem lw_r3 : ∀ q ∈ lw_privs_3, lw_okq q := List.forall_mem_cons.mpr ⟨lw_p32, List.forall_mem_cons.mpr ⟨lw_p33, List.forall_mem_cons.mpr ⟨lw_p34, List.forall_mem_cons.mpr ⟨lw_p35, List.forall_mem_cons.mpr ⟨lw_p36, List.forall_mem_cons.mpr ⟨lw_p37, List.forall_mem_cons.mpr ⟨lw_p38, List.forall_mem_cons.mpr ⟨lw_p39, List.forall_mem_cons.mpr ⟨lw_p40, List.forall_mem_cons.mpr ⟨lw_p41, List.forall_mem_cons.mpr ⟨lw_p42, List.forall_mem_cons.mpr ⟨lw_p43, List.forall_mem_cons.mpr ⟨lw_p44, List.forall_mem_cons.mpr ⟨lw_p45, List.forall_mem_cons.mpr ⟨lw_p46, List.forall_mem_cons.mpr ⟨lw_p47, fun _ h => absurd h List.not_mem_nil⟩⟩⟩⟩⟩⟩⟩⟩⟩⟩⟩⟩⟩⟩⟩⟩
theorem lw_p48 : lw_okq (⟨"HatCongressModel", "perhaps", "(IIII)I"⟩, 16) := ⟨⟨by decide +kernel, by decide +kernel⟩, List.mem_of_getElem? (i := 653) (by decide +kernel), List.mem_of_getElem? (i := 954) (by decide +kernel), List.mem_of_getElem? (i := 955) (by decide +kernel)⟩
theorem lw_p49 : lw_okq (⟨"HatCongressModel", "passes", "(I)Z"⟩, 16) := ⟨⟨by decide +kernel, by decide +kernel⟩, List.mem_of_getElem? (i := 653) (by decide +kernel), List.mem_of_getElem? (i := 958) (by decide +kernel), List.mem_of_getElem? (i := 959) (by decide +kernel)⟩
theorem lw_p50 : lw_okq (⟨"HatCongressModel", "number", "(II)I"⟩, 16) := ⟨⟨by decide +kernel, by decide +kernel⟩, List.mem_of_getElem? (i := 653) (by decide +kernel), List.mem_of_getElem? (i := 962) (by decide +kernel), List.mem_of_getElem? (i := 963) (by decide +kernel)⟩
theorem lw_p51 : lw_okq (⟨"HatCongressModel", "holdsItem", "()V"⟩, 16) := ⟨⟨by decide +kernel, by decide +kernel⟩, List.mem_of_getElem? (i := 653) (by decide +kernel), List.mem_of_getElem? (i := 966) (by decide +kernel), List.mem_of_getElem? (i := 967) (by decide +kernel)⟩
theorem lw_p52 : lw_okq (⟨"HatCongressModel", "notThere", "(I)I"⟩, 16) := ⟨⟨by decide +kernel, by decide +kernel⟩, List.mem_of_getElem? (i := 653) (by decide +kernel), List.mem_of_getElem? (i := 982) (by decide +kernel), List.mem_of_getElem? (i := 983) (by decide +kernel)⟩
theorem lw_p53 : lw_okq (⟨"HatCongressModel", "notCopied", "(IIIII)I"⟩, 16) := ⟨⟨by decide +kernel, by decide +kernel⟩, List.mem_of_getElem? (i := 653) (by decide +kernel), List.mem_of_getElem? (i := 994) (by decide +kernel), List.mem_of_getElem? (i := 995) (by decide +kernel)⟩
theorem lw_p54 : lw_okq (⟨"HatCongressModel", "notAsked", "(II)I"⟩, 16) := ⟨⟨by decide +kernel, by decide +kernel⟩, List.mem_of_getElem? (i := 653) (by decide +kernel), List.mem_of_getElem? (i := 1006) (by decide +kernel), List.mem_of_getElem? (i := 1007) (by decide +kernel)⟩
theorem lw_p55 : lw_okq (⟨"HatCongressModel", "isBook", "(II)Z"⟩, 16) := ⟨⟨by decide +kernel, by decide +kernel⟩, List.mem_of_getElem? (i := 653) (by decide +kernel), List.mem_of_getElem? (i := 1014) (by decide +kernel), List.mem_of_getElem? (i := 1015) (by decide +kernel)⟩
def lw_privs_4 : List (MethodName × Nat) := [(⟨"HatCongressModel", "perhaps", "(IIII)I"⟩, 16), (⟨"HatCongressModel", "passes", "(I)Z"⟩, 16), (⟨"HatCongressModel", "number", "(II)I"⟩, 16), (⟨"HatCongressModel", "holdsItem", "()V"⟩, 16), (⟨"HatCongressModel", "notThere", "(I)I"⟩, 16), (⟨"HatCongressModel", "notCopied", "(IIIII)I"⟩, 16), (⟨"HatCongressModel", "notAsked", "(II)I"⟩, 16), (⟨"HatCongressModel", "isBook", "(II)Z"⟩, 16)]
theorem lw_r4 : ∀ q ∈ lw_privs_4, lw_okq q := List.forall_mem_cons.mpr ⟨lw_p48, List.forall_mem_cons.mpr ⟨lw_p49, List.forall_mem_cons.mpr ⟨lw_p50, List.forall_mem_cons.mpr ⟨lw_p51, List.forall_mem_cons.mpr ⟨lw_p52, List.forall_mem_cons.mpr ⟨lw_p53, List.forall_mem_cons.mpr ⟨lw_p54, List.forall_mem_cons.mpr ⟨lw_p55, fun _ h => absurd h List.not_mem_nil⟩⟩⟩⟩⟩⟩⟩⟩
def lw_privs : List (MethodName × Nat) := lw_privs_1 ++ (lw_privs_2 ++ (lw_privs_3 ++ (lw_privs_4)))
def lw_tbl : List Cond := k2_sels lw_privs ++ tables_1
theorem lw_privs_ok : ∀ q ∈ lw_privs, lw_okq q := by
  show ∀ q ∈ lw_privs_1 ++ (lw_privs_2 ++ (lw_privs_3 ++ (lw_privs_4))), lw_okq q
  exact List.forall_mem_append.mpr ⟨lw_r1, List.forall_mem_append.mpr ⟨lw_r2, List.forall_mem_append.mpr ⟨lw_r3, lw_r4⟩⟩⟩
/-! names, as the program printed them -/
def RX0 : String := "HatCongress$Clerk"
def TX0 : u_T := fun k => match k with
  | 0 => ("HatCongress$Clerk", "tape", "LHatCongress$Tape;", true)
  | 1 => ("HatCongress$Clerk", "onto", "LHatCongress$Table;", true)
  | 2 => ("HatCongress$Clerk", "token", "I", false)
  | 3 => ("HatCongress$Clerk", "start", "I", false)
  | 4 => ("HatCongress$Clerk", "end", "I", false)
  | _ => ("HatCongress$Clerk", "number", "I", false)
def tyX0 : Nat → FieldType := fun k => match k with
  | 0 => .object "HatCongress$Tape"
  | 1 => .object "HatCongress$Table"
  | 2 => .int
  | 3 => .int
  | 4 => .int
  | _ => .int
abbrev wsX00 : List Cond := u_ws RX0 TX0 6
theorem nmX0 : ∀ a, a < 6 → ∀ b, b < 6 → a ≠ b → (TX0 a).2.1 ≠ (TX0 b).2.1 := by decide +kernel
theorem tyX0_ok : ∀ k, k < 6 → parseFieldDescriptor (TX0 k).2.2.1 = some (tyX0 k) := by decide +kernel
abbrev cX0_init : ByteArray := prog_2_method_1_code
def yX0_init : MethodName := ⟨RX0, "<init>", "(LHatCongress$Tape;LHatCongress$Table;)V"⟩
abbrev cX0_takeDown : ByteArray := prog_2_method_2_code
def yX0_takeDown : MethodName := ⟨RX0, "takeDown", "()I"⟩
abbrev cX0_item : ByteArray := prog_2_method_3_code
def yX0_item : MethodName := ⟨RX0, "item", "()Z"⟩
abbrev cX0_hatItem : ByteArray := prog_2_method_4_code
def yX0_hatItem : MethodName := ⟨RX0, "hatItem", "(I)Z"⟩
abbrev cX0_truthItem : ByteArray := prog_2_method_5_code
def yX0_truthItem : MethodName := ⟨RX0, "truthItem", "()Z"⟩
abbrev cX0_holdsItem : ByteArray := prog_2_method_6_code
def yX0_holdsItem : MethodName := ⟨RX0, "holdsItem", "()Z"⟩
abbrev cX0_liftItem : ByteArray := prog_2_method_7_code
def yX0_liftItem : MethodName := ⟨RX0, "liftItem", "()Z"⟩
abbrev cX0_kindNamed : ByteArray := prog_2_method_8_code
def yX0_kindNamed : MethodName := ⟨RX0, "kindNamed", "()I"⟩
abbrev cX0_nameOf : ByteArray := prog_2_method_9_code
def yX0_nameOf : MethodName := ⟨RX0, "nameOf", "(I)Ljava/lang/String;"⟩
abbrev cX0_isNumberUpTo : ByteArray := prog_2_method_10_code
def yX0_isNumberUpTo : MethodName := ⟨RX0, "isNumberUpTo", "(I)Z"⟩
abbrev cX0_isWord : ByteArray := prog_2_method_11_code
def yX0_isWord : MethodName := ⟨RX0, "isWord", "(Ljava/lang/String;)Z"⟩
abbrev cX0_takes : ByteArray := prog_2_method_12_code
def yX0_takes : MethodName := ⟨RX0, "takes", "(Ljava/lang/String;)Z"⟩
abbrev cX0_next : ByteArray := prog_2_method_13_code
def yX0_next : MethodName := ⟨RX0, "next", "()V"⟩
abbrev cX0_valueOfDigits : ByteArray := prog_2_method_14_code
def yX0_valueOfDigits : MethodName := ⟨RX0, "valueOfDigits", "()I"⟩
def RX1 : String := "HatCongress$Delegate"
def TX1 : u_T := fun k => match k with
  | 0 => ("HatCongress$Delegate", "kind", "I", false)
  | 1 => ("HatCongress$Delegate", "view", "I", false)
  | 2 => ("HatCongress$Delegate", "right", "I", false)
  | 3 => ("HatCongress$Delegate", "wrong", "I", false)
  | 4 => ("HatCongress$Delegate", "faith", "I", false)
  | 5 => ("HatCongress$Delegate", "on", "I", false)
  | _ => ("HatCongress$Delegate", "said", "I", false)
def tyX1 : Nat → FieldType := fun k => match k with
  | 0 => .int
  | 1 => .int
  | 2 => .int
  | 3 => .int
  | 4 => .int
  | 5 => .int
  | _ => .int
abbrev wsX10 : List Cond := u_ws RX1 TX1 7
theorem nmX1 : ∀ a, a < 7 → ∀ b, b < 7 → a ≠ b → (TX1 a).2.1 ≠ (TX1 b).2.1 := by decide +kernel
theorem tyX1_ok : ∀ k, k < 7 → parseFieldDescriptor (TX1 k).2.2.1 = some (tyX1 k) := by decide +kernel
abbrev cX1_init : ByteArray := prog_3_method_1_code
def yX1_init : MethodName := ⟨RX1, "<init>", "()V"⟩
abbrev cX1_begin : ByteArray := prog_3_method_2_code
def yX1_begin : MethodName := ⟨RX1, "begin", "(II)V"⟩
abbrev cX1_become : ByteArray := prog_3_method_3_code
def yX1_become : MethodName := ⟨RX1, "become", "(LHatCongress$Delegate;)V"⟩
abbrev cX1_trait : ByteArray := prog_3_method_4_code
def yX1_trait : MethodName := ⟨RX1, "trait", "(I)I"⟩
abbrev cX1_put : ByteArray := prog_3_method_5_code
def yX1_put : MethodName := ⟨RX1, "put", "(II)V"⟩
abbrev cX1_mostOf : ByteArray := prog_3_method_6_code
def yX1_mostOf : MethodName := ⟨RX1, "mostOf", "(I)I"⟩
abbrev cX1_isOfKind : ByteArray := prog_3_method_7_code
def yX1_isOfKind : MethodName := ⟨RX1, "isOfKind", "(I)Z"⟩
abbrev cX1_answer : ByteArray := prog_3_method_8_code
def yX1_answer : MethodName := ⟨RX1, "answer", "(II)I"⟩
abbrev cX1_answerAsBowler : ByteArray := prog_3_method_9_code
def yX1_answerAsBowler : MethodName := ⟨RX1, "answerAsBowler", "(I)I"⟩
abbrev cX1_answerAsCap : ByteArray := prog_3_method_10_code
def yX1_answerAsCap : MethodName := ⟨RX1, "answerAsCap", "(II)I"⟩
abbrev cX1_weight : ByteArray := prog_3_method_11_code
def yX1_weight : MethodName := ⟨RX1, "weight", "(I)I"⟩
abbrev cX1_isLearning : ByteArray := prog_3_method_12_code
def yX1_isLearning : MethodName := ⟨RX1, "isLearning", "(I)Z"⟩
abbrev cX1_stir : ByteArray := prog_3_method_13_code
def yX1_stir : MethodName := ⟨RX1, "stir", "()I"⟩
abbrev cX1_beRight : ByteArray := prog_3_method_14_code
def yX1_beRight : MethodName := ⟨RX1, "beRight", "()V"⟩
abbrev cX1_beWrong : ByteArray := prog_3_method_15_code
def yX1_beWrong : MethodName := ⟨RX1, "beWrong", "(III)V"⟩
abbrev cX1_credit : ByteArray := prog_3_method_16_code
def yX1_credit : MethodName := ⟨RX1, "credit", "()I"⟩
def RX2 : String := "HatCongress$Sheet"
def TX2 : u_T := fun k => match k with
  | 0 => ("HatCongress$Sheet", "numbers", "[J", true)
  | 1 => ("HatCongress$Sheet", "bits", "I", false)
  | _ => ("HatCongress$Sheet", "length", "I", false)
def tyX2 : Nat → FieldType := fun k => match k with
  | 0 => .array .long
  | 1 => .int
  | _ => .int
abbrev wsX20 : List Cond := u_ws RX2 TX2 3
theorem nmX2 : ∀ a, a < 3 → ∀ b, b < 3 → a ≠ b → (TX2 a).2.1 ≠ (TX2 b).2.1 := by decide +kernel
theorem tyX2_ok : ∀ k, k < 3 → parseFieldDescriptor (TX2 k).2.2.1 = some (tyX2 k) := by decide +kernel
abbrev cX2_init : ByteArray := prog_4_method_1_code
def yX2_init : MethodName := ⟨RX2, "<init>", "()V"⟩
abbrev cX2_mayHave : ByteArray := prog_4_method_2_code
def yX2_mayHave : MethodName := ⟨RX2, "mayHave", "(I)Z"⟩
abbrev cX2_isMissing : ByteArray := prog_4_method_3_code
def yX2_isMissing : MethodName := ⟨RX2, "isMissing", "()Z"⟩
abbrev cX2_begin : ByteArray := prog_4_method_4_code
def yX2_begin : MethodName := ⟨RX2, "begin", "(II)V"⟩
abbrev cX2_put : ByteArray := prog_4_method_5_code
def yX2_put : MethodName := ⟨RX2, "put", "(IJ)V"⟩
abbrev cX2_hasRun : ByteArray := prog_4_method_6_code
def yX2_hasRun : MethodName := ⟨RX2, "hasRun", "(II)Z"⟩
def RX3 : String := "HatCongress$Table"
def TX3 : u_T := fun k => match k with
  | 0 => ("HatCongress$Table", "session", "I", false)
  | 1 => ("HatCongress$Table", "truth", "I", false)
  | 2 => ("HatCongress$Table", "held", "I", false)
  | 3 => ("HatCongress$Table", "hats", "I", false)
  | 4 => ("HatCongress$Table", "seats", "[LHatCongress$Delegate;", true)
  | 5 => ("HatCongress$Table", "yes", "I", false)
  | _ => ("HatCongress$Table", "no", "I", false)
def tyX3 : Nat → FieldType := fun k => match k with
  | 0 => .int
  | 1 => .int
  | 2 => .int
  | 3 => .int
  | 4 => .array (.object "HatCongress$Delegate")
  | 5 => .int
  | _ => .int
abbrev wsX30 : List Cond := u_ws RX3 TX3 7
theorem nmX3 : ∀ a, a < 7 → ∀ b, b < 7 → a ≠ b → (TX3 a).2.1 ≠ (TX3 b).2.1 := by decide +kernel
theorem tyX3_ok : ∀ k, k < 7 → parseFieldDescriptor (TX3 k).2.2.1 = some (tyX3 k) := by decide +kernel
abbrev cX3_init : ByteArray := prog_5_method_1_code
def yX3_init : MethodName := ⟨RX3, "<init>", "()V"⟩
abbrev cX3_become : ByteArray := prog_5_method_2_code
def yX3_become : MethodName := ⟨RX3, "become", "(LHatCongress$Table;)V"⟩
abbrev cX3_has : ByteArray := prog_5_method_3_code
def yX3_has : MethodName := ⟨RX3, "has", "(I)Z"⟩
abbrev cX3_isFull : ByteArray := prog_5_method_4_code
def yX3_isFull : MethodName := ⟨RX3, "isFull", "()Z"⟩
abbrev cX3_add : ByteArray := prog_5_method_5_code
def yX3_add : MethodName := ⟨RX3, "add", "(II)V"⟩
abbrev cX3_question : ByteArray := prog_5_method_6_code
def yX3_question : MethodName := ⟨RX3, "question", "()I"⟩
abbrev cX3_trueOnes : ByteArray := prog_5_method_7_code
def yX3_trueOnes : MethodName := ⟨RX3, "trueOnes", "()I"⟩
abbrev cX3_hatsOn : ByteArray := prog_5_method_8_code
def yX3_hatsOn : MethodName := ⟨RX3, "hatsOn", "()I"⟩
abbrev cX3_sum : ByteArray := prog_5_method_9_code
def yX3_sum : MethodName := ⟨RX3, "sum", "(I)I"⟩
abbrev cX3_word : ByteArray := prog_5_method_10_code
def yX3_word : MethodName := ⟨RX3, "word", "(I)I"⟩
abbrev cX3_ask : ByteArray := prog_5_method_11_code
def yX3_ask : MethodName := ⟨RX3, "ask", "()V"⟩
abbrev cX3_verdict : ByteArray := prog_5_method_12_code
def yX3_verdict : MethodName := ⟨RX3, "verdict", "()I"⟩
abbrev cX3_go : ByteArray := prog_5_method_13_code
def yX3_go : MethodName := ⟨RX3, "go", "(I)V"⟩
abbrev cX3_judge : ByteArray := prog_5_method_14_code
def yX3_judge : MethodName := ⟨RX3, "judge", "(LHatCongress$Delegate;I)V"⟩
def RX4 : String := "HatCongress$Tape"
def TX4 : u_T := fun k => match k with
  | 0 => ("HatCongress$Tape", "bytes", "[I", true)
  | _ => ("HatCongress$Tape", "length", "I", false)
def tyX4 : Nat → FieldType := fun k => match k with
  | 0 => .array .int
  | _ => .int
abbrev wsX40 : List Cond := u_ws RX4 TX4 2
theorem nmX4 : ∀ a, a < 2 → ∀ b, b < 2 → a ≠ b → (TX4 a).2.1 ≠ (TX4 b).2.1 := by decide +kernel
theorem tyX4_ok : ∀ k, k < 2 → parseFieldDescriptor (TX4 k).2.2.1 = some (tyX4 k) := by decide +kernel
abbrev cX4_init : ByteArray := prog_6_method_1_code
def yX4_init : MethodName := ⟨RX4, "<init>", "()V"⟩
abbrev cX4_add : ByteArray := prog_6_method_2_code
def yX4_add : MethodName := ⟨RX4, "add", "(I)V"⟩
abbrev cX4_isAt : ByteArray := prog_6_method_3_code
def yX4_isAt : MethodName := ⟨RX4, "isAt", "(III)Z"⟩
abbrev cX4_endOfRun : ByteArray := prog_6_method_4_code
def yX4_endOfRun : MethodName := ⟨RX4, "endOfRun", "(III)I"⟩
def RX5 : String := "HatCongress"
def TX5 : u_T := fun k => match k with
  | 0 => ("HatCongress", "table", "LHatCongress$Table;", true)
  | 1 => ("HatCongress", "ahead", "LHatCongress$Table;", true)
  | 2 => ("HatCongress", "image", "LHatCongress$Table;", true)
  | 3 => ("HatCongress", "imageKept", "Z", false)
  | 4 => ("HatCongress", "tape", "LHatCongress$Tape;", true)
  | 5 => ("HatCongress", "clerk", "LHatCongress$Clerk;", true)
  | 6 => ("HatCongress", "sheets", "[LHatCongress$Sheet;", true)
  | _ => ("HatCongress", "found", "[I", true)
def tyX5 : Nat → FieldType := fun k => match k with
  | 0 => .object "HatCongress$Table"
  | 1 => .object "HatCongress$Table"
  | 2 => .object "HatCongress$Table"
  | 3 => .boolean
  | 4 => .object "HatCongress$Tape"
  | 5 => .object "HatCongress$Clerk"
  | 6 => .array (.object "HatCongress$Sheet")
  | _ => .array .int
abbrev wsX50 : List Cond := u_ws RX5 TX5 8
theorem nmX5 : ∀ a, a < 8 → ∀ b, b < 8 → a ≠ b → (TX5 a).2.1 ≠ (TX5 b).2.1 := by decide +kernel
theorem tyX5_ok : ∀ k, k < 8 → parseFieldDescriptor (TX5 k).2.2.1 = some (tyX5 k) := by decide +kernel
abbrev cX5_init : ByteArray := prog_1_method_1_code
def yX5_init : MethodName := ⟨RX5, "<init>", "()V"⟩
abbrev cX5_holds : ByteArray := prog_1_method_2_code
def yX5_holds : MethodName := ⟨RX5, "holds", "(II)I"⟩
abbrev cX5_now : ByteArray := prog_1_method_3_code
def yX5_now : MethodName := ⟨RX5, "now", "(I)I"⟩
abbrev cX5_hat : ByteArray := prog_1_method_4_code
def yX5_hat : MethodName := ⟨RX5, "hat", "(II)I"⟩
abbrev cX5_of : ByteArray := prog_1_method_5_code
def yX5_of : MethodName := ⟨RX5, "of", "(II)I"⟩
abbrev cX5_says : ByteArray := prog_1_method_6_code
def yX5_says : MethodName := ⟨RX5, "says", "(II)I"⟩
abbrev cX5_set : ByteArray := prog_1_method_7_code
def yX5_set : MethodName := ⟨RX5, "set", "(III)I"⟩
abbrev cX5_turn : ByteArray := prog_1_method_8_code
def yX5_turn : MethodName := ⟨RX5, "turn", "(II)I"⟩
abbrev cX5_as : ByteArray := prog_1_method_9_code
def yX5_as : MethodName := ⟨RX5, "as", "(II)I"⟩
abbrev cX5_sessions : ByteArray := prog_1_method_10_code
def yX5_sessions : MethodName := ⟨RX5, "sessions", "(I)I"⟩
abbrev cX5_on : ByteArray := prog_1_method_11_code
def yX5_on : MethodName := ⟨RX5, "on", "(III)I"⟩
abbrev cX5_then : ByteArray := prog_1_method_12_code
def yX5_then : MethodName := ⟨RX5, "then", "(II)I"⟩
abbrev cX5_comes : ByteArray := prog_1_method_13_code
def yX5_comes : MethodName := ⟨RX5, "comes", "(II)I"⟩
abbrev cX5_wise : ByteArray := prog_1_method_14_code
def yX5_wise : MethodName := ⟨RX5, "wise", "()I"⟩
abbrev cX5_errs : ByteArray := prog_1_method_15_code
def yX5_errs : MethodName := ⟨RX5, "errs", "(I)I"⟩
abbrev cX5_lift : ByteArray := prog_1_method_16_code
def yX5_lift : MethodName := ⟨RX5, "lift", "(I)I"⟩
abbrev cX5_kind : ByteArray := prog_1_method_17_code
def yX5_kind : MethodName := ⟨RX5, "kind", "(II)I"⟩
abbrev cX5_view : ByteArray := prog_1_method_18_code
def yX5_view : MethodName := ⟨RX5, "view", "(II)I"⟩
abbrev cX5_faith : ByteArray := prog_1_method_19_code
def yX5_faith : MethodName := ⟨RX5, "faith", "(III)I"⟩
abbrev cX5_swing : ByteArray := prog_1_method_20_code
def yX5_swing : MethodName := ⟨RX5, "swing", "()I"⟩
abbrev cX5_revise : ByteArray := prog_1_method_21_code
def yX5_revise : MethodName := ⟨RX5, "revise", "(I)I"⟩
abbrev cX5_best : ByteArray := prog_1_method_22_code
def yX5_best : MethodName := ⟨RX5, "best", "(I)I"⟩
abbrev cX5_feed : ByteArray := prog_1_method_23_code
def yX5_feed : MethodName := ⟨RX5, "feed", "(II)I"⟩
abbrev cX5_wipe : ByteArray := prog_1_method_24_code
def yX5_wipe : MethodName := ⟨RX5, "wipe", "()I"⟩
abbrev cX5_lobby : ByteArray := prog_1_method_25_code
def yX5_lobby : MethodName := ⟨RX5, "lobby", "()I"⟩
abbrev cX5_sheet : ByteArray := prog_1_method_26_code
def yX5_sheet : MethodName := ⟨RX5, "sheet", "(III)I"⟩
abbrev cX5_write : ByteArray := prog_1_method_27_code
def yX5_write : MethodName := ⟨RX5, "write", "(IIJ)J"⟩
abbrev cX5_copy : ByteArray := prog_1_method_28_code
def yX5_copy : MethodName := ⟨RX5, "copy", "(IIIII)I"⟩
abbrev cX5_lays : ByteArray := prog_1_method_29_code
def yX5_lays : MethodName := ⟨RX5, "lays", "(I)I"⟩
abbrev cX5_book : ByteArray := prog_1_method_30_code
def yX5_book : MethodName := ⟨RX5, "book", "(II)I"⟩
abbrev cX5_read : ByteArray := prog_1_method_31_code
def yX5_read : MethodName := ⟨RX5, "read", "(II)I"⟩
abbrev cX5_image : ByteArray := prog_1_method_32_code
def yX5_image : MethodName := ⟨RX5, "image", "()I"⟩
abbrev cX5_undo : ByteArray := prog_1_method_33_code
def yX5_undo : MethodName := ⟨RX5, "undo", "()I"⟩
abbrev cX5_tear : ByteArray := prog_1_method_34_code
def yX5_tear : MethodName := ⟨RX5, "tear", "()I"⟩
abbrev cX5_count : ByteArray := prog_1_method_35_code
def yX5_count : MethodName := ⟨RX5, "count", "(I)I"⟩
abbrev cX5_status : ByteArray := prog_1_method_36_code
def yX5_status : MethodName := ⟨RX5, "status", "(I)I"⟩
abbrev cX5_outside : ByteArray := prog_1_method_37_code
def yX5_outside : MethodName := ⟨RX5, "outside", "(III)Z"⟩
abbrev cX5_bit : ByteArray := prog_1_method_38_code
def yX5_bit : MethodName := ⟨RX5, "bit", "(II)I"⟩
abbrev cX5_noSheet : ByteArray := prog_1_method_39_code
def yX5_noSheet : MethodName := ⟨RX5, "noSheet", "(I)Z"⟩
abbrev cX5_finding : ByteArray := prog_1_method_40_code
def yX5_finding : MethodName := ⟨RX5, "finding", "(I)I"⟩
abbrev cX5_lookAhead : ByteArray := prog_1_method_41_code
def yX5_lookAhead : MethodName := ⟨RX5, "lookAhead", "(I)V"⟩
abbrev cX5_saysJustSo : ByteArray := prog_1_method_42_code
def yX5_saysJustSo : MethodName := ⟨RX5, "saysJustSo", "(LHatCongress$Sheet;I)Z"⟩
def RX6 : String := "HatCongressModel"
def TX6 : u_T := fun k => match k with
  | 0 => ("HatCongressModel", "m", "[I", true)
  | 1 => ("HatCongressModel", "kept", "[I", true)
  | 2 => ("HatCongressModel", "was", "[I", true)
  | 3 => ("HatCongressModel", "isKept", "Z", false)
  | 4 => ("HatCongressModel", "found", "[I", true)
  | 5 => ("HatCongressModel", "said", "[I", true)
  | 6 => ("HatCongressModel", "tape", "[I", true)
  | 7 => ("HatCongressModel", "taped", "I", false)
  | 8 => ("HatCongressModel", "token", "I", false)
  | 9 => ("HatCongressModel", "begin", "I", false)
  | 10 => ("HatCongressModel", "at", "I", false)
  | 11 => ("HatCongressModel", "value", "I", false)
  | 12 => ("HatCongressModel", "bad", "Z", false)
  | 13 => ("HatCongressModel", "bitsOf", "[I", true)
  | 14 => ("HatCongressModel", "sizeOf", "[I", true)
  | _ => ("HatCongressModel", "cells", "[J", true)
def tyX6 : Nat → FieldType := fun k => match k with
  | 0 => .array .int
  | 1 => .array .int
  | 2 => .array .int
  | 3 => .boolean
  | 4 => .array .int
  | 5 => .array .int
  | 6 => .array .int
  | 7 => .int
  | 8 => .int
  | 9 => .int
  | 10 => .int
  | 11 => .int
  | 12 => .boolean
  | 13 => .array .int
  | 14 => .array .int
  | _ => .array .long
abbrev wsX60 : List Cond := u_ws RX6 TX6 16
theorem nmX6 : ∀ a, a < 16 → ∀ b, b < 16 → a ≠ b → (TX6 a).2.1 ≠ (TX6 b).2.1 := by decide +kernel
theorem tyX6_ok : ∀ k, k < 16 → parseFieldDescriptor (TX6 k).2.2.1 = some (tyX6 k) := by decide +kernel
abbrev cX6_init : ByteArray := prog_8_method_1_code
def yX6_init : MethodName := ⟨RX6, "<init>", "()V"⟩
abbrev cX6_finds : ByteArray := prog_8_method_2_code
def yX6_finds : MethodName := ⟨RX6, "finds", "(I)I"⟩
abbrev cX6_orNone : ByteArray := prog_8_method_3_code
def yX6_orNone : MethodName := ⟨RX6, "orNone", "(I)I"⟩
abbrev cX6_in : ByteArray := prog_8_method_4_code
def yX6_in : MethodName := ⟨RX6, "in", "(JII)Z"⟩
abbrev cX6_held : ByteArray := prog_8_method_5_code
def yX6_held : MethodName := ⟨RX6, "held", "(III)I"⟩
abbrev cX6_copyAll : ByteArray := prog_8_method_6_code
def yX6_copyAll : MethodName := ⟨RX6, "copyAll", "([I[I)V"⟩
abbrev cX6_bits : ByteArray := prog_8_method_7_code
def yX6_bits : MethodName := ⟨RX6, "bits", "(I)I"⟩
abbrev cX6_becomes : ByteArray := prog_8_method_8_code
def yX6_becomes : MethodName := ⟨RX6, "becomes", "(II)I"⟩
abbrev cX6_isHat : ByteArray := prog_8_method_9_code
def yX6_isHat : MethodName := ⟨RX6, "isHat", "(I)Z"⟩
abbrev cX6_it : ByteArray := prog_8_method_10_code
def yX6_it : MethodName := ⟨RX6, "it", "(II)I"⟩
abbrev cX6_put : ByteArray := prog_8_method_11_code
def yX6_put : MethodName := ⟨RX6, "put", "(III)V"⟩
abbrev cX6_asked : ByteArray := prog_8_method_12_code
def yX6_asked : MethodName := ⟨RX6, "asked", "()I"⟩
abbrev cX6_saysTo : ByteArray := prog_8_method_13_code
def yX6_saysTo : MethodName := ⟨RX6, "saysTo", "(II)I"⟩
abbrev cX6_weighs : ByteArray := prog_8_method_14_code
def yX6_weighs : MethodName := ⟨RX6, "weighs", "(I)I"⟩
abbrev cX6_doesLearn : ByteArray := prog_8_method_15_code
def yX6_doesLearn : MethodName := ⟨RX6, "doesLearn", "(I)Z"⟩
abbrev cX6_stirs : ByteArray := prog_8_method_16_code
def yX6_stirs : MethodName := ⟨RX6, "stirs", "(I)I"⟩
abbrev cX6_holds : ByteArray := prog_8_method_17_code
def yX6_holds : MethodName := ⟨RX6, "holds", "(II)I"⟩
abbrev cX6_weight : ByteArray := prog_8_method_18_code
def yX6_weight : MethodName := ⟨RX6, "weight", "(II)I"⟩
abbrev cX6_onTable : ByteArray := prog_8_method_19_code
def yX6_onTable : MethodName := ⟨RX6, "onTable", "()I"⟩
abbrev cX6_trueOnes : ByteArray := prog_8_method_20_code
def yX6_trueOnes : MethodName := ⟨RX6, "trueOnes", "()I"⟩
abbrev cX6_now : ByteArray := prog_8_method_21_code
def yX6_now : MethodName := ⟨RX6, "now", "(I)I"⟩
abbrev cX6_comesAs : ByteArray := prog_8_method_22_code
def yX6_comesAs : MethodName := ⟨RX6, "comesAs", "(IIII)I"⟩
abbrev cX6_hat : ByteArray := prog_8_method_23_code
def yX6_hat : MethodName := ⟨RX6, "hat", "(II)I"⟩
abbrev cX6_of : ByteArray := prog_8_method_24_code
def yX6_of : MethodName := ⟨RX6, "of", "(II)I"⟩
abbrev cX6_says : ByteArray := prog_8_method_25_code
def yX6_says : MethodName := ⟨RX6, "says", "(II)I"⟩
abbrev cX6_mostOf : ByteArray := prog_8_method_26_code
def yX6_mostOf : MethodName := ⟨RX6, "mostOf", "(I)I"⟩
abbrev cX6_set : ByteArray := prog_8_method_27_code
def yX6_set : MethodName := ⟨RX6, "set", "(III)I"⟩
abbrev cX6_turn : ByteArray := prog_8_method_28_code
def yX6_turn : MethodName := ⟨RX6, "turn", "(II)I"⟩
abbrev cX6_as : ByteArray := prog_8_method_29_code
def yX6_as : MethodName := ⟨RX6, "as", "(II)I"⟩
abbrev cX6_withBit : ByteArray := prog_8_method_30_code
def yX6_withBit : MethodName := ⟨RX6, "withBit", "(III)I"⟩
abbrev cX6_isJudged : ByteArray := prog_8_method_31_code
def yX6_isJudged : MethodName := ⟨RX6, "isJudged", "(III)V"⟩
abbrev cX6_goes : ByteArray := prog_8_method_32_code
def yX6_goes : MethodName := ⟨RX6, "goes", "()V"⟩
abbrev cX6_goesFor : ByteArray := prog_8_method_33_code
def yX6_goesFor : MethodName := ⟨RX6, "goesFor", "(I)V"⟩
abbrev cX6_sessions : ByteArray := prog_8_method_34_code
def yX6_sessions : MethodName := ⟨RX6, "sessions", "(I)I"⟩
abbrev cX6_thinks : ByteArray := prog_8_method_35_code
def yX6_thinks : MethodName := ⟨RX6, "thinks", "()V"⟩
abbrev cX6_putsBack : ByteArray := prog_8_method_36_code
def yX6_putsBack : MethodName := ⟨RX6, "putsBack", "()V"⟩
abbrev cX6_on : ByteArray := prog_8_method_37_code
def yX6_on : MethodName := ⟨RX6, "on", "(III)I"⟩
abbrev cX6_then : ByteArray := prog_8_method_38_code
def yX6_then : MethodName := ⟨RX6, "then", "(II)I"⟩
abbrev cX6_comes : ByteArray := prog_8_method_39_code
def yX6_comes : MethodName := ⟨RX6, "comes", "(II)I"⟩
abbrev cX6_wise : ByteArray := prog_8_method_40_code
def yX6_wise : MethodName := ⟨RX6, "wise", "()I"⟩
abbrev cX6_errs : ByteArray := prog_8_method_41_code
def yX6_errs : MethodName := ⟨RX6, "errs", "(I)I"⟩
abbrev cX6_wiseOn : ByteArray := prog_8_method_42_code
def yX6_wiseOn : MethodName := ⟨RX6, "wiseOn", "(I)I"⟩
abbrev cX6_rightOn : ByteArray := prog_8_method_43_code
def yX6_rightOn : MethodName := ⟨RX6, "rightOn", "(II)I"⟩
abbrev cX6_lift : ByteArray := prog_8_method_44_code
def yX6_lift : MethodName := ⟨RX6, "lift", "(I)I"⟩
abbrev cX6_kind : ByteArray := prog_8_method_45_code
def yX6_kind : MethodName := ⟨RX6, "kind", "(II)I"⟩
abbrev cX6_view : ByteArray := prog_8_method_46_code
def yX6_view : MethodName := ⟨RX6, "view", "(II)I"⟩
abbrev cX6_faith : ByteArray := prog_8_method_47_code
def yX6_faith : MethodName := ⟨RX6, "faith", "(III)I"⟩
abbrev cX6_heldThen : ByteArray := prog_8_method_48_code
def yX6_heldThen : MethodName := ⟨RX6, "heldThen", "()I"⟩
abbrev cX6_swing : ByteArray := prog_8_method_49_code
def yX6_swing : MethodName := ⟨RX6, "swing", "()I"⟩
abbrev cX6_sums : ByteArray := prog_8_method_50_code
def yX6_sums : MethodName := ⟨RX6, "sums", "(I)I"⟩
abbrev cX6_revise : ByteArray := prog_8_method_51_code
def yX6_revise : MethodName := ⟨RX6, "revise", "(I)I"⟩
abbrev cX6_merit : ByteArray := prog_8_method_52_code
def yX6_merit : MethodName := ⟨RX6, "merit", "(I)I"⟩
abbrev cX6_best : ByteArray := prog_8_method_53_code
def yX6_best : MethodName := ⟨RX6, "best", "(I)I"⟩
abbrev cX6_feed : ByteArray := prog_8_method_54_code
def yX6_feed : MethodName := ⟨RX6, "feed", "(II)I"⟩
abbrev cX6_wipe : ByteArray := prog_8_method_55_code
def yX6_wipe : MethodName := ⟨RX6, "wipe", "()I"⟩
abbrev cX6_isByte : ByteArray := prog_8_method_56_code
def yX6_isByte : MethodName := ⟨RX6, "isByte", "(III)Z"⟩
abbrev cX6_isName : ByteArray := prog_8_method_57_code
def yX6_isName : MethodName := ⟨RX6, "isName", "(II)Z"⟩
abbrev cX6_wordHere : ByteArray := prog_8_method_58_code
def yX6_wordHere : MethodName := ⟨RX6, "wordHere", "()I"⟩
abbrev cX6_reads : ByteArray := prog_8_method_59_code
def yX6_reads : MethodName := ⟨RX6, "reads", "()V"⟩
abbrev cX6_passes : ByteArray := prog_8_method_60_code
def yX6_passes : MethodName := ⟨RX6, "passes", "(I)Z"⟩
abbrev cX6_number : ByteArray := prog_8_method_61_code
def yX6_number : MethodName := ⟨RX6, "number", "(II)I"⟩
abbrev cX6_perhaps : ByteArray := prog_8_method_62_code
def yX6_perhaps : MethodName := ⟨RX6, "perhaps", "(IIII)I"⟩
abbrev cX6_hatItem : ByteArray := prog_8_method_63_code
def yX6_hatItem : MethodName := ⟨RX6, "hatItem", "()V"⟩
abbrev cX6_holdsItem : ByteArray := prog_8_method_64_code
def yX6_holdsItem : MethodName := ⟨RX6, "holdsItem", "()V"⟩
abbrev cX6_item : ByteArray := prog_8_method_65_code
def yX6_item : MethodName := ⟨RX6, "item", "()V"⟩
abbrev cX6_lobby : ByteArray := prog_8_method_66_code
def yX6_lobby : MethodName := ⟨RX6, "lobby", "()I"⟩
abbrev cX6_isSheet : ByteArray := prog_8_method_67_code
def yX6_isSheet : MethodName := ⟨RX6, "isSheet", "(I)Z"⟩
abbrev cX6_sheet : ByteArray := prog_8_method_68_code
def yX6_sheet : MethodName := ⟨RX6, "sheet", "(III)I"⟩
abbrev cX6_notThere : ByteArray := prog_8_method_69_code
def yX6_notThere : MethodName := ⟨RX6, "notThere", "(I)I"⟩
abbrev cX6_cutTo : ByteArray := prog_8_method_70_code
def yX6_cutTo : MethodName := ⟨RX6, "cutTo", "(IJ)J"⟩
abbrev cX6_write : ByteArray := prog_8_method_71_code
def yX6_write : MethodName := ⟨RX6, "write", "(IIJ)J"⟩
abbrev cX6_notCopied : ByteArray := prog_8_method_72_code
def yX6_notCopied : MethodName := ⟨RX6, "notCopied", "(IIIII)I"⟩
abbrev cX6_copy : ByteArray := prog_8_method_73_code
def yX6_copy : MethodName := ⟨RX6, "copy", "(IIIII)I"⟩
abbrev cX6_lays : ByteArray := prog_8_method_74_code
def yX6_lays : MethodName := ⟨RX6, "lays", "(I)I"⟩
abbrev cX6_notAsked : ByteArray := prog_8_method_75_code
def yX6_notAsked : MethodName := ⟨RX6, "notAsked", "(II)I"⟩
abbrev cX6_book : ByteArray := prog_8_method_76_code
def yX6_book : MethodName := ⟨RX6, "book", "(II)I"⟩
abbrev cX6_isBook : ByteArray := prog_8_method_77_code
def yX6_isBook : MethodName := ⟨RX6, "isBook", "(II)Z"⟩
abbrev cX6_read : ByteArray := prog_8_method_78_code
def yX6_read : MethodName := ⟨RX6, "read", "(II)I"⟩
abbrev cX6_image : ByteArray := prog_8_method_79_code
def yX6_image : MethodName := ⟨RX6, "image", "()I"⟩
abbrev cX6_undo : ByteArray := prog_8_method_80_code
def yX6_undo : MethodName := ⟨RX6, "undo", "()I"⟩
abbrev cX6_tear : ByteArray := prog_8_method_81_code
def yX6_tear : MethodName := ⟨RX6, "tear", "()I"⟩
abbrev cX6_count : ByteArray := prog_8_method_82_code
def yX6_count : MethodName := ⟨RX6, "count", "(I)I"⟩
abbrev cX6_status : ByteArray := prog_8_method_83_code
def yX6_status : MethodName := ⟨RX6, "status", "(I)I"⟩
def RJx145de : String := "java/io/Serializable"
def TJx145de : u_T := fun k => match k with
  | _ => ("", "", "", false)
def tyJx145de : Nat → FieldType := fun k => match k with
  | _ => .int
abbrev wsJx145de0 : List Cond := u_ws RJx145de TJx145de 0
theorem nmJx145de : ∀ a, a < 0 → ∀ b, b < 0 → a ≠ b → (TJx145de a).2.1 ≠ (TJx145de b).2.1 := by decide +kernel
theorem tyJx145de_ok : ∀ k, k < 0 → parseFieldDescriptor (TJx145de k).2.2.1 = some (tyJx145de k) := by decide +kernel
def RJx9f9b0 : String := "java/lang/CharSequence"
def TJx9f9b0 : u_T := fun k => match k with
  | _ => ("", "", "", false)
def tyJx9f9b0 : Nat → FieldType := fun k => match k with
  | _ => .int
abbrev wsJx9f9b00 : List Cond := u_ws RJx9f9b0 TJx9f9b0 0
theorem nmJx9f9b0 : ∀ a, a < 0 → ∀ b, b < 0 → a ≠ b → (TJx9f9b0 a).2.1 ≠ (TJx9f9b0 b).2.1 := by decide +kernel
theorem tyJx9f9b0_ok : ∀ k, k < 0 → parseFieldDescriptor (TJx9f9b0 k).2.2.1 = some (tyJx9f9b0 k) := by decide +kernel
def RJxb160c : String := "java/lang/Comparable"
def TJxb160c : u_T := fun k => match k with
  | _ => ("", "", "", false)
def tyJxb160c : Nat → FieldType := fun k => match k with
  | _ => .int
abbrev wsJxb160c0 : List Cond := u_ws RJxb160c TJxb160c 0
theorem nmJxb160c : ∀ a, a < 0 → ∀ b, b < 0 → a ≠ b → (TJxb160c a).2.1 ≠ (TJxb160c b).2.1 := by decide +kernel
theorem tyJxb160c_ok : ∀ k, k < 0 → parseFieldDescriptor (TJxb160c k).2.2.1 = some (tyJxb160c k) := by decide +kernel
def RJ6 : String := "java/lang/Integer"
def TJ6 : u_T := fun k => match k with
  | _ => ("", "", "", false)
def tyJ6 : Nat → FieldType := fun k => match k with
  | _ => .int
abbrev wsJ60 : List Cond := u_ws RJ6 TJ6 0
theorem nmJ6 : ∀ a, a < 0 → ∀ b, b < 0 → a ≠ b → (TJ6 a).2.1 ≠ (TJ6 b).2.1 := by decide +kernel
theorem tyJ6_ok : ∀ k, k < 0 → parseFieldDescriptor (TJ6 k).2.2.1 = some (tyJ6 k) := by decide +kernel
abbrev cJ6_bitCount_0f7a4 : ByteArray := prog_9_method_49_code
def yJ6_bitCount_0f7a4 : MethodName := ⟨RJ6, "bitCount", "(I)I"⟩
def RJ9 : String := "java/lang/Math"
def TJ9 : u_T := fun k => match k with
  | _ => ("", "", "", false)
def tyJ9 : Nat → FieldType := fun k => match k with
  | _ => .int
abbrev wsJ90 : List Cond := u_ws RJ9 TJ9 0
theorem nmJ9 : ∀ a, a < 0 → ∀ b, b < 0 → a ≠ b → (TJ9 a).2.1 ≠ (TJ9 b).2.1 := by decide +kernel
theorem tyJ9_ok : ∀ k, k < 0 → parseFieldDescriptor (TJ9 k).2.2.1 = some (tyJ9 k) := by decide +kernel
abbrev cJ9_max_7cf53 : ByteArray := prog_10_method_65_code
def yJ9_max_7cf53 : MethodName := ⟨RJ9, "max", "(II)I"⟩
abbrev cJ9_min_7cf53 : ByteArray := prog_10_method_69_code
def yJ9_min_7cf53 : MethodName := ⟨RJ9, "min", "(II)I"⟩
def RJ0 : String := "java/lang/String"
def TJ0 : u_T := fun k => match k with
  | _ => ("", "", "", false)
def tyJ0 : Nat → FieldType := fun k => match k with
  | _ => .int
abbrev wsJ00 : List Cond := u_ws RJ0 TJ0 0
theorem nmJ0 : ∀ a, a < 0 → ∀ b, b < 0 → a ≠ b → (TJ0 a).2.1 ≠ (TJ0 b).2.1 := by decide +kernel
theorem tyJ0_ok : ∀ k, k < 0 → parseFieldDescriptor (TJ0 k).2.2.1 = some (tyJ0 k) := by decide +kernel
abbrev cJ0_length_8abf5 : ByteArray := prog_11_method_54_code
def yJ0_length_8abf5 : MethodName := ⟨RJ0, "length", "()I"⟩
abbrev cJ0_charAt_5068e : ByteArray := prog_11_method_56_code
def yJ0_charAt_5068e : MethodName := ⟨RJ0, "charAt", "(I)C"⟩
abbrev cJ0_coder_7d493 : ByteArray := prog_11_method_152_code
def yJ0_coder_7d493 : MethodName := ⟨RJ0, "coder", "()B"⟩
abbrev cJ0_isLatin1_aae02 : ByteArray := prog_11_method_154_code
def yJ0_isLatin1_aae02 : MethodName := ⟨RJ0, "isLatin1", "()Z"⟩
abbrev cJ0_checkIndex_df160 : ByteArray := prog_11_method_155_code
def yJ0_checkIndex_df160 : MethodName := ⟨RJ0, "checkIndex", "(II)V"⟩
def RJ1 : String := "java/lang/StringLatin1"
def TJ1 : u_T := fun k => match k with
  | _ => ("", "", "", false)
def tyJ1 : Nat → FieldType := fun k => match k with
  | _ => .int
abbrev wsJ10 : List Cond := u_ws RJ1 TJ1 0
theorem nmJ1 : ∀ a, a < 0 → ∀ b, b < 0 → a ≠ b → (TJ1 a).2.1 ≠ (TJ1 b).2.1 := by decide +kernel
theorem tyJ1_ok : ∀ k, k < 0 → parseFieldDescriptor (TJ1 k).2.2.1 = some (tyJ1 k) := by decide +kernel
abbrev cJ1_charAt_3b067 : ByteArray := prog_12_method_2_code
def yJ1_charAt_3b067 : MethodName := ⟨RJ1, "charAt", "([BI)C"⟩
def RJ2 : String := "java/lang/StringUTF16"
def TJ2 : u_T := fun k => match k with
  | _ => ("", "", "", false)
def tyJ2 : Nat → FieldType := fun k => match k with
  | _ => .int
abbrev wsJ20 : List Cond := u_ws RJ2 TJ2 0
theorem nmJ2 : ∀ a, a < 0 → ∀ b, b < 0 → a ≠ b → (TJ2 a).2.1 ≠ (TJ2 b).2.1 := by decide +kernel
theorem tyJ2_ok : ∀ k, k < 0 → parseFieldDescriptor (TJ2 k).2.2.1 = some (tyJ2 k) := by decide +kernel
abbrev cJ2_getChar_3b067 : ByteArray := prog_13_method_5_code
def yJ2_getChar_3b067 : MethodName := ⟨RJ2, "getChar", "([BI)C"⟩
abbrev cJ2_length_9d52b : ByteArray := prog_13_method_6_code
def yJ2_length_9d52b : MethodName := ⟨RJ2, "length", "([B)I"⟩
abbrev cJ2_charAt_3b067 : ByteArray := prog_13_method_83_code
def yJ2_charAt_3b067 : MethodName := ⟨RJ2, "charAt", "([BI)C"⟩
abbrev cJ2_checkIndex_2214a : ByteArray := prog_13_method_91_code
def yJ2_checkIndex_2214a : MethodName := ⟨RJ2, "checkIndex", "(I[B)V"⟩
def RJ10 : String := "java/lang/System"
def TJ10 : u_T := fun k => match k with
  | _ => ("", "", "", false)
def tyJ10 : Nat → FieldType := fun k => match k with
  | _ => .int
abbrev wsJ100 : List Cond := u_ws RJ10 TJ10 0
theorem nmJ10 : ∀ a, a < 0 → ∀ b, b < 0 → a ≠ b → (TJ10 a).2.1 ≠ (TJ10 b).2.1 := by decide +kernel
theorem tyJ10_ok : ∀ k, k < 0 → parseFieldDescriptor (TJ10 k).2.2.1 = some (tyJ10 k) := by decide +kernel
def RJxfd54e : String := "java/lang/constant/Constable"
def TJxfd54e : u_T := fun k => match k with
  | _ => ("", "", "", false)
def tyJxfd54e : Nat → FieldType := fun k => match k with
  | _ => .int
abbrev wsJxfd54e0 : List Cond := u_ws RJxfd54e TJxfd54e 0
theorem nmJxfd54e : ∀ a, a < 0 → ∀ b, b < 0 → a ≠ b → (TJxfd54e a).2.1 ≠ (TJxfd54e b).2.1 := by decide +kernel
theorem tyJxfd54e_ok : ∀ k, k < 0 → parseFieldDescriptor (TJxfd54e k).2.2.1 = some (tyJxfd54e k) := by decide +kernel
def RJx3cf43 : String := "java/lang/constant/ConstantDesc"
def TJx3cf43 : u_T := fun k => match k with
  | _ => ("", "", "", false)
def tyJx3cf43 : Nat → FieldType := fun k => match k with
  | _ => .int
abbrev wsJx3cf430 : List Cond := u_ws RJx3cf43 TJx3cf43 0
theorem nmJx3cf43 : ∀ a, a < 0 → ∀ b, b < 0 → a ≠ b → (TJx3cf43 a).2.1 ≠ (TJx3cf43 b).2.1 := by decide +kernel
theorem tyJx3cf43_ok : ∀ k, k < 0 → parseFieldDescriptor (TJx3cf43 k).2.2.1 = some (tyJx3cf43 k) := by decide +kernel
def RJ7 : String := "java/util/Arrays"
def TJ7 : u_T := fun k => match k with
  | _ => ("", "", "", false)
def tyJ7 : Nat → FieldType := fun k => match k with
  | _ => .int
abbrev wsJ70 : List Cond := u_ws RJ7 TJ7 0
theorem nmJ7 : ∀ a, a < 0 → ∀ b, b < 0 → a ≠ b → (TJ7 a).2.1 ≠ (TJ7 b).2.1 := by decide +kernel
theorem tyJ7_ok : ∀ k, k < 0 → parseFieldDescriptor (TJ7 k).2.2.1 = some (tyJ7 k) := by decide +kernel
abbrev cJ7_fill_d0a16 : ByteArray := prog_15_method_101_code
def yJ7_fill_d0a16 : MethodName := ⟨RJ7, "fill", "([JJ)V"⟩
def RJ3 : String := "jdk/internal/util/Preconditions"
def TJ3 : u_T := fun k => match k with
  | _ => ("", "", "", false)
def tyJ3 : Nat → FieldType := fun k => match k with
  | _ => .int
abbrev wsJ30 : List Cond := u_ws RJ3 TJ3 0
theorem nmJ3 : ∀ a, a < 0 → ∀ b, b < 0 → a ≠ b → (TJ3 a).2.1 ≠ (TJ3 b).2.1 := by decide +kernel
theorem tyJ3_ok : ∀ k, k < 0 → parseFieldDescriptor (TJ3 k).2.2.1 = some (tyJ3 k) := by decide +kernel
abbrev cJ3_checkIndex_8e157 : ByteArray := prog_16_method_11_code
def yJ3_checkIndex_8e157 : MethodName := ⟨RJ3, "checkIndex", "(IILjava/util/function/BiFunction;)I"⟩
def RL : String := "HatCongressLaw"
abbrev cL_law : ByteArray := code
def yL_law : MethodName := ⟨RL, "law", "([I)Z"⟩
abbrev vwCl : List vw_C := [(RX0, TX0, 6), (RX1, TX1, 7), (RX2, TX2, 3), (RX3, TX3, 7), (RX4, TX4, 2), (RX5, TX5, 8), (RX6, TX6, 16)]
end
section
theorem dX0_init_0 : decode cX0_init 0 = .ok (.aload_n 0, 1) := by decide +kernel
theorem dX0_init_1 : decode cX0_init 1 = .ok (.invokespecial 3, 3) := by decide +kernel
theorem dX0_init_4 : decode cX0_init 4 = .ok (.aload_n 0, 1) := by decide +kernel
theorem dX0_init_5 : decode cX0_init 5 = .ok (.aload_n 1, 1) := by decide +kernel
theorem dX0_init_6 : decode cX0_init 6 = .ok (.putfield 9, 3) := by decide +kernel
theorem dX0_init_9 : decode cX0_init 9 = .ok (.aload_n 0, 1) := by decide +kernel
theorem dX0_init_10 : decode cX0_init 10 = .ok (.aload_n 2, 1) := by decide +kernel
theorem dX0_init_11 : decode cX0_init 11 = .ok (.putfield 15, 3) := by decide +kernel
theorem dX0_init_14 : decode cX0_init 14 = .ok (.return_, 1) := by decide +kernel
theorem dX0_takeDown_0 : decode cX0_takeDown 0 = .ok (.aload_n 0, 1) := by decide +kernel
theorem dX0_takeDown_1 : decode cX0_takeDown 1 = .ok (.iconst 0, 1) := by decide +kernel
theorem dX0_takeDown_2 : decode cX0_takeDown 2 = .ok (.putfield 19, 3) := by decide +kernel
theorem dX0_takeDown_5 : decode cX0_takeDown 5 = .ok (.iconst 1, 1) := by decide +kernel
theorem dX0_takeDown_6 : decode cX0_takeDown 6 = .ok (.istore_n 1, 1) := by decide +kernel
theorem dX0_takeDown_7 : decode cX0_takeDown 7 = .ok (.iload_n 1, 1) := by decide +kernel
theorem dX0_takeDown_8 : decode cX0_takeDown 8 = .ok (.bipush 120, 2) := by decide +kernel
theorem dX0_takeDown_10 : decode cX0_takeDown 10 = .ok (.if_icmp .gt 51, 3) := by decide +kernel
theorem dX0_takeDown_13 : decode cX0_takeDown 13 = .ok (.aload_n 0, 1) := by decide +kernel
theorem dX0_takeDown_14 : decode cX0_takeDown 14 = .ok (.invokevirtual 23, 3) := by decide +kernel
theorem dX0_takeDown_17 : decode cX0_takeDown 17 = .ok (.aload_n 0, 1) := by decide +kernel
theorem dX0_takeDown_18 : decode cX0_takeDown 18 = .ok (.invokevirtual 26, 3) := by decide +kernel
theorem dX0_takeDown_21 : decode cX0_takeDown 21 = .ok (.ifCond .ne 10, 3) := by decide +kernel
theorem dX0_takeDown_24 : decode cX0_takeDown 24 = .ok (.iconst (-1), 1) := by decide +kernel
theorem dX0_takeDown_25 : decode cX0_takeDown 25 = .ok (.aload_n 0, 1) := by decide +kernel
theorem dX0_takeDown_26 : decode cX0_takeDown 26 = .ok (.getfield 30, 3) := by decide +kernel
theorem dX0_takeDown_29 : decode cX0_takeDown 29 = .ok (.isub, 1) := by decide +kernel
theorem dX0_takeDown_30 : decode cX0_takeDown 30 = .ok (.ireturn, 1) := by decide +kernel
theorem dX0_takeDown_31 : decode cX0_takeDown 31 = .ok (.aload_n 0, 1) := by decide +kernel
theorem dX0_takeDown_32 : decode cX0_takeDown 32 = .ok (.getfield 33, 3) := by decide +kernel
theorem dX0_takeDown_35 : decode cX0_takeDown 35 = .ok (.ifCond .ne 5, 3) := by decide +kernel
theorem dX0_takeDown_38 : decode cX0_takeDown 38 = .ok (.iload_n 1, 1) := by decide +kernel
theorem dX0_takeDown_39 : decode cX0_takeDown 39 = .ok (.ireturn, 1) := by decide +kernel
theorem dX0_takeDown_40 : decode cX0_takeDown 40 = .ok (.aload_n 0, 1) := by decide +kernel
theorem dX0_takeDown_41 : decode cX0_takeDown 41 = .ok (.getfield 33, 3) := by decide +kernel
theorem dX0_takeDown_44 : decode cX0_takeDown 44 = .ok (.iconst 3, 1) := by decide +kernel
theorem dX0_takeDown_45 : decode cX0_takeDown 45 = .ok (.if_icmp .eq 10, 3) := by decide +kernel
theorem dX0_takeDown_48 : decode cX0_takeDown 48 = .ok (.iconst (-1), 1) := by decide +kernel
theorem dX0_takeDown_49 : decode cX0_takeDown 49 = .ok (.aload_n 0, 1) := by decide +kernel
theorem dX0_takeDown_50 : decode cX0_takeDown 50 = .ok (.getfield 30, 3) := by decide +kernel
theorem dX0_takeDown_53 : decode cX0_takeDown 53 = .ok (.isub, 1) := by decide +kernel
theorem dX0_takeDown_54 : decode cX0_takeDown 54 = .ok (.ireturn, 1) := by decide +kernel
theorem dX0_takeDown_55 : decode cX0_takeDown 55 = .ok (.iinc 1 1, 3) := by decide +kernel
theorem dX0_takeDown_58 : decode cX0_takeDown 58 = .ok (.goto (-51), 3) := by decide +kernel
theorem dX0_takeDown_61 : decode cX0_takeDown 61 = .ok (.iconst (-1), 1) := by decide +kernel
theorem dX0_takeDown_62 : decode cX0_takeDown 62 = .ok (.aload_n 0, 1) := by decide +kernel
theorem dX0_takeDown_63 : decode cX0_takeDown 63 = .ok (.getfield 9, 3) := by decide +kernel
theorem dX0_takeDown_66 : decode cX0_takeDown 66 = .ok (.getfield 36, 3) := by decide +kernel
theorem dX0_takeDown_69 : decode cX0_takeDown 69 = .ok (.isub, 1) := by decide +kernel
theorem dX0_takeDown_70 : decode cX0_takeDown 70 = .ok (.ireturn, 1) := by decide +kernel
theorem dX0_item_0 : decode cX0_item 0 = .ok (.aload_n 0, 1) := by decide +kernel
theorem dX0_item_1 : decode cX0_item 1 = .ok (.invokevirtual 41, 3) := by decide +kernel
theorem dX0_item_4 : decode cX0_item 4 = .ok (.istore_n 1, 1) := by decide +kernel
theorem dX0_item_5 : decode cX0_item 5 = .ok (.iload_n 1, 1) := by decide +kernel
theorem dX0_item_6 : decode cX0_item 6 = .ok (.ifCond .lt 9, 3) := by decide +kernel
theorem dX0_item_9 : decode cX0_item 9 = .ok (.aload_n 0, 1) := by decide +kernel
theorem dX0_item_10 : decode cX0_item 10 = .ok (.iload_n 1, 1) := by decide +kernel
theorem dX0_item_11 : decode cX0_item 11 = .ok (.invokevirtual 45, 3) := by decide +kernel
theorem dX0_item_14 : decode cX0_item 14 = .ok (.ireturn, 1) := by decide +kernel
theorem dX0_item_15 : decode cX0_item 15 = .ok (.aload_n 0, 1) := by decide +kernel
theorem dX0_item_16 : decode cX0_item 16 = .ok (.ldc 49, 2) := by decide +kernel
theorem dX0_item_18 : decode cX0_item 18 = .ok (.invokevirtual 51, 3) := by decide +kernel
theorem dX0_item_21 : decode cX0_item 21 = .ok (.ifCond .eq 8, 3) := by decide +kernel
theorem dX0_item_24 : decode cX0_item 24 = .ok (.aload_n 0, 1) := by decide +kernel
theorem dX0_item_25 : decode cX0_item 25 = .ok (.invokevirtual 55, 3) := by decide +kernel
theorem dX0_item_28 : decode cX0_item 28 = .ok (.ireturn, 1) := by decide +kernel
theorem dX0_item_29 : decode cX0_item 29 = .ok (.aload_n 0, 1) := by decide +kernel
theorem dX0_item_30 : decode cX0_item 30 = .ok (.ldc 58, 2) := by decide +kernel
theorem dX0_item_32 : decode cX0_item 32 = .ok (.invokevirtual 51, 3) := by decide +kernel
theorem dX0_item_35 : decode cX0_item 35 = .ok (.ifCond .eq 8, 3) := by decide +kernel
theorem dX0_item_38 : decode cX0_item 38 = .ok (.aload_n 0, 1) := by decide +kernel
theorem dX0_item_39 : decode cX0_item 39 = .ok (.invokevirtual 60, 3) := by decide +kernel
theorem dX0_item_42 : decode cX0_item 42 = .ok (.ireturn, 1) := by decide +kernel
theorem dX0_item_43 : decode cX0_item 43 = .ok (.aload_n 0, 1) := by decide +kernel
theorem dX0_item_44 : decode cX0_item 44 = .ok (.ldc 63, 2) := by decide +kernel
theorem dX0_item_46 : decode cX0_item 46 = .ok (.invokevirtual 51, 3) := by decide +kernel
theorem dX0_item_49 : decode cX0_item 49 = .ok (.ifCond .eq 8, 3) := by decide +kernel
theorem dX0_item_52 : decode cX0_item 52 = .ok (.aload_n 0, 1) := by decide +kernel
theorem dX0_item_53 : decode cX0_item 53 = .ok (.invokevirtual 65, 3) := by decide +kernel
theorem dX0_item_56 : decode cX0_item 56 = .ok (.ireturn, 1) := by decide +kernel
theorem dX0_item_57 : decode cX0_item 57 = .ok (.iconst 0, 1) := by decide +kernel
theorem dX0_item_58 : decode cX0_item 58 = .ok (.ireturn, 1) := by decide +kernel
theorem dX0_hatItem_0 : decode cX0_hatItem 0 = .ok (.aload_n 0, 1) := by decide +kernel
theorem dX0_hatItem_1 : decode cX0_hatItem 1 = .ok (.getfield 15, 3) := by decide +kernel
theorem dX0_hatItem_4 : decode cX0_hatItem 4 = .ok (.invokevirtual 68, 3) := by decide +kernel
theorem dX0_hatItem_7 : decode cX0_hatItem 7 = .ok (.ifCond .eq 5, 3) := by decide +kernel
theorem dX0_hatItem_10 : decode cX0_hatItem 10 = .ok (.iconst 0, 1) := by decide +kernel
theorem dX0_hatItem_11 : decode cX0_hatItem 11 = .ok (.ireturn, 1) := by decide +kernel
theorem dX0_hatItem_12 : decode cX0_hatItem 12 = .ok (.aload_n 0, 1) := by decide +kernel
theorem dX0_hatItem_13 : decode cX0_hatItem 13 = .ok (.getfield 15, 3) := by decide +kernel
theorem dX0_hatItem_16 : decode cX0_hatItem 16 = .ok (.iload_n 1, 1) := by decide +kernel
theorem dX0_hatItem_17 : decode cX0_hatItem 17 = .ok (.iconst 0, 1) := by decide +kernel
theorem dX0_hatItem_18 : decode cX0_hatItem 18 = .ok (.invokevirtual 73, 3) := by decide +kernel
theorem dX0_hatItem_21 : decode cX0_hatItem 21 = .ok (.aload_n 0, 1) := by decide +kernel
theorem dX0_hatItem_22 : decode cX0_hatItem 22 = .ok (.getfield 15, 3) := by decide +kernel
theorem dX0_hatItem_25 : decode cX0_hatItem 25 = .ok (.getfield 77, 3) := by decide +kernel
theorem dX0_hatItem_28 : decode cX0_hatItem 28 = .ok (.aload_n 0, 1) := by decide +kernel
theorem dX0_hatItem_29 : decode cX0_hatItem 29 = .ok (.getfield 15, 3) := by decide +kernel
theorem dX0_hatItem_32 : decode cX0_hatItem 32 = .ok (.getfield 81, 3) := by decide +kernel
theorem dX0_hatItem_35 : decode cX0_hatItem 35 = .ok (.iconst 1, 1) := by decide +kernel
theorem dX0_hatItem_36 : decode cX0_hatItem 36 = .ok (.isub, 1) := by decide +kernel
theorem dX0_hatItem_37 : decode cX0_hatItem 37 = .ok (.aaload, 1) := by decide +kernel
theorem dX0_hatItem_38 : decode cX0_hatItem 38 = .ok (.astore_n 2, 1) := by decide +kernel
theorem dX0_hatItem_39 : decode cX0_hatItem 39 = .ok (.aload_n 0, 1) := by decide +kernel
theorem dX0_hatItem_40 : decode cX0_hatItem 40 = .ok (.invokevirtual 23, 3) := by decide +kernel
theorem dX0_hatItem_43 : decode cX0_hatItem 43 = .ok (.aload_n 0, 1) := by decide +kernel
theorem dX0_hatItem_44 : decode cX0_hatItem 44 = .ok (.ldc 84, 2) := by decide +kernel
theorem dX0_hatItem_46 : decode cX0_hatItem 46 = .ok (.invokevirtual 51, 3) := by decide +kernel
theorem dX0_hatItem_49 : decode cX0_hatItem 49 = .ok (.ifCond .eq 27, 3) := by decide +kernel
theorem dX0_hatItem_52 : decode cX0_hatItem 52 = .ok (.aload_n 0, 1) := by decide +kernel
theorem dX0_hatItem_53 : decode cX0_hatItem 53 = .ok (.sipush 255, 3) := by decide +kernel
theorem dX0_hatItem_56 : decode cX0_hatItem 56 = .ok (.invokevirtual 86, 3) := by decide +kernel
theorem dX0_hatItem_59 : decode cX0_hatItem 59 = .ok (.ifCond .ne 5, 3) := by decide +kernel
theorem dX0_hatItem_62 : decode cX0_hatItem 62 = .ok (.iconst 0, 1) := by decide +kernel
theorem dX0_hatItem_63 : decode cX0_hatItem 63 = .ok (.ireturn, 1) := by decide +kernel
theorem dX0_hatItem_64 : decode cX0_hatItem 64 = .ok (.aload_n 2, 1) := by decide +kernel
theorem dX0_hatItem_65 : decode cX0_hatItem 65 = .ok (.aload_n 0, 1) := by decide +kernel
theorem dX0_hatItem_66 : decode cX0_hatItem 66 = .ok (.getfield 89, 3) := by decide +kernel
theorem dX0_hatItem_69 : decode cX0_hatItem 69 = .ok (.putfield 92, 3) := by decide +kernel
theorem dX0_hatItem_72 : decode cX0_hatItem 72 = .ok (.aload_n 0, 1) := by decide +kernel
theorem dX0_hatItem_73 : decode cX0_hatItem 73 = .ok (.invokevirtual 23, 3) := by decide +kernel
theorem dX0_hatItem_76 : decode cX0_hatItem 76 = .ok (.aload_n 0, 1) := by decide +kernel
theorem dX0_hatItem_77 : decode cX0_hatItem 77 = .ok (.ldc 96, 2) := by decide +kernel
theorem dX0_hatItem_79 : decode cX0_hatItem 79 = .ok (.invokevirtual 51, 3) := by decide +kernel
theorem dX0_hatItem_82 : decode cX0_hatItem 82 = .ok (.ifCond .eq 26, 3) := by decide +kernel
theorem dX0_hatItem_85 : decode cX0_hatItem 85 = .ok (.aload_n 0, 1) := by decide +kernel
theorem dX0_hatItem_86 : decode cX0_hatItem 86 = .ok (.bipush 99, 2) := by decide +kernel
theorem dX0_hatItem_88 : decode cX0_hatItem 88 = .ok (.invokevirtual 86, 3) := by decide +kernel
theorem dX0_hatItem_91 : decode cX0_hatItem 91 = .ok (.ifCond .ne 5, 3) := by decide +kernel
theorem dX0_hatItem_94 : decode cX0_hatItem 94 = .ok (.iconst 0, 1) := by decide +kernel
theorem dX0_hatItem_95 : decode cX0_hatItem 95 = .ok (.ireturn, 1) := by decide +kernel
theorem dX0_hatItem_96 : decode cX0_hatItem 96 = .ok (.aload_n 2, 1) := by decide +kernel
theorem dX0_hatItem_97 : decode cX0_hatItem 97 = .ok (.aload_n 0, 1) := by decide +kernel
theorem dX0_hatItem_98 : decode cX0_hatItem 98 = .ok (.getfield 89, 3) := by decide +kernel
theorem dX0_hatItem_101 : decode cX0_hatItem 101 = .ok (.putfield 98, 3) := by decide +kernel
theorem dX0_hatItem_104 : decode cX0_hatItem 104 = .ok (.aload_n 0, 1) := by decide +kernel
theorem dX0_hatItem_105 : decode cX0_hatItem 105 = .ok (.invokevirtual 23, 3) := by decide +kernel
theorem dX0_hatItem_108 : decode cX0_hatItem 108 = .ok (.aload_n 0, 1) := by decide +kernel
theorem dX0_hatItem_109 : decode cX0_hatItem 109 = .ok (.ldc 100, 2) := by decide +kernel
theorem dX0_hatItem_111 : decode cX0_hatItem 111 = .ok (.invokevirtual 51, 3) := by decide +kernel
theorem dX0_hatItem_114 : decode cX0_hatItem 114 = .ok (.ifCond .eq 8, 3) := by decide +kernel
theorem dX0_hatItem_117 : decode cX0_hatItem 117 = .ok (.aload_n 2, 1) := by decide +kernel
theorem dX0_hatItem_118 : decode cX0_hatItem 118 = .ok (.iconst 0, 1) := by decide +kernel
theorem dX0_hatItem_119 : decode cX0_hatItem 119 = .ok (.putfield 102, 3) := by decide +kernel
theorem dX0_hatItem_122 : decode cX0_hatItem 122 = .ok (.iconst 1, 1) := by decide +kernel
theorem dX0_hatItem_123 : decode cX0_hatItem 123 = .ok (.ireturn, 1) := by decide +kernel
theorem dX0_truthItem_0 : decode cX0_truthItem 0 = .ok (.aload_n 0, 1) := by decide +kernel
theorem dX0_truthItem_1 : decode cX0_truthItem 1 = .ok (.sipush 255, 3) := by decide +kernel
theorem dX0_truthItem_4 : decode cX0_truthItem 4 = .ok (.invokevirtual 86, 3) := by decide +kernel
theorem dX0_truthItem_7 : decode cX0_truthItem 7 = .ok (.ifCond .ne 5, 3) := by decide +kernel
theorem dX0_truthItem_10 : decode cX0_truthItem 10 = .ok (.iconst 0, 1) := by decide +kernel
theorem dX0_truthItem_11 : decode cX0_truthItem 11 = .ok (.ireturn, 1) := by decide +kernel
theorem dX0_truthItem_12 : decode cX0_truthItem 12 = .ok (.aload_n 0, 1) := by decide +kernel
theorem dX0_truthItem_13 : decode cX0_truthItem 13 = .ok (.getfield 15, 3) := by decide +kernel
theorem dX0_truthItem_16 : decode cX0_truthItem 16 = .ok (.aload_n 0, 1) := by decide +kernel
theorem dX0_truthItem_17 : decode cX0_truthItem 17 = .ok (.getfield 89, 3) := by decide +kernel
theorem dX0_truthItem_20 : decode cX0_truthItem 20 = .ok (.putfield 105, 3) := by decide +kernel
theorem dX0_truthItem_23 : decode cX0_truthItem 23 = .ok (.aload_n 0, 1) := by decide +kernel
theorem dX0_truthItem_24 : decode cX0_truthItem 24 = .ok (.invokevirtual 23, 3) := by decide +kernel
theorem dX0_truthItem_27 : decode cX0_truthItem 27 = .ok (.iconst 1, 1) := by decide +kernel
theorem dX0_truthItem_28 : decode cX0_truthItem 28 = .ok (.ireturn, 1) := by decide +kernel
theorem dX0_holdsItem_0 : decode cX0_holdsItem 0 = .ok (.aload_n 0, 1) := by decide +kernel
theorem dX0_holdsItem_1 : decode cX0_holdsItem 1 = .ok (.bipush 7, 2) := by decide +kernel
theorem dX0_holdsItem_3 : decode cX0_holdsItem 3 = .ok (.invokevirtual 86, 3) := by decide +kernel
theorem dX0_holdsItem_6 : decode cX0_holdsItem 6 = .ok (.ifCond .ne 5, 3) := by decide +kernel
theorem dX0_holdsItem_9 : decode cX0_holdsItem 9 = .ok (.iconst 0, 1) := by decide +kernel
theorem dX0_holdsItem_10 : decode cX0_holdsItem 10 = .ok (.ireturn, 1) := by decide +kernel
theorem dX0_holdsItem_11 : decode cX0_holdsItem 11 = .ok (.iconst 1, 1) := by decide +kernel
theorem dX0_holdsItem_12 : decode cX0_holdsItem 12 = .ok (.aload_n 0, 1) := by decide +kernel
theorem dX0_holdsItem_13 : decode cX0_holdsItem 13 = .ok (.getfield 89, 3) := by decide +kernel
theorem dX0_holdsItem_16 : decode cX0_holdsItem 16 = .ok (.ishl, 1) := by decide +kernel
theorem dX0_holdsItem_17 : decode cX0_holdsItem 17 = .ok (.istore_n 1, 1) := by decide +kernel
theorem dX0_holdsItem_18 : decode cX0_holdsItem 18 = .ok (.aload_n 0, 1) := by decide +kernel
theorem dX0_holdsItem_19 : decode cX0_holdsItem 19 = .ok (.invokevirtual 23, 3) := by decide +kernel
theorem dX0_holdsItem_22 : decode cX0_holdsItem 22 = .ok (.aload_n 0, 1) := by decide +kernel
theorem dX0_holdsItem_23 : decode cX0_holdsItem 23 = .ok (.ldc 107, 2) := by decide +kernel
theorem dX0_holdsItem_25 : decode cX0_holdsItem 25 = .ok (.invokevirtual 51, 3) := by decide +kernel
theorem dX0_holdsItem_28 : decode cX0_holdsItem 28 = .ok (.ifCond .eq 18, 3) := by decide +kernel
theorem dX0_holdsItem_31 : decode cX0_holdsItem 31 = .ok (.aload_n 0, 1) := by decide +kernel
theorem dX0_holdsItem_32 : decode cX0_holdsItem 32 = .ok (.getfield 15, 3) := by decide +kernel
theorem dX0_holdsItem_35 : decode cX0_holdsItem 35 = .ok (.dup, 1) := by decide +kernel
theorem dX0_holdsItem_36 : decode cX0_holdsItem 36 = .ok (.getfield 109, 3) := by decide +kernel
theorem dX0_holdsItem_39 : decode cX0_holdsItem 39 = .ok (.iload_n 1, 1) := by decide +kernel
theorem dX0_holdsItem_40 : decode cX0_holdsItem 40 = .ok (.ior, 1) := by decide +kernel
theorem dX0_holdsItem_41 : decode cX0_holdsItem 41 = .ok (.putfield 109, 3) := by decide +kernel
theorem dX0_holdsItem_44 : decode cX0_holdsItem 44 = .ok (.iconst 1, 1) := by decide +kernel
theorem dX0_holdsItem_45 : decode cX0_holdsItem 45 = .ok (.ireturn, 1) := by decide +kernel
theorem dX0_holdsItem_46 : decode cX0_holdsItem 46 = .ok (.aload_n 0, 1) := by decide +kernel
theorem dX0_holdsItem_47 : decode cX0_holdsItem 47 = .ok (.ldc 112, 2) := by decide +kernel
theorem dX0_holdsItem_49 : decode cX0_holdsItem 49 = .ok (.invokevirtual 51, 3) := by decide +kernel
theorem dX0_holdsItem_52 : decode cX0_holdsItem 52 = .ok (.ifCond .eq 20, 3) := by decide +kernel
theorem dX0_holdsItem_55 : decode cX0_holdsItem 55 = .ok (.aload_n 0, 1) := by decide +kernel
theorem dX0_holdsItem_56 : decode cX0_holdsItem 56 = .ok (.getfield 15, 3) := by decide +kernel
theorem dX0_holdsItem_59 : decode cX0_holdsItem 59 = .ok (.dup, 1) := by decide +kernel
theorem dX0_holdsItem_60 : decode cX0_holdsItem 60 = .ok (.getfield 109, 3) := by decide +kernel
theorem dX0_holdsItem_63 : decode cX0_holdsItem 63 = .ok (.iload_n 1, 1) := by decide +kernel
theorem dX0_holdsItem_64 : decode cX0_holdsItem 64 = .ok (.iconst (-1), 1) := by decide +kernel
theorem dX0_holdsItem_65 : decode cX0_holdsItem 65 = .ok (.ixor, 1) := by decide +kernel
theorem dX0_holdsItem_66 : decode cX0_holdsItem 66 = .ok (.iand, 1) := by decide +kernel
theorem dX0_holdsItem_67 : decode cX0_holdsItem 67 = .ok (.putfield 109, 3) := by decide +kernel
theorem dX0_holdsItem_70 : decode cX0_holdsItem 70 = .ok (.iconst 1, 1) := by decide +kernel
theorem dX0_holdsItem_71 : decode cX0_holdsItem 71 = .ok (.ireturn, 1) := by decide +kernel
theorem dX0_holdsItem_72 : decode cX0_holdsItem 72 = .ok (.iconst 0, 1) := by decide +kernel
theorem dX0_holdsItem_73 : decode cX0_holdsItem 73 = .ok (.ireturn, 1) := by decide +kernel
theorem dX0_liftItem_0 : decode cX0_liftItem 0 = .ok (.aload_n 0, 1) := by decide +kernel
theorem dX0_liftItem_1 : decode cX0_liftItem 1 = .ok (.aload_n 0, 1) := by decide +kernel
theorem dX0_liftItem_2 : decode cX0_liftItem 2 = .ok (.getfield 15, 3) := by decide +kernel
theorem dX0_liftItem_5 : decode cX0_liftItem 5 = .ok (.getfield 81, 3) := by decide +kernel
theorem dX0_liftItem_8 : decode cX0_liftItem 8 = .ok (.iconst 1, 1) := by decide +kernel
theorem dX0_liftItem_9 : decode cX0_liftItem 9 = .ok (.isub, 1) := by decide +kernel
theorem dX0_liftItem_10 : decode cX0_liftItem 10 = .ok (.invokevirtual 86, 3) := by decide +kernel
theorem dX0_liftItem_13 : decode cX0_liftItem 13 = .ok (.ifCond .ne 5, 3) := by decide +kernel
theorem dX0_liftItem_16 : decode cX0_liftItem 16 = .ok (.iconst 0, 1) := by decide +kernel
theorem dX0_liftItem_17 : decode cX0_liftItem 17 = .ok (.ireturn, 1) := by decide +kernel
theorem dX0_liftItem_18 : decode cX0_liftItem 18 = .ok (.aload_n 0, 1) := by decide +kernel
theorem dX0_liftItem_19 : decode cX0_liftItem 19 = .ok (.getfield 15, 3) := by decide +kernel
theorem dX0_liftItem_22 : decode cX0_liftItem 22 = .ok (.aload_n 0, 1) := by decide +kernel
theorem dX0_liftItem_23 : decode cX0_liftItem 23 = .ok (.getfield 89, 3) := by decide +kernel
theorem dX0_liftItem_26 : decode cX0_liftItem 26 = .ok (.invokevirtual 114, 3) := by decide +kernel
theorem dX0_liftItem_29 : decode cX0_liftItem 29 = .ok (.ifCond .eq 19, 3) := by decide +kernel
theorem dX0_liftItem_32 : decode cX0_liftItem 32 = .ok (.aload_n 0, 1) := by decide +kernel
theorem dX0_liftItem_33 : decode cX0_liftItem 33 = .ok (.getfield 15, 3) := by decide +kernel
theorem dX0_liftItem_36 : decode cX0_liftItem 36 = .ok (.getfield 77, 3) := by decide +kernel
theorem dX0_liftItem_39 : decode cX0_liftItem 39 = .ok (.aload_n 0, 1) := by decide +kernel
theorem dX0_liftItem_40 : decode cX0_liftItem 40 = .ok (.getfield 89, 3) := by decide +kernel
theorem dX0_liftItem_43 : decode cX0_liftItem 43 = .ok (.aaload, 1) := by decide +kernel
theorem dX0_liftItem_44 : decode cX0_liftItem 44 = .ok (.iconst 0, 1) := by decide +kernel
theorem dX0_liftItem_45 : decode cX0_liftItem 45 = .ok (.putfield 102, 3) := by decide +kernel
theorem dX0_liftItem_48 : decode cX0_liftItem 48 = .ok (.aload_n 0, 1) := by decide +kernel
theorem dX0_liftItem_49 : decode cX0_liftItem 49 = .ok (.invokevirtual 23, 3) := by decide +kernel
theorem dX0_liftItem_52 : decode cX0_liftItem 52 = .ok (.iconst 1, 1) := by decide +kernel
theorem dX0_liftItem_53 : decode cX0_liftItem 53 = .ok (.ireturn, 1) := by decide +kernel
theorem dX0_kindNamed_0 : decode cX0_kindNamed 0 = .ok (.iconst 0, 1) := by decide +kernel
theorem dX0_kindNamed_1 : decode cX0_kindNamed 1 = .ok (.istore_n 1, 1) := by decide +kernel
theorem dX0_kindNamed_2 : decode cX0_kindNamed 2 = .ok (.iload_n 1, 1) := by decide +kernel
theorem dX0_kindNamed_3 : decode cX0_kindNamed 3 = .ok (.bipush 6, 2) := by decide +kernel
theorem dX0_kindNamed_5 : decode cX0_kindNamed 5 = .ok (.if_icmp .ge 22, 3) := by decide +kernel
theorem dX0_kindNamed_8 : decode cX0_kindNamed 8 = .ok (.aload_n 0, 1) := by decide +kernel
theorem dX0_kindNamed_9 : decode cX0_kindNamed 9 = .ok (.iload_n 1, 1) := by decide +kernel
theorem dX0_kindNamed_10 : decode cX0_kindNamed 10 = .ok (.invokestatic 117, 3) := by decide +kernel
theorem dX0_kindNamed_13 : decode cX0_kindNamed 13 = .ok (.invokevirtual 121, 3) := by decide +kernel
theorem dX0_kindNamed_16 : decode cX0_kindNamed 16 = .ok (.ifCond .eq 5, 3) := by decide +kernel
theorem dX0_kindNamed_19 : decode cX0_kindNamed 19 = .ok (.iload_n 1, 1) := by decide +kernel
theorem dX0_kindNamed_20 : decode cX0_kindNamed 20 = .ok (.ireturn, 1) := by decide +kernel
theorem dX0_kindNamed_21 : decode cX0_kindNamed 21 = .ok (.iinc 1 1, 3) := by decide +kernel
theorem dX0_kindNamed_24 : decode cX0_kindNamed 24 = .ok (.goto (-22), 3) := by decide +kernel
theorem dX0_kindNamed_27 : decode cX0_kindNamed 27 = .ok (.iconst (-1), 1) := by decide +kernel
theorem dX0_kindNamed_28 : decode cX0_kindNamed 28 = .ok (.ireturn, 1) := by decide +kernel
theorem dX0_nameOf_0 : decode cX0_nameOf 0 = .ok (.iload_n 0, 1) := by decide +kernel
theorem dX0_nameOf_1 : decode cX0_nameOf 1 = .ok (.tableswitch 50 1 5 #[35, 38, 41, 44, 47], 35) := by decide +kernel
theorem dX0_nameOf_36 : decode cX0_nameOf 36 = .ok (.ldc 124, 2) := by decide +kernel
theorem dX0_nameOf_38 : decode cX0_nameOf 38 = .ok (.areturn, 1) := by decide +kernel
theorem dX0_nameOf_39 : decode cX0_nameOf 39 = .ok (.ldc 126, 2) := by decide +kernel
theorem dX0_nameOf_41 : decode cX0_nameOf 41 = .ok (.areturn, 1) := by decide +kernel
theorem dX0_nameOf_42 : decode cX0_nameOf 42 = .ok (.ldc 128, 2) := by decide +kernel
theorem dX0_nameOf_44 : decode cX0_nameOf 44 = .ok (.areturn, 1) := by decide +kernel
theorem dX0_nameOf_45 : decode cX0_nameOf 45 = .ok (.ldc 130, 2) := by decide +kernel
theorem dX0_nameOf_47 : decode cX0_nameOf 47 = .ok (.areturn, 1) := by decide +kernel
theorem dX0_nameOf_48 : decode cX0_nameOf 48 = .ok (.ldc 132, 2) := by decide +kernel
theorem dX0_nameOf_50 : decode cX0_nameOf 50 = .ok (.areturn, 1) := by decide +kernel
theorem dX0_nameOf_51 : decode cX0_nameOf 51 = .ok (.ldc 134, 2) := by decide +kernel
theorem dX0_nameOf_53 : decode cX0_nameOf 53 = .ok (.areturn, 1) := by decide +kernel
theorem dX0_isNumberUpTo_0 : decode cX0_isNumberUpTo 0 = .ok (.aload_n 0, 1) := by decide +kernel
theorem dX0_isNumberUpTo_1 : decode cX0_isNumberUpTo 1 = .ok (.getfield 33, 3) := by decide +kernel
theorem dX0_isNumberUpTo_4 : decode cX0_isNumberUpTo 4 = .ok (.iconst 2, 1) := by decide +kernel
theorem dX0_isNumberUpTo_5 : decode cX0_isNumberUpTo 5 = .ok (.if_icmp .ne 15, 3) := by decide +kernel
theorem dX0_isNumberUpTo_8 : decode cX0_isNumberUpTo 8 = .ok (.aload_n 0, 1) := by decide +kernel
theorem dX0_isNumberUpTo_9 : decode cX0_isNumberUpTo 9 = .ok (.getfield 89, 3) := by decide +kernel
theorem dX0_isNumberUpTo_12 : decode cX0_isNumberUpTo 12 = .ok (.iload_n 1, 1) := by decide +kernel
theorem dX0_isNumberUpTo_13 : decode cX0_isNumberUpTo 13 = .ok (.if_icmp .gt 7, 3) := by decide +kernel
theorem dX0_isNumberUpTo_16 : decode cX0_isNumberUpTo 16 = .ok (.iconst 1, 1) := by decide +kernel
theorem dX0_isNumberUpTo_17 : decode cX0_isNumberUpTo 17 = .ok (.goto 4, 3) := by decide +kernel
theorem dX0_isNumberUpTo_20 : decode cX0_isNumberUpTo 20 = .ok (.iconst 0, 1) := by decide +kernel
theorem dX0_isNumberUpTo_21 : decode cX0_isNumberUpTo 21 = .ok (.ireturn, 1) := by decide +kernel
theorem dX0_isWord_0 : decode cX0_isWord 0 = .ok (.aload_n 0, 1) := by decide +kernel
theorem dX0_isWord_1 : decode cX0_isWord 1 = .ok (.getfield 33, 3) := by decide +kernel
theorem dX0_isWord_4 : decode cX0_isWord 4 = .ok (.iconst 1, 1) := by decide +kernel
theorem dX0_isWord_5 : decode cX0_isWord 5 = .ok (.if_icmp .ne 19, 3) := by decide +kernel
theorem dX0_isWord_8 : decode cX0_isWord 8 = .ok (.aload_n 0, 1) := by decide +kernel
theorem dX0_isWord_9 : decode cX0_isWord 9 = .ok (.getfield 19, 3) := by decide +kernel
theorem dX0_isWord_12 : decode cX0_isWord 12 = .ok (.aload_n 0, 1) := by decide +kernel
theorem dX0_isWord_13 : decode cX0_isWord 13 = .ok (.getfield 30, 3) := by decide +kernel
theorem dX0_isWord_16 : decode cX0_isWord 16 = .ok (.isub, 1) := by decide +kernel
theorem dX0_isWord_17 : decode cX0_isWord 17 = .ok (.aload_n 1, 1) := by decide +kernel
theorem dX0_isWord_18 : decode cX0_isWord 18 = .ok (.invokevirtual 136, 3) := by decide +kernel
theorem dX0_isWord_21 : decode cX0_isWord 21 = .ok (.if_icmp .eq 5, 3) := by decide +kernel
theorem dX0_isWord_24 : decode cX0_isWord 24 = .ok (.iconst 0, 1) := by decide +kernel
theorem dX0_isWord_25 : decode cX0_isWord 25 = .ok (.ireturn, 1) := by decide +kernel
theorem dX0_isWord_26 : decode cX0_isWord 26 = .ok (.iconst 0, 1) := by decide +kernel
theorem dX0_isWord_27 : decode cX0_isWord 27 = .ok (.istore_n 2, 1) := by decide +kernel
theorem dX0_isWord_28 : decode cX0_isWord 28 = .ok (.iload_n 2, 1) := by decide +kernel
theorem dX0_isWord_29 : decode cX0_isWord 29 = .ok (.aload_n 1, 1) := by decide +kernel
theorem dX0_isWord_30 : decode cX0_isWord 30 = .ok (.invokevirtual 136, 3) := by decide +kernel
theorem dX0_isWord_33 : decode cX0_isWord 33 = .ok (.if_icmp .ge 35, 3) := by decide +kernel
theorem dX0_isWord_36 : decode cX0_isWord 36 = .ok (.aload_n 1, 1) := by decide +kernel
theorem dX0_isWord_37 : decode cX0_isWord 37 = .ok (.iload_n 2, 1) := by decide +kernel
theorem dX0_isWord_38 : decode cX0_isWord 38 = .ok (.invokevirtual 140, 3) := by decide +kernel
theorem dX0_isWord_41 : decode cX0_isWord 41 = .ok (.istore_n 3, 1) := by decide +kernel
theorem dX0_isWord_42 : decode cX0_isWord 42 = .ok (.aload_n 0, 1) := by decide +kernel
theorem dX0_isWord_43 : decode cX0_isWord 43 = .ok (.getfield 9, 3) := by decide +kernel
theorem dX0_isWord_46 : decode cX0_isWord 46 = .ok (.aload_n 0, 1) := by decide +kernel
theorem dX0_isWord_47 : decode cX0_isWord 47 = .ok (.getfield 30, 3) := by decide +kernel
theorem dX0_isWord_50 : decode cX0_isWord 50 = .ok (.iload_n 2, 1) := by decide +kernel
theorem dX0_isWord_51 : decode cX0_isWord 51 = .ok (.iadd, 1) := by decide +kernel
theorem dX0_isWord_52 : decode cX0_isWord 52 = .ok (.iload_n 3, 1) := by decide +kernel
theorem dX0_isWord_53 : decode cX0_isWord 53 = .ok (.iload_n 3, 1) := by decide +kernel
theorem dX0_isWord_54 : decode cX0_isWord 54 = .ok (.invokevirtual 144, 3) := by decide +kernel
theorem dX0_isWord_57 : decode cX0_isWord 57 = .ok (.ifCond .ne 5, 3) := by decide +kernel
theorem dX0_isWord_60 : decode cX0_isWord 60 = .ok (.iconst 0, 1) := by decide +kernel
theorem dX0_isWord_61 : decode cX0_isWord 61 = .ok (.ireturn, 1) := by decide +kernel
theorem dX0_isWord_62 : decode cX0_isWord 62 = .ok (.iinc 2 1, 3) := by decide +kernel
theorem dX0_isWord_65 : decode cX0_isWord 65 = .ok (.goto (-37), 3) := by decide +kernel
theorem dX0_isWord_68 : decode cX0_isWord 68 = .ok (.iconst 1, 1) := by decide +kernel
theorem dX0_isWord_69 : decode cX0_isWord 69 = .ok (.ireturn, 1) := by decide +kernel
theorem dX0_takes_0 : decode cX0_takes 0 = .ok (.aload_n 0, 1) := by decide +kernel
theorem dX0_takes_1 : decode cX0_takes 1 = .ok (.aload_n 1, 1) := by decide +kernel
theorem dX0_takes_2 : decode cX0_takes 2 = .ok (.invokevirtual 121, 3) := by decide +kernel
theorem dX0_takes_5 : decode cX0_takes 5 = .ok (.ifCond .ne 5, 3) := by decide +kernel
theorem dX0_takes_8 : decode cX0_takes 8 = .ok (.iconst 0, 1) := by decide +kernel
theorem dX0_takes_9 : decode cX0_takes 9 = .ok (.ireturn, 1) := by decide +kernel
theorem dX0_takes_10 : decode cX0_takes 10 = .ok (.aload_n 0, 1) := by decide +kernel
theorem dX0_takes_11 : decode cX0_takes 11 = .ok (.invokevirtual 23, 3) := by decide +kernel
theorem dX0_takes_14 : decode cX0_takes 14 = .ok (.iconst 1, 1) := by decide +kernel
theorem dX0_takes_15 : decode cX0_takes 15 = .ok (.ireturn, 1) := by decide +kernel
theorem dX0_next_0 : decode cX0_next 0 = .ok (.aload_n 0, 1) := by decide +kernel
theorem dX0_next_1 : decode cX0_next 1 = .ok (.aload_n 0, 1) := by decide +kernel
theorem dX0_next_2 : decode cX0_next 2 = .ok (.getfield 9, 3) := by decide +kernel
theorem dX0_next_5 : decode cX0_next 5 = .ok (.aload_n 0, 1) := by decide +kernel
theorem dX0_next_6 : decode cX0_next 6 = .ok (.getfield 19, 3) := by decide +kernel
theorem dX0_next_9 : decode cX0_next 9 = .ok (.bipush 32, 2) := by decide +kernel
theorem dX0_next_11 : decode cX0_next 11 = .ok (.bipush 32, 2) := by decide +kernel
theorem dX0_next_13 : decode cX0_next 13 = .ok (.invokevirtual 148, 3) := by decide +kernel
theorem dX0_next_16 : decode cX0_next 16 = .ok (.putfield 30, 3) := by decide +kernel
theorem dX0_next_19 : decode cX0_next 19 = .ok (.aload_n 0, 1) := by decide +kernel
theorem dX0_next_20 : decode cX0_next 20 = .ok (.aload_n 0, 1) := by decide +kernel
theorem dX0_next_21 : decode cX0_next 21 = .ok (.getfield 30, 3) := by decide +kernel
theorem dX0_next_24 : decode cX0_next 24 = .ok (.putfield 19, 3) := by decide +kernel
theorem dX0_next_27 : decode cX0_next 27 = .ok (.aload_n 0, 1) := by decide +kernel
theorem dX0_next_28 : decode cX0_next 28 = .ok (.getfield 30, 3) := by decide +kernel
theorem dX0_next_31 : decode cX0_next 31 = .ok (.aload_n 0, 1) := by decide +kernel
theorem dX0_next_32 : decode cX0_next 32 = .ok (.getfield 9, 3) := by decide +kernel
theorem dX0_next_35 : decode cX0_next 35 = .ok (.getfield 36, 3) := by decide +kernel
theorem dX0_next_38 : decode cX0_next 38 = .ok (.if_icmp .lt 11, 3) := by decide +kernel
theorem dX0_next_41 : decode cX0_next 41 = .ok (.aload_n 0, 1) := by decide +kernel
theorem dX0_next_42 : decode cX0_next 42 = .ok (.iconst 0, 1) := by decide +kernel
theorem dX0_next_43 : decode cX0_next 43 = .ok (.putfield 33, 3) := by decide +kernel
theorem dX0_next_46 : decode cX0_next 46 = .ok (.goto 138, 3) := by decide +kernel
theorem dX0_next_49 : decode cX0_next 49 = .ok (.aload_n 0, 1) := by decide +kernel
theorem dX0_next_50 : decode cX0_next 50 = .ok (.getfield 9, 3) := by decide +kernel
theorem dX0_next_53 : decode cX0_next 53 = .ok (.aload_n 0, 1) := by decide +kernel
theorem dX0_next_54 : decode cX0_next 54 = .ok (.getfield 30, 3) := by decide +kernel
theorem dX0_next_57 : decode cX0_next 57 = .ok (.bipush 97, 2) := by decide +kernel
theorem dX0_next_59 : decode cX0_next 59 = .ok (.bipush 122, 2) := by decide +kernel
theorem dX0_next_61 : decode cX0_next 61 = .ok (.invokevirtual 144, 3) := by decide +kernel
theorem dX0_next_64 : decode cX0_next 64 = .ok (.ifCond .eq 30, 3) := by decide +kernel
theorem dX0_next_67 : decode cX0_next 67 = .ok (.aload_n 0, 1) := by decide +kernel
theorem dX0_next_68 : decode cX0_next 68 = .ok (.iconst 1, 1) := by decide +kernel
theorem dX0_next_69 : decode cX0_next 69 = .ok (.putfield 33, 3) := by decide +kernel
theorem dX0_next_72 : decode cX0_next 72 = .ok (.aload_n 0, 1) := by decide +kernel
theorem dX0_next_73 : decode cX0_next 73 = .ok (.aload_n 0, 1) := by decide +kernel
theorem dX0_next_74 : decode cX0_next 74 = .ok (.getfield 9, 3) := by decide +kernel
theorem dX0_next_77 : decode cX0_next 77 = .ok (.aload_n 0, 1) := by decide +kernel
theorem dX0_next_78 : decode cX0_next 78 = .ok (.getfield 30, 3) := by decide +kernel
theorem dX0_next_81 : decode cX0_next 81 = .ok (.bipush 97, 2) := by decide +kernel
theorem dX0_next_83 : decode cX0_next 83 = .ok (.bipush 122, 2) := by decide +kernel
theorem dX0_next_85 : decode cX0_next 85 = .ok (.invokevirtual 148, 3) := by decide +kernel
theorem dX0_next_88 : decode cX0_next 88 = .ok (.putfield 19, 3) := by decide +kernel
theorem dX0_next_91 : decode cX0_next 91 = .ok (.goto 93, 3) := by decide +kernel
theorem dX0_next_94 : decode cX0_next 94 = .ok (.aload_n 0, 1) := by decide +kernel
theorem dX0_next_95 : decode cX0_next 95 = .ok (.getfield 9, 3) := by decide +kernel
theorem dX0_next_98 : decode cX0_next 98 = .ok (.aload_n 0, 1) := by decide +kernel
theorem dX0_next_99 : decode cX0_next 99 = .ok (.getfield 30, 3) := by decide +kernel
theorem dX0_next_102 : decode cX0_next 102 = .ok (.bipush 48, 2) := by decide +kernel
theorem dX0_next_104 : decode cX0_next 104 = .ok (.bipush 57, 2) := by decide +kernel
theorem dX0_next_106 : decode cX0_next 106 = .ok (.invokevirtual 144, 3) := by decide +kernel
theorem dX0_next_109 : decode cX0_next 109 = .ok (.ifCond .eq 38, 3) := by decide +kernel
theorem dX0_next_112 : decode cX0_next 112 = .ok (.aload_n 0, 1) := by decide +kernel
theorem dX0_next_113 : decode cX0_next 113 = .ok (.iconst 2, 1) := by decide +kernel
theorem dX0_next_114 : decode cX0_next 114 = .ok (.putfield 33, 3) := by decide +kernel
theorem dX0_next_117 : decode cX0_next 117 = .ok (.aload_n 0, 1) := by decide +kernel
theorem dX0_next_118 : decode cX0_next 118 = .ok (.aload_n 0, 1) := by decide +kernel
theorem dX0_next_119 : decode cX0_next 119 = .ok (.getfield 9, 3) := by decide +kernel
theorem dX0_next_122 : decode cX0_next 122 = .ok (.aload_n 0, 1) := by decide +kernel
theorem dX0_next_123 : decode cX0_next 123 = .ok (.getfield 30, 3) := by decide +kernel
theorem dX0_next_126 : decode cX0_next 126 = .ok (.bipush 48, 2) := by decide +kernel
theorem dX0_next_128 : decode cX0_next 128 = .ok (.bipush 57, 2) := by decide +kernel
theorem dX0_next_130 : decode cX0_next 130 = .ok (.invokevirtual 148, 3) := by decide +kernel
theorem dX0_next_133 : decode cX0_next 133 = .ok (.putfield 19, 3) := by decide +kernel
theorem dX0_next_136 : decode cX0_next 136 = .ok (.aload_n 0, 1) := by decide +kernel
theorem dX0_next_137 : decode cX0_next 137 = .ok (.aload_n 0, 1) := by decide +kernel
theorem dX0_next_138 : decode cX0_next 138 = .ok (.invokevirtual 152, 3) := by decide +kernel
theorem dX0_next_141 : decode cX0_next 141 = .ok (.putfield 89, 3) := by decide +kernel
theorem dX0_next_144 : decode cX0_next 144 = .ok (.goto 40, 3) := by decide +kernel
theorem dX0_next_147 : decode cX0_next 147 = .ok (.aload_n 0, 1) := by decide +kernel
theorem dX0_next_148 : decode cX0_next 148 = .ok (.aload_n 0, 1) := by decide +kernel
theorem dX0_next_149 : decode cX0_next 149 = .ok (.getfield 9, 3) := by decide +kernel
theorem dX0_next_152 : decode cX0_next 152 = .ok (.aload_n 0, 1) := by decide +kernel
theorem dX0_next_153 : decode cX0_next 153 = .ok (.getfield 30, 3) := by decide +kernel
theorem dX0_next_156 : decode cX0_next 156 = .ok (.bipush 59, 2) := by decide +kernel
theorem dX0_next_158 : decode cX0_next 158 = .ok (.bipush 59, 2) := by decide +kernel
theorem dX0_next_160 : decode cX0_next 160 = .ok (.invokevirtual 144, 3) := by decide +kernel
theorem dX0_next_163 : decode cX0_next 163 = .ok (.ifCond .eq 7, 3) := by decide +kernel
theorem dX0_next_166 : decode cX0_next 166 = .ok (.iconst 3, 1) := by decide +kernel
theorem dX0_next_167 : decode cX0_next 167 = .ok (.goto 4, 3) := by decide +kernel
theorem dX0_next_170 : decode cX0_next 170 = .ok (.iconst 4, 1) := by decide +kernel
theorem dX0_next_171 : decode cX0_next 171 = .ok (.putfield 33, 3) := by decide +kernel
theorem dX0_next_174 : decode cX0_next 174 = .ok (.aload_n 0, 1) := by decide +kernel
theorem dX0_next_175 : decode cX0_next 175 = .ok (.aload_n 0, 1) := by decide +kernel
theorem dX0_next_176 : decode cX0_next 176 = .ok (.getfield 30, 3) := by decide +kernel
theorem dX0_next_179 : decode cX0_next 179 = .ok (.iconst 1, 1) := by decide +kernel
theorem dX0_next_180 : decode cX0_next 180 = .ok (.iadd, 1) := by decide +kernel
theorem dX0_next_181 : decode cX0_next 181 = .ok (.putfield 19, 3) := by decide +kernel
theorem dX0_next_184 : decode cX0_next 184 = .ok (.return_, 1) := by decide +kernel
theorem dX0_valueOfDigits_0 : decode cX0_valueOfDigits 0 = .ok (.iconst 0, 1) := by decide +kernel
theorem dX0_valueOfDigits_1 : decode cX0_valueOfDigits 1 = .ok (.istore_n 1, 1) := by decide +kernel
theorem dX0_valueOfDigits_2 : decode cX0_valueOfDigits 2 = .ok (.aload_n 0, 1) := by decide +kernel
theorem dX0_valueOfDigits_3 : decode cX0_valueOfDigits 3 = .ok (.getfield 30, 3) := by decide +kernel
theorem dX0_valueOfDigits_6 : decode cX0_valueOfDigits 6 = .ok (.istore_n 2, 1) := by decide +kernel
theorem dX0_valueOfDigits_7 : decode cX0_valueOfDigits 7 = .ok (.iload_n 2, 1) := by decide +kernel
theorem dX0_valueOfDigits_8 : decode cX0_valueOfDigits 8 = .ok (.aload_n 0, 1) := by decide +kernel
theorem dX0_valueOfDigits_9 : decode cX0_valueOfDigits 9 = .ok (.getfield 19, 3) := by decide +kernel
theorem dX0_valueOfDigits_12 : decode cX0_valueOfDigits 12 = .ok (.if_icmp .ge 45, 3) := by decide +kernel
theorem dX0_valueOfDigits_15 : decode cX0_valueOfDigits 15 = .ok (.iload_n 2, 1) := by decide +kernel
theorem dX0_valueOfDigits_16 : decode cX0_valueOfDigits 16 = .ok (.aload_n 0, 1) := by decide +kernel
theorem dX0_valueOfDigits_17 : decode cX0_valueOfDigits 17 = .ok (.getfield 9, 3) := by decide +kernel
theorem dX0_valueOfDigits_20 : decode cX0_valueOfDigits 20 = .ok (.getfield 36, 3) := by decide +kernel
theorem dX0_valueOfDigits_23 : decode cX0_valueOfDigits 23 = .ok (.if_icmp .ge 34, 3) := by decide +kernel
theorem dX0_valueOfDigits_26 : decode cX0_valueOfDigits 26 = .ok (.iload_n 1, 1) := by decide +kernel
theorem dX0_valueOfDigits_27 : decode cX0_valueOfDigits 27 = .ok (.sipush 1000, 3) := by decide +kernel
theorem dX0_valueOfDigits_30 : decode cX0_valueOfDigits 30 = .ok (.if_icmp .ge 27, 3) := by decide +kernel
theorem dX0_valueOfDigits_33 : decode cX0_valueOfDigits 33 = .ok (.iload_n 1, 1) := by decide +kernel
theorem dX0_valueOfDigits_34 : decode cX0_valueOfDigits 34 = .ok (.bipush 10, 2) := by decide +kernel
theorem dX0_valueOfDigits_36 : decode cX0_valueOfDigits 36 = .ok (.imul, 1) := by decide +kernel
theorem dX0_valueOfDigits_37 : decode cX0_valueOfDigits 37 = .ok (.aload_n 0, 1) := by decide +kernel
theorem dX0_valueOfDigits_38 : decode cX0_valueOfDigits 38 = .ok (.getfield 9, 3) := by decide +kernel
theorem dX0_valueOfDigits_41 : decode cX0_valueOfDigits 41 = .ok (.getfield 155, 3) := by decide +kernel
theorem dX0_valueOfDigits_44 : decode cX0_valueOfDigits 44 = .ok (.iload_n 2, 1) := by decide +kernel
theorem dX0_valueOfDigits_45 : decode cX0_valueOfDigits 45 = .ok (.iaload, 1) := by decide +kernel
theorem dX0_valueOfDigits_46 : decode cX0_valueOfDigits 46 = .ok (.iadd, 1) := by decide +kernel
theorem dX0_valueOfDigits_47 : decode cX0_valueOfDigits 47 = .ok (.bipush 48, 2) := by decide +kernel
theorem dX0_valueOfDigits_49 : decode cX0_valueOfDigits 49 = .ok (.isub, 1) := by decide +kernel
theorem dX0_valueOfDigits_50 : decode cX0_valueOfDigits 50 = .ok (.istore_n 1, 1) := by decide +kernel
theorem dX0_valueOfDigits_51 : decode cX0_valueOfDigits 51 = .ok (.iinc 2 1, 3) := by decide +kernel
theorem dX0_valueOfDigits_54 : decode cX0_valueOfDigits 54 = .ok (.goto (-47), 3) := by decide +kernel
theorem dX0_valueOfDigits_57 : decode cX0_valueOfDigits 57 = .ok (.iload_n 1, 1) := by decide +kernel
theorem dX0_valueOfDigits_58 : decode cX0_valueOfDigits 58 = .ok (.ireturn, 1) := by decide +kernel
theorem dX1_init_0 : decode cX1_init 0 = .ok (.aload_n 0, 1) := by decide +kernel
theorem dX1_init_1 : decode cX1_init 1 = .ok (.invokespecial 3, 3) := by decide +kernel
theorem dX1_init_4 : decode cX1_init 4 = .ok (.return_, 1) := by decide +kernel
theorem dX1_begin_0 : decode cX1_begin 0 = .ok (.aload_n 0, 1) := by decide +kernel
theorem dX1_begin_1 : decode cX1_begin 1 = .ok (.iload_n 1, 1) := by decide +kernel
theorem dX1_begin_2 : decode cX1_begin 2 = .ok (.putfield 9, 3) := by decide +kernel
theorem dX1_begin_5 : decode cX1_begin 5 = .ok (.aload_n 0, 1) := by decide +kernel
theorem dX1_begin_6 : decode cX1_begin 6 = .ok (.iload_n 2, 1) := by decide +kernel
theorem dX1_begin_7 : decode cX1_begin 7 = .ok (.putfield 15, 3) := by decide +kernel
theorem dX1_begin_10 : decode cX1_begin 10 = .ok (.aload_n 0, 1) := by decide +kernel
theorem dX1_begin_11 : decode cX1_begin 11 = .ok (.iconst 0, 1) := by decide +kernel
theorem dX1_begin_12 : decode cX1_begin 12 = .ok (.putfield 18, 3) := by decide +kernel
theorem dX1_begin_15 : decode cX1_begin 15 = .ok (.aload_n 0, 1) := by decide +kernel
theorem dX1_begin_16 : decode cX1_begin 16 = .ok (.iconst 0, 1) := by decide +kernel
theorem dX1_begin_17 : decode cX1_begin 17 = .ok (.putfield 21, 3) := by decide +kernel
theorem dX1_begin_20 : decode cX1_begin 20 = .ok (.aload_n 0, 1) := by decide +kernel
theorem dX1_begin_21 : decode cX1_begin 21 = .ok (.bipush 50, 2) := by decide +kernel
theorem dX1_begin_23 : decode cX1_begin 23 = .ok (.putfield 24, 3) := by decide +kernel
theorem dX1_begin_26 : decode cX1_begin 26 = .ok (.aload_n 0, 1) := by decide +kernel
theorem dX1_begin_27 : decode cX1_begin 27 = .ok (.iconst 1, 1) := by decide +kernel
theorem dX1_begin_28 : decode cX1_begin 28 = .ok (.putfield 27, 3) := by decide +kernel
theorem dX1_begin_31 : decode cX1_begin 31 = .ok (.return_, 1) := by decide +kernel
theorem dX1_become_0 : decode cX1_become 0 = .ok (.aload_n 0, 1) := by decide +kernel
theorem dX1_become_1 : decode cX1_become 1 = .ok (.aload_n 1, 1) := by decide +kernel
theorem dX1_become_2 : decode cX1_become 2 = .ok (.getfield 9, 3) := by decide +kernel
theorem dX1_become_5 : decode cX1_become 5 = .ok (.putfield 9, 3) := by decide +kernel
theorem dX1_become_8 : decode cX1_become 8 = .ok (.aload_n 0, 1) := by decide +kernel
theorem dX1_become_9 : decode cX1_become 9 = .ok (.aload_n 1, 1) := by decide +kernel
theorem dX1_become_10 : decode cX1_become 10 = .ok (.getfield 15, 3) := by decide +kernel
theorem dX1_become_13 : decode cX1_become 13 = .ok (.putfield 15, 3) := by decide +kernel
theorem dX1_become_16 : decode cX1_become 16 = .ok (.aload_n 0, 1) := by decide +kernel
theorem dX1_become_17 : decode cX1_become 17 = .ok (.aload_n 1, 1) := by decide +kernel
theorem dX1_become_18 : decode cX1_become 18 = .ok (.getfield 18, 3) := by decide +kernel
theorem dX1_become_21 : decode cX1_become 21 = .ok (.putfield 18, 3) := by decide +kernel
theorem dX1_become_24 : decode cX1_become 24 = .ok (.aload_n 0, 1) := by decide +kernel
theorem dX1_become_25 : decode cX1_become 25 = .ok (.aload_n 1, 1) := by decide +kernel
theorem dX1_become_26 : decode cX1_become 26 = .ok (.getfield 21, 3) := by decide +kernel
theorem dX1_become_29 : decode cX1_become 29 = .ok (.putfield 21, 3) := by decide +kernel
theorem dX1_become_32 : decode cX1_become 32 = .ok (.aload_n 0, 1) := by decide +kernel
theorem dX1_become_33 : decode cX1_become 33 = .ok (.aload_n 1, 1) := by decide +kernel
theorem dX1_become_34 : decode cX1_become 34 = .ok (.getfield 24, 3) := by decide +kernel
theorem dX1_become_37 : decode cX1_become 37 = .ok (.putfield 24, 3) := by decide +kernel
theorem dX1_become_40 : decode cX1_become 40 = .ok (.aload_n 0, 1) := by decide +kernel
theorem dX1_become_41 : decode cX1_become 41 = .ok (.aload_n 1, 1) := by decide +kernel
theorem dX1_become_42 : decode cX1_become 42 = .ok (.getfield 27, 3) := by decide +kernel
theorem dX1_become_45 : decode cX1_become 45 = .ok (.putfield 27, 3) := by decide +kernel
theorem dX1_become_48 : decode cX1_become 48 = .ok (.return_, 1) := by decide +kernel
theorem dX1_trait_0 : decode cX1_trait 0 = .ok (.iload_n 1, 1) := by decide +kernel
theorem dX1_trait_1 : decode cX1_trait 1 = .ok (.tableswitch 60 1 5 #[35, 40, 45, 50, 55], 35) := by decide +kernel
theorem dX1_trait_36 : decode cX1_trait 36 = .ok (.aload_n 0, 1) := by decide +kernel
theorem dX1_trait_37 : decode cX1_trait 37 = .ok (.getfield 15, 3) := by decide +kernel
theorem dX1_trait_40 : decode cX1_trait 40 = .ok (.ireturn, 1) := by decide +kernel
theorem dX1_trait_41 : decode cX1_trait 41 = .ok (.aload_n 0, 1) := by decide +kernel
theorem dX1_trait_42 : decode cX1_trait 42 = .ok (.getfield 18, 3) := by decide +kernel
theorem dX1_trait_45 : decode cX1_trait 45 = .ok (.ireturn, 1) := by decide +kernel
theorem dX1_trait_46 : decode cX1_trait 46 = .ok (.aload_n 0, 1) := by decide +kernel
theorem dX1_trait_47 : decode cX1_trait 47 = .ok (.getfield 21, 3) := by decide +kernel
theorem dX1_trait_50 : decode cX1_trait 50 = .ok (.ireturn, 1) := by decide +kernel
theorem dX1_trait_51 : decode cX1_trait 51 = .ok (.aload_n 0, 1) := by decide +kernel
theorem dX1_trait_52 : decode cX1_trait 52 = .ok (.getfield 24, 3) := by decide +kernel
theorem dX1_trait_55 : decode cX1_trait 55 = .ok (.ireturn, 1) := by decide +kernel
theorem dX1_trait_56 : decode cX1_trait 56 = .ok (.aload_n 0, 1) := by decide +kernel
theorem dX1_trait_57 : decode cX1_trait 57 = .ok (.getfield 27, 3) := by decide +kernel
theorem dX1_trait_60 : decode cX1_trait 60 = .ok (.ireturn, 1) := by decide +kernel
theorem dX1_trait_61 : decode cX1_trait 61 = .ok (.aload_n 0, 1) := by decide +kernel
theorem dX1_trait_62 : decode cX1_trait 62 = .ok (.getfield 9, 3) := by decide +kernel
theorem dX1_trait_65 : decode cX1_trait 65 = .ok (.ireturn, 1) := by decide +kernel
theorem dX1_put_0 : decode cX1_put 0 = .ok (.iload_n 1, 1) := by decide +kernel
theorem dX1_put_1 : decode cX1_put 1 = .ok (.tableswitch 63 1 4 #[31, 39, 47, 55], 31) := by decide +kernel
theorem dX1_put_32 : decode cX1_put 32 = .ok (.aload_n 0, 1) := by decide +kernel
theorem dX1_put_33 : decode cX1_put 33 = .ok (.iload_n 2, 1) := by decide +kernel
theorem dX1_put_34 : decode cX1_put 34 = .ok (.putfield 15, 3) := by decide +kernel
theorem dX1_put_37 : decode cX1_put 37 = .ok (.goto 32, 3) := by decide +kernel
theorem dX1_put_40 : decode cX1_put 40 = .ok (.aload_n 0, 1) := by decide +kernel
theorem dX1_put_41 : decode cX1_put 41 = .ok (.iload_n 2, 1) := by decide +kernel
theorem dX1_put_42 : decode cX1_put 42 = .ok (.putfield 18, 3) := by decide +kernel
theorem dX1_put_45 : decode cX1_put 45 = .ok (.goto 24, 3) := by decide +kernel
theorem dX1_put_48 : decode cX1_put 48 = .ok (.aload_n 0, 1) := by decide +kernel
theorem dX1_put_49 : decode cX1_put 49 = .ok (.iload_n 2, 1) := by decide +kernel
theorem dX1_put_50 : decode cX1_put 50 = .ok (.putfield 21, 3) := by decide +kernel
theorem dX1_put_53 : decode cX1_put 53 = .ok (.goto 16, 3) := by decide +kernel
theorem dX1_put_56 : decode cX1_put 56 = .ok (.aload_n 0, 1) := by decide +kernel
theorem dX1_put_57 : decode cX1_put 57 = .ok (.iload_n 2, 1) := by decide +kernel
theorem dX1_put_58 : decode cX1_put 58 = .ok (.putfield 24, 3) := by decide +kernel
theorem dX1_put_61 : decode cX1_put 61 = .ok (.goto 8, 3) := by decide +kernel
theorem dX1_put_64 : decode cX1_put 64 = .ok (.aload_n 0, 1) := by decide +kernel
theorem dX1_put_65 : decode cX1_put 65 = .ok (.iload_n 2, 1) := by decide +kernel
theorem dX1_put_66 : decode cX1_put 66 = .ok (.putfield 27, 3) := by decide +kernel
theorem dX1_put_69 : decode cX1_put 69 = .ok (.return_, 1) := by decide +kernel
theorem dX1_mostOf_0 : decode cX1_mostOf 0 = .ok (.iload_n 0, 1) := by decide +kernel
theorem dX1_mostOf_1 : decode cX1_mostOf 1 = .ok (.tableswitch 44 1 5 #[35, 44, 44, 39, 42], 35) := by decide +kernel
theorem dX1_mostOf_36 : decode cX1_mostOf 36 = .ok (.sipush 255, 3) := by decide +kernel
theorem dX1_mostOf_39 : decode cX1_mostOf 39 = .ok (.ireturn, 1) := by decide +kernel
theorem dX1_mostOf_40 : decode cX1_mostOf 40 = .ok (.bipush 99, 2) := by decide +kernel
theorem dX1_mostOf_42 : decode cX1_mostOf 42 = .ok (.ireturn, 1) := by decide +kernel
theorem dX1_mostOf_43 : decode cX1_mostOf 43 = .ok (.iconst 1, 1) := by decide +kernel
theorem dX1_mostOf_44 : decode cX1_mostOf 44 = .ok (.ireturn, 1) := by decide +kernel
theorem dX1_mostOf_45 : decode cX1_mostOf 45 = .ok (.sipush 9999, 3) := by decide +kernel
theorem dX1_mostOf_48 : decode cX1_mostOf 48 = .ok (.ireturn, 1) := by decide +kernel
theorem dX1_isOfKind_0 : decode cX1_isOfKind 0 = .ok (.iload_n 1, 1) := by decide +kernel
theorem dX1_isOfKind_1 : decode cX1_isOfKind 1 = .ok (.aload_n 0, 1) := by decide +kernel
theorem dX1_isOfKind_2 : decode cX1_isOfKind 2 = .ok (.getfield 9, 3) := by decide +kernel
theorem dX1_isOfKind_5 : decode cX1_isOfKind 5 = .ok (.if_icmp .eq 33, 3) := by decide +kernel
theorem dX1_isOfKind_8 : decode cX1_isOfKind 8 = .ok (.iload_n 1, 1) := by decide +kernel
theorem dX1_isOfKind_9 : decode cX1_isOfKind 9 = .ok (.ifCond .eq 29, 3) := by decide +kernel
theorem dX1_isOfKind_12 : decode cX1_isOfKind 12 = .ok (.iload_n 1, 1) := by decide +kernel
theorem dX1_isOfKind_13 : decode cX1_isOfKind 13 = .ok (.iconst 1, 1) := by decide +kernel
theorem dX1_isOfKind_14 : decode cX1_isOfKind 14 = .ok (.if_icmp .ne 11, 3) := by decide +kernel
theorem dX1_isOfKind_17 : decode cX1_isOfKind 17 = .ok (.aload_n 0, 1) := by decide +kernel
theorem dX1_isOfKind_18 : decode cX1_isOfKind 18 = .ok (.getfield 9, 3) := by decide +kernel
theorem dX1_isOfKind_21 : decode cX1_isOfKind 21 = .ok (.iconst 4, 1) := by decide +kernel
theorem dX1_isOfKind_22 : decode cX1_isOfKind 22 = .ok (.if_icmp .eq 16, 3) := by decide +kernel
theorem dX1_isOfKind_25 : decode cX1_isOfKind 25 = .ok (.iload_n 1, 1) := by decide +kernel
theorem dX1_isOfKind_26 : decode cX1_isOfKind 26 = .ok (.iconst 2, 1) := by decide +kernel
theorem dX1_isOfKind_27 : decode cX1_isOfKind 27 = .ok (.if_icmp .ne 15, 3) := by decide +kernel
theorem dX1_isOfKind_30 : decode cX1_isOfKind 30 = .ok (.aload_n 0, 1) := by decide +kernel
theorem dX1_isOfKind_31 : decode cX1_isOfKind 31 = .ok (.getfield 9, 3) := by decide +kernel
theorem dX1_isOfKind_34 : decode cX1_isOfKind 34 = .ok (.iconst 5, 1) := by decide +kernel
theorem dX1_isOfKind_35 : decode cX1_isOfKind 35 = .ok (.if_icmp .ne 7, 3) := by decide +kernel
theorem dX1_isOfKind_38 : decode cX1_isOfKind 38 = .ok (.iconst 1, 1) := by decide +kernel
theorem dX1_isOfKind_39 : decode cX1_isOfKind 39 = .ok (.goto 4, 3) := by decide +kernel
theorem dX1_isOfKind_42 : decode cX1_isOfKind 42 = .ok (.iconst 0, 1) := by decide +kernel
theorem dX1_isOfKind_43 : decode cX1_isOfKind 43 = .ok (.ireturn, 1) := by decide +kernel
theorem dX1_answer_0 : decode cX1_answer 0 = .ok (.aload_n 0, 1) := by decide +kernel
theorem dX1_answer_1 : decode cX1_answer 1 = .ok (.getfield 9, 3) := by decide +kernel
theorem dX1_answer_4 : decode cX1_answer 4 = .ok (.tableswitch 111 1 5 #[36, 42, 49, 77, 94], 36) := by decide +kernel
theorem dX1_answer_40 : decode cX1_answer 40 = .ok (.aload_n 0, 1) := by decide +kernel
theorem dX1_answer_41 : decode cX1_answer 41 = .ok (.iload_n 1, 1) := by decide +kernel
theorem dX1_answer_42 : decode cX1_answer 42 = .ok (.invokevirtual 30, 3) := by decide +kernel
theorem dX1_answer_45 : decode cX1_answer 45 = .ok (.ireturn, 1) := by decide +kernel
theorem dX1_answer_46 : decode cX1_answer 46 = .ok (.aload_n 0, 1) := by decide +kernel
theorem dX1_answer_47 : decode cX1_answer 47 = .ok (.iload_n 1, 1) := by decide +kernel
theorem dX1_answer_48 : decode cX1_answer 48 = .ok (.iload_n 2, 1) := by decide +kernel
theorem dX1_answer_49 : decode cX1_answer 49 = .ok (.invokevirtual 34, 3) := by decide +kernel
theorem dX1_answer_52 : decode cX1_answer 52 = .ok (.ireturn, 1) := by decide +kernel
theorem dX1_answer_53 : decode cX1_answer 53 = .ok (.aload_n 0, 1) := by decide +kernel
theorem dX1_answer_54 : decode cX1_answer 54 = .ok (.getfield 21, 3) := by decide +kernel
theorem dX1_answer_57 : decode cX1_answer 57 = .ok (.ifCond .ne 15, 3) := by decide +kernel
theorem dX1_answer_60 : decode cX1_answer 60 = .ok (.aload_n 0, 1) := by decide +kernel
theorem dX1_answer_61 : decode cX1_answer 61 = .ok (.getfield 18, 3) := by decide +kernel
theorem dX1_answer_64 : decode cX1_answer 64 = .ok (.iconst 3, 1) := by decide +kernel
theorem dX1_answer_65 : decode cX1_answer 65 = .ok (.if_icmp .ge 7, 3) := by decide +kernel
theorem dX1_answer_68 : decode cX1_answer 68 = .ok (.iconst (-1), 1) := by decide +kernel
theorem dX1_answer_69 : decode cX1_answer 69 = .ok (.goto 11, 3) := by decide +kernel
theorem dX1_answer_72 : decode cX1_answer 72 = .ok (.aload_n 0, 1) := by decide +kernel
theorem dX1_answer_73 : decode cX1_answer 73 = .ok (.getfield 15, 3) := by decide +kernel
theorem dX1_answer_76 : decode cX1_answer 76 = .ok (.iload_n 1, 1) := by decide +kernel
theorem dX1_answer_77 : decode cX1_answer 77 = .ok (.invokestatic 38, 3) := by decide +kernel
theorem dX1_answer_80 : decode cX1_answer 80 = .ok (.ireturn, 1) := by decide +kernel
theorem dX1_answer_81 : decode cX1_answer 81 = .ok (.aload_n 0, 1) := by decide +kernel
theorem dX1_answer_82 : decode cX1_answer 82 = .ok (.getfield 24, 3) := by decide +kernel
theorem dX1_answer_85 : decode cX1_answer 85 = .ok (.ifCond .ne 7, 3) := by decide +kernel
theorem dX1_answer_88 : decode cX1_answer 88 = .ok (.iconst (-1), 1) := by decide +kernel
theorem dX1_answer_89 : decode cX1_answer 89 = .ok (.goto 8, 3) := by decide +kernel
theorem dX1_answer_92 : decode cX1_answer 92 = .ok (.aload_n 0, 1) := by decide +kernel
theorem dX1_answer_93 : decode cX1_answer 93 = .ok (.iload_n 1, 1) := by decide +kernel
theorem dX1_answer_94 : decode cX1_answer 94 = .ok (.invokevirtual 30, 3) := by decide +kernel
theorem dX1_answer_97 : decode cX1_answer 97 = .ok (.ireturn, 1) := by decide +kernel
theorem dX1_answer_98 : decode cX1_answer 98 = .ok (.iload_n 1, 1) := by decide +kernel
theorem dX1_answer_99 : decode cX1_answer 99 = .ok (.bipush 7, 2) := by decide +kernel
theorem dX1_answer_101 : decode cX1_answer 101 = .ok (.if_icmp .ne 7, 3) := by decide +kernel
theorem dX1_answer_104 : decode cX1_answer 104 = .ok (.iconst 1, 1) := by decide +kernel
theorem dX1_answer_105 : decode cX1_answer 105 = .ok (.goto 9, 3) := by decide +kernel
theorem dX1_answer_108 : decode cX1_answer 108 = .ok (.aload_n 0, 1) := by decide +kernel
theorem dX1_answer_109 : decode cX1_answer 109 = .ok (.iload_n 1, 1) := by decide +kernel
theorem dX1_answer_110 : decode cX1_answer 110 = .ok (.iload_n 2, 1) := by decide +kernel
theorem dX1_answer_111 : decode cX1_answer 111 = .ok (.invokevirtual 34, 3) := by decide +kernel
theorem dX1_answer_114 : decode cX1_answer 114 = .ok (.ireturn, 1) := by decide +kernel
theorem dX1_answer_115 : decode cX1_answer 115 = .ok (.aload_n 0, 1) := by decide +kernel
theorem dX1_answer_116 : decode cX1_answer 116 = .ok (.getfield 15, 3) := by decide +kernel
theorem dX1_answer_119 : decode cX1_answer 119 = .ok (.iload_n 1, 1) := by decide +kernel
theorem dX1_answer_120 : decode cX1_answer 120 = .ok (.invokestatic 38, 3) := by decide +kernel
theorem dX1_answer_123 : decode cX1_answer 123 = .ok (.ireturn, 1) := by decide +kernel
theorem dX1_answerAsBowler_0 : decode cX1_answerAsBowler 0 = .ok (.aload_n 0, 1) := by decide +kernel
theorem dX1_answerAsBowler_1 : decode cX1_answerAsBowler 1 = .ok (.getfield 21, 3) := by decide +kernel
theorem dX1_answerAsBowler_4 : decode cX1_answerAsBowler 4 = .ok (.aload_n 0, 1) := by decide +kernel
theorem dX1_answerAsBowler_5 : decode cX1_answerAsBowler 5 = .ok (.getfield 18, 3) := by decide +kernel
theorem dX1_answerAsBowler_8 : decode cX1_answerAsBowler 8 = .ok (.if_icmp .le 16, 3) := by decide +kernel
theorem dX1_answerAsBowler_11 : decode cX1_answerAsBowler 11 = .ok (.iconst 1, 1) := by decide +kernel
theorem dX1_answerAsBowler_12 : decode cX1_answerAsBowler 12 = .ok (.aload_n 0, 1) := by decide +kernel
theorem dX1_answerAsBowler_13 : decode cX1_answerAsBowler 13 = .ok (.getfield 15, 3) := by decide +kernel
theorem dX1_answerAsBowler_16 : decode cX1_answerAsBowler 16 = .ok (.iload_n 1, 1) := by decide +kernel
theorem dX1_answerAsBowler_17 : decode cX1_answerAsBowler 17 = .ok (.invokestatic 38, 3) := by decide +kernel
theorem dX1_answerAsBowler_20 : decode cX1_answerAsBowler 20 = .ok (.isub, 1) := by decide +kernel
theorem dX1_answerAsBowler_21 : decode cX1_answerAsBowler 21 = .ok (.goto 11, 3) := by decide +kernel
theorem dX1_answerAsBowler_24 : decode cX1_answerAsBowler 24 = .ok (.aload_n 0, 1) := by decide +kernel
theorem dX1_answerAsBowler_25 : decode cX1_answerAsBowler 25 = .ok (.getfield 15, 3) := by decide +kernel
theorem dX1_answerAsBowler_28 : decode cX1_answerAsBowler 28 = .ok (.iload_n 1, 1) := by decide +kernel
theorem dX1_answerAsBowler_29 : decode cX1_answerAsBowler 29 = .ok (.invokestatic 38, 3) := by decide +kernel
theorem dX1_answerAsBowler_32 : decode cX1_answerAsBowler 32 = .ok (.ireturn, 1) := by decide +kernel
theorem dX1_answerAsCap_0 : decode cX1_answerAsCap 0 = .ok (.aload_n 0, 1) := by decide +kernel
theorem dX1_answerAsCap_1 : decode cX1_answerAsCap 1 = .ok (.getfield 24, 3) := by decide +kernel
theorem dX1_answerAsCap_4 : decode cX1_answerAsCap 4 = .ok (.bipush 30, 2) := by decide +kernel
theorem dX1_answerAsCap_6 : decode cX1_answerAsCap 6 = .ok (.if_icmp .ge 7, 3) := by decide +kernel
theorem dX1_answerAsCap_9 : decode cX1_answerAsCap 9 = .ok (.iload_n 2, 1) := by decide +kernel
theorem dX1_answerAsCap_10 : decode cX1_answerAsCap 10 = .ok (.goto 7, 3) := by decide +kernel
theorem dX1_answerAsCap_13 : decode cX1_answerAsCap 13 = .ok (.aload_n 0, 1) := by decide +kernel
theorem dX1_answerAsCap_14 : decode cX1_answerAsCap 14 = .ok (.getfield 15, 3) := by decide +kernel
theorem dX1_answerAsCap_17 : decode cX1_answerAsCap 17 = .ok (.iload_n 1, 1) := by decide +kernel
theorem dX1_answerAsCap_18 : decode cX1_answerAsCap 18 = .ok (.invokestatic 38, 3) := by decide +kernel
theorem dX1_answerAsCap_21 : decode cX1_answerAsCap 21 = .ok (.ireturn, 1) := by decide +kernel
theorem dX1_weight_0 : decode cX1_weight 0 = .ok (.aload_n 0, 1) := by decide +kernel
theorem dX1_weight_1 : decode cX1_weight 1 = .ok (.getfield 9, 3) := by decide +kernel
theorem dX1_weight_4 : decode cX1_weight 4 = .ok (.tableswitch 72 1 5 #[36, 72, 46, 48, 60], 36) := by decide +kernel
theorem dX1_weight_40 : decode cX1_weight 40 = .ok (.iconst 1, 1) := by decide +kernel
theorem dX1_weight_41 : decode cX1_weight 41 = .ok (.aload_n 0, 1) := by decide +kernel
theorem dX1_weight_42 : decode cX1_weight 42 = .ok (.getfield 24, 3) := by decide +kernel
theorem dX1_weight_45 : decode cX1_weight 45 = .ok (.bipush 50, 2) := by decide +kernel
theorem dX1_weight_47 : decode cX1_weight 47 = .ok (.idiv, 1) := by decide +kernel
theorem dX1_weight_48 : decode cX1_weight 48 = .ok (.iadd, 1) := by decide +kernel
theorem dX1_weight_49 : decode cX1_weight 49 = .ok (.ireturn, 1) := by decide +kernel
theorem dX1_weight_50 : decode cX1_weight 50 = .ok (.iconst 3, 1) := by decide +kernel
theorem dX1_weight_51 : decode cX1_weight 51 = .ok (.ireturn, 1) := by decide +kernel
theorem dX1_weight_52 : decode cX1_weight 52 = .ok (.iconst 2, 1) := by decide +kernel
theorem dX1_weight_53 : decode cX1_weight 53 = .ok (.iconst 1, 1) := by decide +kernel
theorem dX1_weight_54 : decode cX1_weight 54 = .ok (.aload_n 0, 1) := by decide +kernel
theorem dX1_weight_55 : decode cX1_weight 55 = .ok (.getfield 24, 3) := by decide +kernel
theorem dX1_weight_58 : decode cX1_weight 58 = .ok (.bipush 50, 2) := by decide +kernel
theorem dX1_weight_60 : decode cX1_weight 60 = .ok (.idiv, 1) := by decide +kernel
theorem dX1_weight_61 : decode cX1_weight 61 = .ok (.iadd, 1) := by decide +kernel
theorem dX1_weight_62 : decode cX1_weight 62 = .ok (.imul, 1) := by decide +kernel
theorem dX1_weight_63 : decode cX1_weight 63 = .ok (.ireturn, 1) := by decide +kernel
theorem dX1_weight_64 : decode cX1_weight 64 = .ok (.iload_n 1, 1) := by decide +kernel
theorem dX1_weight_65 : decode cX1_weight 65 = .ok (.iconst 3, 1) := by decide +kernel
theorem dX1_weight_66 : decode cX1_weight 66 = .ok (.irem, 1) := by decide +kernel
theorem dX1_weight_67 : decode cX1_weight 67 = .ok (.ifCond .ne 7, 3) := by decide +kernel
theorem dX1_weight_70 : decode cX1_weight 70 = .ok (.iconst 2, 1) := by decide +kernel
theorem dX1_weight_71 : decode cX1_weight 71 = .ok (.goto 4, 3) := by decide +kernel
theorem dX1_weight_74 : decode cX1_weight 74 = .ok (.iconst 1, 1) := by decide +kernel
theorem dX1_weight_75 : decode cX1_weight 75 = .ok (.ireturn, 1) := by decide +kernel
theorem dX1_weight_76 : decode cX1_weight 76 = .ok (.iconst 1, 1) := by decide +kernel
theorem dX1_weight_77 : decode cX1_weight 77 = .ok (.ireturn, 1) := by decide +kernel
theorem dX1_isLearning_0 : decode cX1_isLearning 0 = .ok (.aload_n 0, 1) := by decide +kernel
theorem dX1_isLearning_1 : decode cX1_isLearning 1 = .ok (.getfield 9, 3) := by decide +kernel
theorem dX1_isLearning_4 : decode cX1_isLearning 4 = .ok (.tableswitch 48 1 4 #[32, 48, 34, 36], 32) := by decide +kernel
theorem dX1_isLearning_36 : decode cX1_isLearning 36 = .ok (.iconst 1, 1) := by decide +kernel
theorem dX1_isLearning_37 : decode cX1_isLearning 37 = .ok (.ireturn, 1) := by decide +kernel
theorem dX1_isLearning_38 : decode cX1_isLearning 38 = .ok (.iconst 0, 1) := by decide +kernel
theorem dX1_isLearning_39 : decode cX1_isLearning 39 = .ok (.ireturn, 1) := by decide +kernel
theorem dX1_isLearning_40 : decode cX1_isLearning 40 = .ok (.iload_n 1, 1) := by decide +kernel
theorem dX1_isLearning_41 : decode cX1_isLearning 41 = .ok (.iconst 2, 1) := by decide +kernel
theorem dX1_isLearning_42 : decode cX1_isLearning 42 = .ok (.irem, 1) := by decide +kernel
theorem dX1_isLearning_43 : decode cX1_isLearning 43 = .ok (.ifCond .ne 7, 3) := by decide +kernel
theorem dX1_isLearning_46 : decode cX1_isLearning 46 = .ok (.iconst 1, 1) := by decide +kernel
theorem dX1_isLearning_47 : decode cX1_isLearning 47 = .ok (.goto 4, 3) := by decide +kernel
theorem dX1_isLearning_50 : decode cX1_isLearning 50 = .ok (.iconst 0, 1) := by decide +kernel
theorem dX1_isLearning_51 : decode cX1_isLearning 51 = .ok (.ireturn, 1) := by decide +kernel
theorem dX1_isLearning_52 : decode cX1_isLearning 52 = .ok (.aload_n 0, 1) := by decide +kernel
theorem dX1_isLearning_53 : decode cX1_isLearning 53 = .ok (.getfield 24, 3) := by decide +kernel
theorem dX1_isLearning_56 : decode cX1_isLearning 56 = .ok (.bipush 50, 2) := by decide +kernel
theorem dX1_isLearning_58 : decode cX1_isLearning 58 = .ok (.if_icmp .lt 7, 3) := by decide +kernel
theorem dX1_isLearning_61 : decode cX1_isLearning 61 = .ok (.iconst 1, 1) := by decide +kernel
theorem dX1_isLearning_62 : decode cX1_isLearning 62 = .ok (.goto 4, 3) := by decide +kernel
theorem dX1_isLearning_65 : decode cX1_isLearning 65 = .ok (.iconst 0, 1) := by decide +kernel
theorem dX1_isLearning_66 : decode cX1_isLearning 66 = .ok (.ireturn, 1) := by decide +kernel
theorem dX1_stir_0 : decode cX1_stir 0 = .ok (.aload_n 0, 1) := by decide +kernel
theorem dX1_stir_1 : decode cX1_stir 1 = .ok (.getfield 9, 3) := by decide +kernel
theorem dX1_stir_4 : decode cX1_stir 4 = .ok (.tableswitch 43 1 5 #[41, 36, 39, 41, 41], 36) := by decide +kernel
theorem dX1_stir_40 : decode cX1_stir 40 = .ok (.bipush 10, 2) := by decide +kernel
theorem dX1_stir_42 : decode cX1_stir 42 = .ok (.ireturn, 1) := by decide +kernel
theorem dX1_stir_43 : decode cX1_stir 43 = .ok (.iconst 1, 1) := by decide +kernel
theorem dX1_stir_44 : decode cX1_stir 44 = .ok (.ireturn, 1) := by decide +kernel
theorem dX1_stir_45 : decode cX1_stir 45 = .ok (.iconst 3, 1) := by decide +kernel
theorem dX1_stir_46 : decode cX1_stir 46 = .ok (.ireturn, 1) := by decide +kernel
theorem dX1_stir_47 : decode cX1_stir 47 = .ok (.iconst 5, 1) := by decide +kernel
theorem dX1_stir_48 : decode cX1_stir 48 = .ok (.ireturn, 1) := by decide +kernel
theorem dX1_beRight_0 : decode cX1_beRight 0 = .ok (.aload_n 0, 1) := by decide +kernel
theorem dX1_beRight_1 : decode cX1_beRight 1 = .ok (.aload_n 0, 1) := by decide +kernel
theorem dX1_beRight_2 : decode cX1_beRight 2 = .ok (.getfield 18, 3) := by decide +kernel
theorem dX1_beRight_5 : decode cX1_beRight 5 = .ok (.iconst 1, 1) := by decide +kernel
theorem dX1_beRight_6 : decode cX1_beRight 6 = .ok (.iadd, 1) := by decide +kernel
theorem dX1_beRight_7 : decode cX1_beRight 7 = .ok (.sipush 9999, 3) := by decide +kernel
theorem dX1_beRight_10 : decode cX1_beRight 10 = .ok (.invokestatic 41, 3) := by decide +kernel
theorem dX1_beRight_13 : decode cX1_beRight 13 = .ok (.putfield 18, 3) := by decide +kernel
theorem dX1_beRight_16 : decode cX1_beRight 16 = .ok (.aload_n 0, 1) := by decide +kernel
theorem dX1_beRight_17 : decode cX1_beRight 17 = .ok (.aload_n 0, 1) := by decide +kernel
theorem dX1_beRight_18 : decode cX1_beRight 18 = .ok (.getfield 24, 3) := by decide +kernel
theorem dX1_beRight_21 : decode cX1_beRight 21 = .ok (.aload_n 0, 1) := by decide +kernel
theorem dX1_beRight_22 : decode cX1_beRight 22 = .ok (.invokevirtual 46, 3) := by decide +kernel
theorem dX1_beRight_25 : decode cX1_beRight 25 = .ok (.iadd, 1) := by decide +kernel
theorem dX1_beRight_26 : decode cX1_beRight 26 = .ok (.bipush 99, 2) := by decide +kernel
theorem dX1_beRight_28 : decode cX1_beRight 28 = .ok (.invokestatic 41, 3) := by decide +kernel
theorem dX1_beRight_31 : decode cX1_beRight 31 = .ok (.putfield 24, 3) := by decide +kernel
theorem dX1_beRight_34 : decode cX1_beRight 34 = .ok (.return_, 1) := by decide +kernel
theorem dX1_beWrong_0 : decode cX1_beWrong 0 = .ok (.aload_n 0, 1) := by decide +kernel
theorem dX1_beWrong_1 : decode cX1_beWrong 1 = .ok (.iload_n 1, 1) := by decide +kernel
theorem dX1_beWrong_2 : decode cX1_beWrong 2 = .ok (.invokevirtual 50, 3) := by decide +kernel
theorem dX1_beWrong_5 : decode cX1_beWrong 5 = .ok (.ifCond .eq 26, 3) := by decide +kernel
theorem dX1_beWrong_8 : decode cX1_beWrong 8 = .ok (.iconst 1, 1) := by decide +kernel
theorem dX1_beWrong_9 : decode cX1_beWrong 9 = .ok (.iload_n 2, 1) := by decide +kernel
theorem dX1_beWrong_10 : decode cX1_beWrong 10 = .ok (.ishl, 1) := by decide +kernel
theorem dX1_beWrong_11 : decode cX1_beWrong 11 = .ok (.istore 4, 2) := by decide +kernel
theorem dX1_beWrong_13 : decode cX1_beWrong 13 = .ok (.aload_n 0, 1) := by decide +kernel
theorem dX1_beWrong_14 : decode cX1_beWrong 14 = .ok (.aload_n 0, 1) := by decide +kernel
theorem dX1_beWrong_15 : decode cX1_beWrong 15 = .ok (.getfield 15, 3) := by decide +kernel
theorem dX1_beWrong_18 : decode cX1_beWrong 18 = .ok (.iload 4, 2) := by decide +kernel
theorem dX1_beWrong_20 : decode cX1_beWrong 20 = .ok (.iconst (-1), 1) := by decide +kernel
theorem dX1_beWrong_21 : decode cX1_beWrong 21 = .ok (.ixor, 1) := by decide +kernel
theorem dX1_beWrong_22 : decode cX1_beWrong 22 = .ok (.iand, 1) := by decide +kernel
theorem dX1_beWrong_23 : decode cX1_beWrong 23 = .ok (.iload_n 3, 1) := by decide +kernel
theorem dX1_beWrong_24 : decode cX1_beWrong 24 = .ok (.iload 4, 2) := by decide +kernel
theorem dX1_beWrong_26 : decode cX1_beWrong 26 = .ok (.iand, 1) := by decide +kernel
theorem dX1_beWrong_27 : decode cX1_beWrong 27 = .ok (.ior, 1) := by decide +kernel
theorem dX1_beWrong_28 : decode cX1_beWrong 28 = .ok (.putfield 15, 3) := by decide +kernel
theorem dX1_beWrong_31 : decode cX1_beWrong 31 = .ok (.aload_n 0, 1) := by decide +kernel
theorem dX1_beWrong_32 : decode cX1_beWrong 32 = .ok (.aload_n 0, 1) := by decide +kernel
theorem dX1_beWrong_33 : decode cX1_beWrong 33 = .ok (.getfield 21, 3) := by decide +kernel
theorem dX1_beWrong_36 : decode cX1_beWrong 36 = .ok (.iconst 1, 1) := by decide +kernel
theorem dX1_beWrong_37 : decode cX1_beWrong 37 = .ok (.iadd, 1) := by decide +kernel
theorem dX1_beWrong_38 : decode cX1_beWrong 38 = .ok (.sipush 9999, 3) := by decide +kernel
theorem dX1_beWrong_41 : decode cX1_beWrong 41 = .ok (.invokestatic 41, 3) := by decide +kernel
theorem dX1_beWrong_44 : decode cX1_beWrong 44 = .ok (.putfield 21, 3) := by decide +kernel
theorem dX1_beWrong_47 : decode cX1_beWrong 47 = .ok (.aload_n 0, 1) := by decide +kernel
theorem dX1_beWrong_48 : decode cX1_beWrong 48 = .ok (.aload_n 0, 1) := by decide +kernel
theorem dX1_beWrong_49 : decode cX1_beWrong 49 = .ok (.getfield 24, 3) := by decide +kernel
theorem dX1_beWrong_52 : decode cX1_beWrong 52 = .ok (.aload_n 0, 1) := by decide +kernel
theorem dX1_beWrong_53 : decode cX1_beWrong 53 = .ok (.invokevirtual 46, 3) := by decide +kernel
theorem dX1_beWrong_56 : decode cX1_beWrong 56 = .ok (.isub, 1) := by decide +kernel
theorem dX1_beWrong_57 : decode cX1_beWrong 57 = .ok (.iconst 0, 1) := by decide +kernel
theorem dX1_beWrong_58 : decode cX1_beWrong 58 = .ok (.invokestatic 54, 3) := by decide +kernel
theorem dX1_beWrong_61 : decode cX1_beWrong 61 = .ok (.putfield 24, 3) := by decide +kernel
theorem dX1_beWrong_64 : decode cX1_beWrong 64 = .ok (.return_, 1) := by decide +kernel
theorem dX1_credit_0 : decode cX1_credit 0 = .ok (.aload_n 0, 1) := by decide +kernel
theorem dX1_credit_1 : decode cX1_credit 1 = .ok (.getfield 18, 3) := by decide +kernel
theorem dX1_credit_4 : decode cX1_credit 4 = .ok (.aload_n 0, 1) := by decide +kernel
theorem dX1_credit_5 : decode cX1_credit 5 = .ok (.getfield 21, 3) := by decide +kernel
theorem dX1_credit_8 : decode cX1_credit 8 = .ok (.isub, 1) := by decide +kernel
theorem dX1_credit_9 : decode cX1_credit 9 = .ok (.ireturn, 1) := by decide +kernel
theorem dX2_init_0 : decode cX2_init 0 = .ok (.aload_n 0, 1) := by decide +kernel
theorem dX2_init_1 : decode cX2_init 1 = .ok (.invokespecial 3, 3) := by decide +kernel
theorem dX2_init_4 : decode cX2_init 4 = .ok (.aload_n 0, 1) := by decide +kernel
theorem dX2_init_5 : decode cX2_init 5 = .ok (.bipush 40, 2) := by decide +kernel
theorem dX2_init_7 : decode cX2_init 7 = .ok (.newarray .long, 2) := by decide +kernel
theorem dX2_init_9 : decode cX2_init 9 = .ok (.putfield 9, 3) := by decide +kernel
theorem dX2_init_12 : decode cX2_init 12 = .ok (.return_, 1) := by decide +kernel
theorem dX2_mayHave_0 : decode cX2_mayHave 0 = .ok (.iload_n 0, 1) := by decide +kernel
theorem dX2_mayHave_1 : decode cX2_mayHave 1 = .ok (.ifCond .eq 21, 3) := by decide +kernel
theorem dX2_mayHave_4 : decode cX2_mayHave 4 = .ok (.iload_n 0, 1) := by decide +kernel
theorem dX2_mayHave_5 : decode cX2_mayHave 5 = .ok (.bipush 8, 2) := by decide +kernel
theorem dX2_mayHave_7 : decode cX2_mayHave 7 = .ok (.if_icmp .eq 15, 3) := by decide +kernel
theorem dX2_mayHave_10 : decode cX2_mayHave 10 = .ok (.iload_n 0, 1) := by decide +kernel
theorem dX2_mayHave_11 : decode cX2_mayHave 11 = .ok (.bipush 16, 2) := by decide +kernel
theorem dX2_mayHave_13 : decode cX2_mayHave 13 = .ok (.if_icmp .eq 9, 3) := by decide +kernel
theorem dX2_mayHave_16 : decode cX2_mayHave 16 = .ok (.iload_n 0, 1) := by decide +kernel
theorem dX2_mayHave_17 : decode cX2_mayHave 17 = .ok (.bipush 64, 2) := by decide +kernel
theorem dX2_mayHave_19 : decode cX2_mayHave 19 = .ok (.if_icmp .ne 7, 3) := by decide +kernel
theorem dX2_mayHave_22 : decode cX2_mayHave 22 = .ok (.iconst 1, 1) := by decide +kernel
theorem dX2_mayHave_23 : decode cX2_mayHave 23 = .ok (.goto 4, 3) := by decide +kernel
theorem dX2_mayHave_26 : decode cX2_mayHave 26 = .ok (.iconst 0, 1) := by decide +kernel
theorem dX2_mayHave_27 : decode cX2_mayHave 27 = .ok (.ireturn, 1) := by decide +kernel
theorem dX2_isMissing_0 : decode cX2_isMissing 0 = .ok (.aload_n 0, 1) := by decide +kernel
theorem dX2_isMissing_1 : decode cX2_isMissing 1 = .ok (.getfield 15, 3) := by decide +kernel
theorem dX2_isMissing_4 : decode cX2_isMissing 4 = .ok (.ifCond .ne 7, 3) := by decide +kernel
theorem dX2_isMissing_7 : decode cX2_isMissing 7 = .ok (.iconst 1, 1) := by decide +kernel
theorem dX2_isMissing_8 : decode cX2_isMissing 8 = .ok (.goto 4, 3) := by decide +kernel
theorem dX2_isMissing_11 : decode cX2_isMissing 11 = .ok (.iconst 0, 1) := by decide +kernel
theorem dX2_isMissing_12 : decode cX2_isMissing 12 = .ok (.ireturn, 1) := by decide +kernel
theorem dX2_begin_0 : decode cX2_begin 0 = .ok (.aload_n 0, 1) := by decide +kernel
theorem dX2_begin_1 : decode cX2_begin 1 = .ok (.iload_n 1, 1) := by decide +kernel
theorem dX2_begin_2 : decode cX2_begin 2 = .ok (.putfield 15, 3) := by decide +kernel
theorem dX2_begin_5 : decode cX2_begin 5 = .ok (.aload_n 0, 1) := by decide +kernel
theorem dX2_begin_6 : decode cX2_begin 6 = .ok (.aload_n 0, 1) := by decide +kernel
theorem dX2_begin_7 : decode cX2_begin 7 = .ok (.invokevirtual 19, 3) := by decide +kernel
theorem dX2_begin_10 : decode cX2_begin 10 = .ok (.ifCond .eq 7, 3) := by decide +kernel
theorem dX2_begin_13 : decode cX2_begin 13 = .ok (.iconst 0, 1) := by decide +kernel
theorem dX2_begin_14 : decode cX2_begin 14 = .ok (.goto 9, 3) := by decide +kernel
theorem dX2_begin_17 : decode cX2_begin 17 = .ok (.iload_n 2, 1) := by decide +kernel
theorem dX2_begin_18 : decode cX2_begin 18 = .ok (.bipush 40, 2) := by decide +kernel
theorem dX2_begin_20 : decode cX2_begin 20 = .ok (.invokestatic 23, 3) := by decide +kernel
theorem dX2_begin_23 : decode cX2_begin 23 = .ok (.putfield 29, 3) := by decide +kernel
theorem dX2_begin_26 : decode cX2_begin 26 = .ok (.aload_n 0, 1) := by decide +kernel
theorem dX2_begin_27 : decode cX2_begin 27 = .ok (.getfield 9, 3) := by decide +kernel
theorem dX2_begin_30 : decode cX2_begin 30 = .ok (.lconst 0, 1) := by decide +kernel
theorem dX2_begin_31 : decode cX2_begin 31 = .ok (.invokestatic 32, 3) := by decide +kernel
theorem dX2_begin_34 : decode cX2_begin 34 = .ok (.return_, 1) := by decide +kernel
theorem dX2_put_0 : decode cX2_put 0 = .ok (.iload_n 1, 1) := by decide +kernel
theorem dX2_put_1 : decode cX2_put 1 = .ok (.ifCond .lt 11, 3) := by decide +kernel
theorem dX2_put_4 : decode cX2_put 4 = .ok (.iload_n 1, 1) := by decide +kernel
theorem dX2_put_5 : decode cX2_put 5 = .ok (.aload_n 0, 1) := by decide +kernel
theorem dX2_put_6 : decode cX2_put 6 = .ok (.getfield 29, 3) := by decide +kernel
theorem dX2_put_9 : decode cX2_put 9 = .ok (.if_icmp .lt 4, 3) := by decide +kernel
theorem dX2_put_12 : decode cX2_put 12 = .ok (.return_, 1) := by decide +kernel
theorem dX2_put_13 : decode cX2_put 13 = .ok (.aload_n 0, 1) := by decide +kernel
theorem dX2_put_14 : decode cX2_put 14 = .ok (.getfield 15, 3) := by decide +kernel
theorem dX2_put_17 : decode cX2_put 17 = .ok (.bipush 8, 2) := by decide +kernel
theorem dX2_put_19 : decode cX2_put 19 = .ok (.if_icmp .ne 16, 3) := by decide +kernel
theorem dX2_put_22 : decode cX2_put 22 = .ok (.aload_n 0, 1) := by decide +kernel
theorem dX2_put_23 : decode cX2_put 23 = .ok (.getfield 9, 3) := by decide +kernel
theorem dX2_put_26 : decode cX2_put 26 = .ok (.iload_n 1, 1) := by decide +kernel
theorem dX2_put_27 : decode cX2_put 27 = .ok (.lload_n 2, 1) := by decide +kernel
theorem dX2_put_28 : decode cX2_put 28 = .ok (.l2i, 1) := by decide +kernel
theorem dX2_put_29 : decode cX2_put 29 = .ok (.i2b, 1) := by decide +kernel
theorem dX2_put_30 : decode cX2_put 30 = .ok (.i2l, 1) := by decide +kernel
theorem dX2_put_31 : decode cX2_put 31 = .ok (.lastore, 1) := by decide +kernel
theorem dX2_put_32 : decode cX2_put 32 = .ok (.goto 32, 3) := by decide +kernel
theorem dX2_put_35 : decode cX2_put 35 = .ok (.aload_n 0, 1) := by decide +kernel
theorem dX2_put_36 : decode cX2_put 36 = .ok (.getfield 15, 3) := by decide +kernel
theorem dX2_put_39 : decode cX2_put 39 = .ok (.bipush 16, 2) := by decide +kernel
theorem dX2_put_41 : decode cX2_put 41 = .ok (.if_icmp .ne 16, 3) := by decide +kernel
theorem dX2_put_44 : decode cX2_put 44 = .ok (.aload_n 0, 1) := by decide +kernel
theorem dX2_put_45 : decode cX2_put 45 = .ok (.getfield 9, 3) := by decide +kernel
theorem dX2_put_48 : decode cX2_put 48 = .ok (.iload_n 1, 1) := by decide +kernel
theorem dX2_put_49 : decode cX2_put 49 = .ok (.lload_n 2, 1) := by decide +kernel
theorem dX2_put_50 : decode cX2_put 50 = .ok (.l2i, 1) := by decide +kernel
theorem dX2_put_51 : decode cX2_put 51 = .ok (.i2s, 1) := by decide +kernel
theorem dX2_put_52 : decode cX2_put 52 = .ok (.i2l, 1) := by decide +kernel
theorem dX2_put_53 : decode cX2_put 53 = .ok (.lastore, 1) := by decide +kernel
theorem dX2_put_54 : decode cX2_put 54 = .ok (.goto 10, 3) := by decide +kernel
theorem dX2_put_57 : decode cX2_put 57 = .ok (.aload_n 0, 1) := by decide +kernel
theorem dX2_put_58 : decode cX2_put 58 = .ok (.getfield 9, 3) := by decide +kernel
theorem dX2_put_61 : decode cX2_put 61 = .ok (.iload_n 1, 1) := by decide +kernel
theorem dX2_put_62 : decode cX2_put 62 = .ok (.lload_n 2, 1) := by decide +kernel
theorem dX2_put_63 : decode cX2_put 63 = .ok (.lastore, 1) := by decide +kernel
theorem dX2_put_64 : decode cX2_put 64 = .ok (.return_, 1) := by decide +kernel
theorem dX2_hasRun_0 : decode cX2_hasRun 0 = .ok (.iload_n 1, 1) := by decide +kernel
theorem dX2_hasRun_1 : decode cX2_hasRun 1 = .ok (.ifCond .lt 29, 3) := by decide +kernel
theorem dX2_hasRun_4 : decode cX2_hasRun 4 = .ok (.iload_n 2, 1) := by decide +kernel
theorem dX2_hasRun_5 : decode cX2_hasRun 5 = .ok (.ifCond .lt 25, 3) := by decide +kernel
theorem dX2_hasRun_8 : decode cX2_hasRun 8 = .ok (.iload_n 2, 1) := by decide +kernel
theorem dX2_hasRun_9 : decode cX2_hasRun 9 = .ok (.aload_n 0, 1) := by decide +kernel
theorem dX2_hasRun_10 : decode cX2_hasRun 10 = .ok (.getfield 29, 3) := by decide +kernel
theorem dX2_hasRun_13 : decode cX2_hasRun 13 = .ok (.if_icmp .gt 17, 3) := by decide +kernel
theorem dX2_hasRun_16 : decode cX2_hasRun 16 = .ok (.iload_n 1, 1) := by decide +kernel
theorem dX2_hasRun_17 : decode cX2_hasRun 17 = .ok (.aload_n 0, 1) := by decide +kernel
theorem dX2_hasRun_18 : decode cX2_hasRun 18 = .ok (.getfield 29, 3) := by decide +kernel
theorem dX2_hasRun_21 : decode cX2_hasRun 21 = .ok (.iload_n 2, 1) := by decide +kernel
theorem dX2_hasRun_22 : decode cX2_hasRun 22 = .ok (.isub, 1) := by decide +kernel
theorem dX2_hasRun_23 : decode cX2_hasRun 23 = .ok (.if_icmp .gt 7, 3) := by decide +kernel
theorem dX2_hasRun_26 : decode cX2_hasRun 26 = .ok (.iconst 1, 1) := by decide +kernel
theorem dX2_hasRun_27 : decode cX2_hasRun 27 = .ok (.goto 4, 3) := by decide +kernel
theorem dX2_hasRun_30 : decode cX2_hasRun 30 = .ok (.iconst 0, 1) := by decide +kernel
theorem dX2_hasRun_31 : decode cX2_hasRun 31 = .ok (.ireturn, 1) := by decide +kernel
theorem dX3_init_0 : decode cX3_init 0 = .ok (.aload_n 0, 1) := by decide +kernel
theorem dX3_init_1 : decode cX3_init 1 = .ok (.invokespecial 3, 3) := by decide +kernel
theorem dX3_init_4 : decode cX3_init 4 = .ok (.aload_n 0, 1) := by decide +kernel
theorem dX3_init_5 : decode cX3_init 5 = .ok (.sipush 170, 3) := by decide +kernel
theorem dX3_init_8 : decode cX3_init 8 = .ok (.putfield 9, 3) := by decide +kernel
theorem dX3_init_11 : decode cX3_init 11 = .ok (.aload_n 0, 1) := by decide +kernel
theorem dX3_init_12 : decode cX3_init 12 = .ok (.bipush 10, 2) := by decide +kernel
theorem dX3_init_14 : decode cX3_init 14 = .ok (.anewarray 15, 3) := by decide +kernel
theorem dX3_init_17 : decode cX3_init 17 = .ok (.putfield 17, 3) := by decide +kernel
theorem dX3_init_20 : decode cX3_init 20 = .ok (.iconst 0, 1) := by decide +kernel
theorem dX3_init_21 : decode cX3_init 21 = .ok (.istore_n 1, 1) := by decide +kernel
theorem dX3_init_22 : decode cX3_init 22 = .ok (.iload_n 1, 1) := by decide +kernel
theorem dX3_init_23 : decode cX3_init 23 = .ok (.bipush 10, 2) := by decide +kernel
theorem dX3_init_25 : decode cX3_init 25 = .ok (.if_icmp .ge 22, 3) := by decide +kernel
theorem dX3_init_28 : decode cX3_init 28 = .ok (.aload_n 0, 1) := by decide +kernel
theorem dX3_init_29 : decode cX3_init 29 = .ok (.getfield 17, 3) := by decide +kernel
theorem dX3_init_32 : decode cX3_init 32 = .ok (.iload_n 1, 1) := by decide +kernel
theorem dX3_init_33 : decode cX3_init 33 = .ok (.new 15, 3) := by decide +kernel
theorem dX3_init_36 : decode cX3_init 36 = .ok (.dup, 1) := by decide +kernel
theorem dX3_init_37 : decode cX3_init 37 = .ok (.invokespecial 21, 3) := by decide +kernel
theorem dX3_init_40 : decode cX3_init 40 = .ok (.aastore, 1) := by decide +kernel
theorem dX3_init_41 : decode cX3_init 41 = .ok (.iinc 1 1, 3) := by decide +kernel
theorem dX3_init_44 : decode cX3_init 44 = .ok (.goto (-22), 3) := by decide +kernel
theorem dX3_init_47 : decode cX3_init 47 = .ok (.return_, 1) := by decide +kernel
theorem dX3_become_0 : decode cX3_become 0 = .ok (.aload_n 0, 1) := by decide +kernel
theorem dX3_become_1 : decode cX3_become 1 = .ok (.aload_n 1, 1) := by decide +kernel
theorem dX3_become_2 : decode cX3_become 2 = .ok (.getfield 22, 3) := by decide +kernel
theorem dX3_become_5 : decode cX3_become 5 = .ok (.putfield 22, 3) := by decide +kernel
theorem dX3_become_8 : decode cX3_become 8 = .ok (.aload_n 0, 1) := by decide +kernel
theorem dX3_become_9 : decode cX3_become 9 = .ok (.aload_n 1, 1) := by decide +kernel
theorem dX3_become_10 : decode cX3_become 10 = .ok (.getfield 9, 3) := by decide +kernel
theorem dX3_become_13 : decode cX3_become 13 = .ok (.putfield 9, 3) := by decide +kernel
theorem dX3_become_16 : decode cX3_become 16 = .ok (.aload_n 0, 1) := by decide +kernel
theorem dX3_become_17 : decode cX3_become 17 = .ok (.aload_n 1, 1) := by decide +kernel
theorem dX3_become_18 : decode cX3_become 18 = .ok (.getfield 25, 3) := by decide +kernel
theorem dX3_become_21 : decode cX3_become 21 = .ok (.putfield 25, 3) := by decide +kernel
theorem dX3_become_24 : decode cX3_become 24 = .ok (.aload_n 0, 1) := by decide +kernel
theorem dX3_become_25 : decode cX3_become 25 = .ok (.aload_n 1, 1) := by decide +kernel
theorem dX3_become_26 : decode cX3_become 26 = .ok (.getfield 28, 3) := by decide +kernel
theorem dX3_become_29 : decode cX3_become 29 = .ok (.putfield 28, 3) := by decide +kernel
theorem dX3_become_32 : decode cX3_become 32 = .ok (.iconst 0, 1) := by decide +kernel
theorem dX3_become_33 : decode cX3_become 33 = .ok (.istore_n 2, 1) := by decide +kernel
theorem dX3_become_34 : decode cX3_become 34 = .ok (.iload_n 2, 1) := by decide +kernel
theorem dX3_become_35 : decode cX3_become 35 = .ok (.aload_n 0, 1) := by decide +kernel
theorem dX3_become_36 : decode cX3_become 36 = .ok (.getfield 28, 3) := by decide +kernel
theorem dX3_become_39 : decode cX3_become 39 = .ok (.if_icmp .ge 24, 3) := by decide +kernel
theorem dX3_become_42 : decode cX3_become 42 = .ok (.aload_n 0, 1) := by decide +kernel
theorem dX3_become_43 : decode cX3_become 43 = .ok (.getfield 17, 3) := by decide +kernel
theorem dX3_become_46 : decode cX3_become 46 = .ok (.iload_n 2, 1) := by decide +kernel
theorem dX3_become_47 : decode cX3_become 47 = .ok (.aaload, 1) := by decide +kernel
theorem dX3_become_48 : decode cX3_become 48 = .ok (.aload_n 1, 1) := by decide +kernel
theorem dX3_become_49 : decode cX3_become 49 = .ok (.getfield 17, 3) := by decide +kernel
theorem dX3_become_52 : decode cX3_become 52 = .ok (.iload_n 2, 1) := by decide +kernel
theorem dX3_become_53 : decode cX3_become 53 = .ok (.aaload, 1) := by decide +kernel
theorem dX3_become_54 : decode cX3_become 54 = .ok (.invokevirtual 31, 3) := by decide +kernel
theorem dX3_become_57 : decode cX3_become 57 = .ok (.iinc 2 1, 3) := by decide +kernel
theorem dX3_become_60 : decode cX3_become 60 = .ok (.goto (-26), 3) := by decide +kernel
theorem dX3_become_63 : decode cX3_become 63 = .ok (.return_, 1) := by decide +kernel
theorem dX3_has_0 : decode cX3_has 0 = .ok (.iload_n 1, 1) := by decide +kernel
theorem dX3_has_1 : decode cX3_has 1 = .ok (.ifCond .lt 15, 3) := by decide +kernel
theorem dX3_has_4 : decode cX3_has 4 = .ok (.iload_n 1, 1) := by decide +kernel
theorem dX3_has_5 : decode cX3_has 5 = .ok (.aload_n 0, 1) := by decide +kernel
theorem dX3_has_6 : decode cX3_has 6 = .ok (.getfield 28, 3) := by decide +kernel
theorem dX3_has_9 : decode cX3_has 9 = .ok (.if_icmp .ge 7, 3) := by decide +kernel
theorem dX3_has_12 : decode cX3_has 12 = .ok (.iconst 1, 1) := by decide +kernel
theorem dX3_has_13 : decode cX3_has 13 = .ok (.goto 4, 3) := by decide +kernel
theorem dX3_has_16 : decode cX3_has 16 = .ok (.iconst 0, 1) := by decide +kernel
theorem dX3_has_17 : decode cX3_has 17 = .ok (.ireturn, 1) := by decide +kernel
theorem dX3_isFull_0 : decode cX3_isFull 0 = .ok (.aload_n 0, 1) := by decide +kernel
theorem dX3_isFull_1 : decode cX3_isFull 1 = .ok (.getfield 28, 3) := by decide +kernel
theorem dX3_isFull_4 : decode cX3_isFull 4 = .ok (.bipush 10, 2) := by decide +kernel
theorem dX3_isFull_6 : decode cX3_isFull 6 = .ok (.if_icmp .lt 7, 3) := by decide +kernel
theorem dX3_isFull_9 : decode cX3_isFull 9 = .ok (.iconst 1, 1) := by decide +kernel
theorem dX3_isFull_10 : decode cX3_isFull 10 = .ok (.goto 4, 3) := by decide +kernel
theorem dX3_isFull_13 : decode cX3_isFull 13 = .ok (.iconst 0, 1) := by decide +kernel
theorem dX3_isFull_14 : decode cX3_isFull 14 = .ok (.ireturn, 1) := by decide +kernel
theorem dX3_add_0 : decode cX3_add 0 = .ok (.aload_n 0, 1) := by decide +kernel
theorem dX3_add_1 : decode cX3_add 1 = .ok (.invokevirtual 35, 3) := by decide +kernel
theorem dX3_add_4 : decode cX3_add 4 = .ok (.ifCond .ne 27, 3) := by decide +kernel
theorem dX3_add_7 : decode cX3_add 7 = .ok (.aload_n 0, 1) := by decide +kernel
theorem dX3_add_8 : decode cX3_add 8 = .ok (.getfield 17, 3) := by decide +kernel
theorem dX3_add_11 : decode cX3_add 11 = .ok (.aload_n 0, 1) := by decide +kernel
theorem dX3_add_12 : decode cX3_add 12 = .ok (.getfield 28, 3) := by decide +kernel
theorem dX3_add_15 : decode cX3_add 15 = .ok (.aaload, 1) := by decide +kernel
theorem dX3_add_16 : decode cX3_add 16 = .ok (.iload_n 1, 1) := by decide +kernel
theorem dX3_add_17 : decode cX3_add 17 = .ok (.iload_n 2, 1) := by decide +kernel
theorem dX3_add_18 : decode cX3_add 18 = .ok (.invokevirtual 39, 3) := by decide +kernel
theorem dX3_add_21 : decode cX3_add 21 = .ok (.aload_n 0, 1) := by decide +kernel
theorem dX3_add_22 : decode cX3_add 22 = .ok (.dup, 1) := by decide +kernel
theorem dX3_add_23 : decode cX3_add 23 = .ok (.getfield 28, 3) := by decide +kernel
theorem dX3_add_26 : decode cX3_add 26 = .ok (.iconst 1, 1) := by decide +kernel
theorem dX3_add_27 : decode cX3_add 27 = .ok (.iadd, 1) := by decide +kernel
theorem dX3_add_28 : decode cX3_add 28 = .ok (.putfield 28, 3) := by decide +kernel
theorem dX3_add_31 : decode cX3_add 31 = .ok (.return_, 1) := by decide +kernel
theorem dX3_question_0 : decode cX3_question 0 = .ok (.aload_n 0, 1) := by decide +kernel
theorem dX3_question_1 : decode cX3_question 1 = .ok (.getfield 22, 3) := by decide +kernel
theorem dX3_question_4 : decode cX3_question 4 = .ok (.bipush 8, 2) := by decide +kernel
theorem dX3_question_6 : decode cX3_question 6 = .ok (.irem, 1) := by decide +kernel
theorem dX3_question_7 : decode cX3_question 7 = .ok (.ireturn, 1) := by decide +kernel
theorem dX3_trueOnes_0 : decode cX3_trueOnes 0 = .ok (.aload_n 0, 1) := by decide +kernel
theorem dX3_trueOnes_1 : decode cX3_trueOnes 1 = .ok (.getfield 25, 3) := by decide +kernel
theorem dX3_trueOnes_4 : decode cX3_trueOnes 4 = .ok (.aload_n 0, 1) := by decide +kernel
theorem dX3_trueOnes_5 : decode cX3_trueOnes 5 = .ok (.getfield 9, 3) := by decide +kernel
theorem dX3_trueOnes_8 : decode cX3_trueOnes 8 = .ok (.ixor, 1) := by decide +kernel
theorem dX3_trueOnes_9 : decode cX3_trueOnes 9 = .ok (.iconst (-1), 1) := by decide +kernel
theorem dX3_trueOnes_10 : decode cX3_trueOnes 10 = .ok (.ixor, 1) := by decide +kernel
theorem dX3_trueOnes_11 : decode cX3_trueOnes 11 = .ok (.sipush 255, 3) := by decide +kernel
theorem dX3_trueOnes_14 : decode cX3_trueOnes 14 = .ok (.iand, 1) := by decide +kernel
theorem dX3_trueOnes_15 : decode cX3_trueOnes 15 = .ok (.ireturn, 1) := by decide +kernel
theorem dX3_hatsOn_0 : decode cX3_hatsOn 0 = .ok (.iconst 0, 1) := by decide +kernel
theorem dX3_hatsOn_1 : decode cX3_hatsOn 1 = .ok (.istore_n 1, 1) := by decide +kernel
theorem dX3_hatsOn_2 : decode cX3_hatsOn 2 = .ok (.iconst 0, 1) := by decide +kernel
theorem dX3_hatsOn_3 : decode cX3_hatsOn 3 = .ok (.istore_n 2, 1) := by decide +kernel
theorem dX3_hatsOn_4 : decode cX3_hatsOn 4 = .ok (.iload_n 2, 1) := by decide +kernel
theorem dX3_hatsOn_5 : decode cX3_hatsOn 5 = .ok (.aload_n 0, 1) := by decide +kernel
theorem dX3_hatsOn_6 : decode cX3_hatsOn 6 = .ok (.getfield 28, 3) := by decide +kernel
theorem dX3_hatsOn_9 : decode cX3_hatsOn 9 = .ok (.if_icmp .ge 23, 3) := by decide +kernel
theorem dX3_hatsOn_12 : decode cX3_hatsOn 12 = .ok (.iload_n 1, 1) := by decide +kernel
theorem dX3_hatsOn_13 : decode cX3_hatsOn 13 = .ok (.aload_n 0, 1) := by decide +kernel
theorem dX3_hatsOn_14 : decode cX3_hatsOn 14 = .ok (.getfield 17, 3) := by decide +kernel
theorem dX3_hatsOn_17 : decode cX3_hatsOn 17 = .ok (.iload_n 2, 1) := by decide +kernel
theorem dX3_hatsOn_18 : decode cX3_hatsOn 18 = .ok (.aaload, 1) := by decide +kernel
theorem dX3_hatsOn_19 : decode cX3_hatsOn 19 = .ok (.getfield 43, 3) := by decide +kernel
theorem dX3_hatsOn_22 : decode cX3_hatsOn 22 = .ok (.iload_n 2, 1) := by decide +kernel
theorem dX3_hatsOn_23 : decode cX3_hatsOn 23 = .ok (.ishl, 1) := by decide +kernel
theorem dX3_hatsOn_24 : decode cX3_hatsOn 24 = .ok (.ior, 1) := by decide +kernel
theorem dX3_hatsOn_25 : decode cX3_hatsOn 25 = .ok (.istore_n 1, 1) := by decide +kernel
theorem dX3_hatsOn_26 : decode cX3_hatsOn 26 = .ok (.iinc 2 1, 3) := by decide +kernel
theorem dX3_hatsOn_29 : decode cX3_hatsOn 29 = .ok (.goto (-25), 3) := by decide +kernel
theorem dX3_hatsOn_32 : decode cX3_hatsOn 32 = .ok (.iload_n 1, 1) := by decide +kernel
theorem dX3_hatsOn_33 : decode cX3_hatsOn 33 = .ok (.ireturn, 1) := by decide +kernel
theorem dX3_sum_0 : decode cX3_sum 0 = .ok (.iconst 0, 1) := by decide +kernel
theorem dX3_sum_1 : decode cX3_sum 1 = .ok (.istore_n 2, 1) := by decide +kernel
theorem dX3_sum_2 : decode cX3_sum 2 = .ok (.iconst 0, 1) := by decide +kernel
theorem dX3_sum_3 : decode cX3_sum 3 = .ok (.istore_n 3, 1) := by decide +kernel
theorem dX3_sum_4 : decode cX3_sum 4 = .ok (.iload_n 3, 1) := by decide +kernel
theorem dX3_sum_5 : decode cX3_sum 5 = .ok (.aload_n 0, 1) := by decide +kernel
theorem dX3_sum_6 : decode cX3_sum 6 = .ok (.getfield 28, 3) := by decide +kernel
theorem dX3_sum_9 : decode cX3_sum 9 = .ok (.if_icmp .ge 22, 3) := by decide +kernel
theorem dX3_sum_12 : decode cX3_sum 12 = .ok (.iload_n 2, 1) := by decide +kernel
theorem dX3_sum_13 : decode cX3_sum 13 = .ok (.aload_n 0, 1) := by decide +kernel
theorem dX3_sum_14 : decode cX3_sum 14 = .ok (.getfield 17, 3) := by decide +kernel
theorem dX3_sum_17 : decode cX3_sum 17 = .ok (.iload_n 3, 1) := by decide +kernel
theorem dX3_sum_18 : decode cX3_sum 18 = .ok (.aaload, 1) := by decide +kernel
theorem dX3_sum_19 : decode cX3_sum 19 = .ok (.iload_n 1, 1) := by decide +kernel
theorem dX3_sum_20 : decode cX3_sum 20 = .ok (.invokevirtual 46, 3) := by decide +kernel
theorem dX3_sum_23 : decode cX3_sum 23 = .ok (.iadd, 1) := by decide +kernel
theorem dX3_sum_24 : decode cX3_sum 24 = .ok (.istore_n 2, 1) := by decide +kernel
theorem dX3_sum_25 : decode cX3_sum 25 = .ok (.iinc 3 1, 3) := by decide +kernel
theorem dX3_sum_28 : decode cX3_sum 28 = .ok (.goto (-24), 3) := by decide +kernel
theorem dX3_sum_31 : decode cX3_sum 31 = .ok (.iload_n 2, 1) := by decide +kernel
theorem dX3_sum_32 : decode cX3_sum 32 = .ok (.ireturn, 1) := by decide +kernel
theorem dX3_word_0 : decode cX3_word 0 = .ok (.aload_n 0, 1) := by decide +kernel
theorem dX3_word_1 : decode cX3_word 1 = .ok (.iload_n 1, 1) := by decide +kernel
theorem dX3_word_2 : decode cX3_word 2 = .ok (.invokevirtual 50, 3) := by decide +kernel
theorem dX3_word_5 : decode cX3_word 5 = .ok (.ifCond .eq 23, 3) := by decide +kernel
theorem dX3_word_8 : decode cX3_word 8 = .ok (.aload_n 0, 1) := by decide +kernel
theorem dX3_word_9 : decode cX3_word 9 = .ok (.getfield 17, 3) := by decide +kernel
theorem dX3_word_12 : decode cX3_word 12 = .ok (.iload_n 1, 1) := by decide +kernel
theorem dX3_word_13 : decode cX3_word 13 = .ok (.aaload, 1) := by decide +kernel
theorem dX3_word_14 : decode cX3_word 14 = .ok (.aload_n 0, 1) := by decide +kernel
theorem dX3_word_15 : decode cX3_word 15 = .ok (.invokevirtual 54, 3) := by decide +kernel
theorem dX3_word_18 : decode cX3_word 18 = .ok (.aload_n 0, 1) := by decide +kernel
theorem dX3_word_19 : decode cX3_word 19 = .ok (.getfield 25, 3) := by decide +kernel
theorem dX3_word_22 : decode cX3_word 22 = .ok (.invokevirtual 58, 3) := by decide +kernel
theorem dX3_word_25 : decode cX3_word 25 = .ok (.goto 4, 3) := by decide +kernel
theorem dX3_word_28 : decode cX3_word 28 = .ok (.iconst (-1), 1) := by decide +kernel
theorem dX3_word_29 : decode cX3_word 29 = .ok (.ireturn, 1) := by decide +kernel
theorem dX3_ask_0 : decode cX3_ask 0 = .ok (.aload_n 0, 1) := by decide +kernel
theorem dX3_ask_1 : decode cX3_ask 1 = .ok (.invokevirtual 54, 3) := by decide +kernel
theorem dX3_ask_4 : decode cX3_ask 4 = .ok (.istore_n 1, 1) := by decide +kernel
theorem dX3_ask_5 : decode cX3_ask 5 = .ok (.aload_n 0, 1) := by decide +kernel
theorem dX3_ask_6 : decode cX3_ask 6 = .ok (.iconst 0, 1) := by decide +kernel
theorem dX3_ask_7 : decode cX3_ask 7 = .ok (.putfield 62, 3) := by decide +kernel
theorem dX3_ask_10 : decode cX3_ask 10 = .ok (.aload_n 0, 1) := by decide +kernel
theorem dX3_ask_11 : decode cX3_ask 11 = .ok (.iconst 0, 1) := by decide +kernel
theorem dX3_ask_12 : decode cX3_ask 12 = .ok (.putfield 65, 3) := by decide +kernel
theorem dX3_ask_15 : decode cX3_ask 15 = .ok (.iconst 0, 1) := by decide +kernel
theorem dX3_ask_16 : decode cX3_ask 16 = .ok (.istore_n 2, 1) := by decide +kernel
theorem dX3_ask_17 : decode cX3_ask 17 = .ok (.iload_n 2, 1) := by decide +kernel
theorem dX3_ask_18 : decode cX3_ask 18 = .ok (.aload_n 0, 1) := by decide +kernel
theorem dX3_ask_19 : decode cX3_ask 19 = .ok (.getfield 28, 3) := by decide +kernel
theorem dX3_ask_22 : decode cX3_ask 22 = .ok (.if_icmp .ge 92, 3) := by decide +kernel
theorem dX3_ask_25 : decode cX3_ask 25 = .ok (.aload_n 0, 1) := by decide +kernel
theorem dX3_ask_26 : decode cX3_ask 26 = .ok (.getfield 17, 3) := by decide +kernel
theorem dX3_ask_29 : decode cX3_ask 29 = .ok (.iload_n 2, 1) := by decide +kernel
theorem dX3_ask_30 : decode cX3_ask 30 = .ok (.aaload, 1) := by decide +kernel
theorem dX3_ask_31 : decode cX3_ask 31 = .ok (.astore_n 3, 1) := by decide +kernel
theorem dX3_ask_32 : decode cX3_ask 32 = .ok (.aload_n 3, 1) := by decide +kernel
theorem dX3_ask_33 : decode cX3_ask 33 = .ok (.aload_n 3, 1) := by decide +kernel
theorem dX3_ask_34 : decode cX3_ask 34 = .ok (.getfield 43, 3) := by decide +kernel
theorem dX3_ask_37 : decode cX3_ask 37 = .ok (.ifCond .ne 7, 3) := by decide +kernel
theorem dX3_ask_40 : decode cX3_ask 40 = .ok (.iconst (-1), 1) := by decide +kernel
theorem dX3_ask_41 : decode cX3_ask 41 = .ok (.goto 12, 3) := by decide +kernel
theorem dX3_ask_44 : decode cX3_ask 44 = .ok (.aload_n 3, 1) := by decide +kernel
theorem dX3_ask_45 : decode cX3_ask 45 = .ok (.iload_n 1, 1) := by decide +kernel
theorem dX3_ask_46 : decode cX3_ask 46 = .ok (.aload_n 0, 1) := by decide +kernel
theorem dX3_ask_47 : decode cX3_ask 47 = .ok (.getfield 25, 3) := by decide +kernel
theorem dX3_ask_50 : decode cX3_ask 50 = .ok (.invokevirtual 58, 3) := by decide +kernel
theorem dX3_ask_53 : decode cX3_ask 53 = .ok (.putfield 68, 3) := by decide +kernel
theorem dX3_ask_56 : decode cX3_ask 56 = .ok (.aload_n 3, 1) := by decide +kernel
theorem dX3_ask_57 : decode cX3_ask 57 = .ok (.getfield 68, 3) := by decide +kernel
theorem dX3_ask_60 : decode cX3_ask 60 = .ok (.iconst 1, 1) := by decide +kernel
theorem dX3_ask_61 : decode cX3_ask 61 = .ok (.if_icmp .ne 23, 3) := by decide +kernel
theorem dX3_ask_64 : decode cX3_ask 64 = .ok (.aload_n 0, 1) := by decide +kernel
theorem dX3_ask_65 : decode cX3_ask 65 = .ok (.dup, 1) := by decide +kernel
theorem dX3_ask_66 : decode cX3_ask 66 = .ok (.getfield 62, 3) := by decide +kernel
theorem dX3_ask_69 : decode cX3_ask 69 = .ok (.aload_n 3, 1) := by decide +kernel
theorem dX3_ask_70 : decode cX3_ask 70 = .ok (.aload_n 0, 1) := by decide +kernel
theorem dX3_ask_71 : decode cX3_ask 71 = .ok (.getfield 22, 3) := by decide +kernel
theorem dX3_ask_74 : decode cX3_ask 74 = .ok (.invokevirtual 71, 3) := by decide +kernel
theorem dX3_ask_77 : decode cX3_ask 77 = .ok (.iadd, 1) := by decide +kernel
theorem dX3_ask_78 : decode cX3_ask 78 = .ok (.putfield 62, 3) := by decide +kernel
theorem dX3_ask_81 : decode cX3_ask 81 = .ok (.goto 27, 3) := by decide +kernel
theorem dX3_ask_84 : decode cX3_ask 84 = .ok (.aload_n 3, 1) := by decide +kernel
theorem dX3_ask_85 : decode cX3_ask 85 = .ok (.getfield 68, 3) := by decide +kernel
theorem dX3_ask_88 : decode cX3_ask 88 = .ok (.ifCond .ne 20, 3) := by decide +kernel
theorem dX3_ask_91 : decode cX3_ask 91 = .ok (.aload_n 0, 1) := by decide +kernel
theorem dX3_ask_92 : decode cX3_ask 92 = .ok (.dup, 1) := by decide +kernel
theorem dX3_ask_93 : decode cX3_ask 93 = .ok (.getfield 65, 3) := by decide +kernel
theorem dX3_ask_96 : decode cX3_ask 96 = .ok (.aload_n 3, 1) := by decide +kernel
theorem dX3_ask_97 : decode cX3_ask 97 = .ok (.aload_n 0, 1) := by decide +kernel
theorem dX3_ask_98 : decode cX3_ask 98 = .ok (.getfield 22, 3) := by decide +kernel
theorem dX3_ask_101 : decode cX3_ask 101 = .ok (.invokevirtual 71, 3) := by decide +kernel
theorem dX3_ask_104 : decode cX3_ask 104 = .ok (.iadd, 1) := by decide +kernel
theorem dX3_ask_105 : decode cX3_ask 105 = .ok (.putfield 65, 3) := by decide +kernel
theorem dX3_ask_108 : decode cX3_ask 108 = .ok (.iinc 2 1, 3) := by decide +kernel
theorem dX3_ask_111 : decode cX3_ask 111 = .ok (.goto (-94), 3) := by decide +kernel
theorem dX3_ask_114 : decode cX3_ask 114 = .ok (.return_, 1) := by decide +kernel
theorem dX3_verdict_0 : decode cX3_verdict 0 = .ok (.aload_n 0, 1) := by decide +kernel
theorem dX3_verdict_1 : decode cX3_verdict 1 = .ok (.getfield 62, 3) := by decide +kernel
theorem dX3_verdict_4 : decode cX3_verdict 4 = .ok (.aload_n 0, 1) := by decide +kernel
theorem dX3_verdict_5 : decode cX3_verdict 5 = .ok (.getfield 65, 3) := by decide +kernel
theorem dX3_verdict_8 : decode cX3_verdict 8 = .ok (.if_icmp .ne 15, 3) := by decide +kernel
theorem dX3_verdict_11 : decode cX3_verdict 11 = .ok (.aload_n 0, 1) := by decide +kernel
theorem dX3_verdict_12 : decode cX3_verdict 12 = .ok (.getfield 25, 3) := by decide +kernel
theorem dX3_verdict_15 : decode cX3_verdict 15 = .ok (.aload_n 0, 1) := by decide +kernel
theorem dX3_verdict_16 : decode cX3_verdict 16 = .ok (.invokevirtual 54, 3) := by decide +kernel
theorem dX3_verdict_19 : decode cX3_verdict 19 = .ok (.invokestatic 74, 3) := by decide +kernel
theorem dX3_verdict_22 : decode cX3_verdict 22 = .ok (.ireturn, 1) := by decide +kernel
theorem dX3_verdict_23 : decode cX3_verdict 23 = .ok (.aload_n 0, 1) := by decide +kernel
theorem dX3_verdict_24 : decode cX3_verdict 24 = .ok (.getfield 62, 3) := by decide +kernel
theorem dX3_verdict_27 : decode cX3_verdict 27 = .ok (.aload_n 0, 1) := by decide +kernel
theorem dX3_verdict_28 : decode cX3_verdict 28 = .ok (.getfield 65, 3) := by decide +kernel
theorem dX3_verdict_31 : decode cX3_verdict 31 = .ok (.if_icmp .le 7, 3) := by decide +kernel
theorem dX3_verdict_34 : decode cX3_verdict 34 = .ok (.iconst 1, 1) := by decide +kernel
theorem dX3_verdict_35 : decode cX3_verdict 35 = .ok (.goto 4, 3) := by decide +kernel
theorem dX3_verdict_38 : decode cX3_verdict 38 = .ok (.iconst 0, 1) := by decide +kernel
theorem dX3_verdict_39 : decode cX3_verdict 39 = .ok (.ireturn, 1) := by decide +kernel
theorem dX3_go_0 : decode cX3_go 0 = .ok (.iconst 0, 1) := by decide +kernel
theorem dX3_go_1 : decode cX3_go 1 = .ok (.istore_n 2, 1) := by decide +kernel
theorem dX3_go_2 : decode cX3_go 2 = .ok (.iload_n 2, 1) := by decide +kernel
theorem dX3_go_3 : decode cX3_go 3 = .ok (.iload_n 1, 1) := by decide +kernel
theorem dX3_go_4 : decode cX3_go 4 = .ok (.if_icmp .ge 79, 3) := by decide +kernel
theorem dX3_go_7 : decode cX3_go 7 = .ok (.aload_n 0, 1) := by decide +kernel
theorem dX3_go_8 : decode cX3_go 8 = .ok (.invokevirtual 54, 3) := by decide +kernel
theorem dX3_go_11 : decode cX3_go 11 = .ok (.istore_n 3, 1) := by decide +kernel
theorem dX3_go_12 : decode cX3_go 12 = .ok (.aload_n 0, 1) := by decide +kernel
theorem dX3_go_13 : decode cX3_go 13 = .ok (.invokevirtual 77, 3) := by decide +kernel
theorem dX3_go_16 : decode cX3_go 16 = .ok (.aload_n 0, 1) := by decide +kernel
theorem dX3_go_17 : decode cX3_go 17 = .ok (.aload_n 0, 1) := by decide +kernel
theorem dX3_go_18 : decode cX3_go 18 = .ok (.getfield 25, 3) := by decide +kernel
theorem dX3_go_21 : decode cX3_go 21 = .ok (.iconst 1, 1) := by decide +kernel
theorem dX3_go_22 : decode cX3_go 22 = .ok (.iload_n 3, 1) := by decide +kernel
theorem dX3_go_23 : decode cX3_go 23 = .ok (.ishl, 1) := by decide +kernel
theorem dX3_go_24 : decode cX3_go 24 = .ok (.iconst (-1), 1) := by decide +kernel
theorem dX3_go_25 : decode cX3_go 25 = .ok (.ixor, 1) := by decide +kernel
theorem dX3_go_26 : decode cX3_go 26 = .ok (.iand, 1) := by decide +kernel
theorem dX3_go_27 : decode cX3_go 27 = .ok (.aload_n 0, 1) := by decide +kernel
theorem dX3_go_28 : decode cX3_go 28 = .ok (.invokevirtual 80, 3) := by decide +kernel
theorem dX3_go_31 : decode cX3_go 31 = .ok (.iload_n 3, 1) := by decide +kernel
theorem dX3_go_32 : decode cX3_go 32 = .ok (.ishl, 1) := by decide +kernel
theorem dX3_go_33 : decode cX3_go 33 = .ok (.ior, 1) := by decide +kernel
theorem dX3_go_34 : decode cX3_go 34 = .ok (.putfield 25, 3) := by decide +kernel
theorem dX3_go_37 : decode cX3_go 37 = .ok (.iconst 0, 1) := by decide +kernel
theorem dX3_go_38 : decode cX3_go 38 = .ok (.istore 4, 2) := by decide +kernel
theorem dX3_go_40 : decode cX3_go 40 = .ok (.iload 4, 2) := by decide +kernel
theorem dX3_go_42 : decode cX3_go 42 = .ok (.aload_n 0, 1) := by decide +kernel
theorem dX3_go_43 : decode cX3_go 43 = .ok (.getfield 28, 3) := by decide +kernel
theorem dX3_go_46 : decode cX3_go 46 = .ok (.if_icmp .ge 21, 3) := by decide +kernel
theorem dX3_go_49 : decode cX3_go 49 = .ok (.aload_n 0, 1) := by decide +kernel
theorem dX3_go_50 : decode cX3_go 50 = .ok (.aload_n 0, 1) := by decide +kernel
theorem dX3_go_51 : decode cX3_go 51 = .ok (.getfield 17, 3) := by decide +kernel
theorem dX3_go_54 : decode cX3_go 54 = .ok (.iload 4, 2) := by decide +kernel
theorem dX3_go_56 : decode cX3_go 56 = .ok (.aaload, 1) := by decide +kernel
theorem dX3_go_57 : decode cX3_go 57 = .ok (.iload_n 3, 1) := by decide +kernel
theorem dX3_go_58 : decode cX3_go 58 = .ok (.invokevirtual 83, 3) := by decide +kernel
theorem dX3_go_61 : decode cX3_go 61 = .ok (.iinc 4 1, 3) := by decide +kernel
theorem dX3_go_64 : decode cX3_go 64 = .ok (.goto (-24), 3) := by decide +kernel
theorem dX3_go_67 : decode cX3_go 67 = .ok (.aload_n 0, 1) := by decide +kernel
theorem dX3_go_68 : decode cX3_go 68 = .ok (.dup, 1) := by decide +kernel
theorem dX3_go_69 : decode cX3_go 69 = .ok (.getfield 22, 3) := by decide +kernel
theorem dX3_go_72 : decode cX3_go 72 = .ok (.iconst 1, 1) := by decide +kernel
theorem dX3_go_73 : decode cX3_go 73 = .ok (.iadd, 1) := by decide +kernel
theorem dX3_go_74 : decode cX3_go 74 = .ok (.putfield 22, 3) := by decide +kernel
theorem dX3_go_77 : decode cX3_go 77 = .ok (.iinc 2 1, 3) := by decide +kernel
theorem dX3_go_80 : decode cX3_go 80 = .ok (.goto (-78), 3) := by decide +kernel
theorem dX3_go_83 : decode cX3_go 83 = .ok (.return_, 1) := by decide +kernel
theorem dX3_judge_0 : decode cX3_judge 0 = .ok (.aload_n 1, 1) := by decide +kernel
theorem dX3_judge_1 : decode cX3_judge 1 = .ok (.getfield 68, 3) := by decide +kernel
theorem dX3_judge_4 : decode cX3_judge 4 = .ok (.iconst (-1), 1) := by decide +kernel
theorem dX3_judge_5 : decode cX3_judge 5 = .ok (.if_icmp .ne 4, 3) := by decide +kernel
theorem dX3_judge_8 : decode cX3_judge 8 = .ok (.return_, 1) := by decide +kernel
theorem dX3_judge_9 : decode cX3_judge 9 = .ok (.aload_n 1, 1) := by decide +kernel
theorem dX3_judge_10 : decode cX3_judge 10 = .ok (.getfield 68, 3) := by decide +kernel
theorem dX3_judge_13 : decode cX3_judge 13 = .ok (.aload_n 0, 1) := by decide +kernel
theorem dX3_judge_14 : decode cX3_judge 14 = .ok (.getfield 9, 3) := by decide +kernel
theorem dX3_judge_17 : decode cX3_judge 17 = .ok (.iload_n 2, 1) := by decide +kernel
theorem dX3_judge_18 : decode cX3_judge 18 = .ok (.invokestatic 74, 3) := by decide +kernel
theorem dX3_judge_21 : decode cX3_judge 21 = .ok (.if_icmp .ne 10, 3) := by decide +kernel
theorem dX3_judge_24 : decode cX3_judge 24 = .ok (.aload_n 1, 1) := by decide +kernel
theorem dX3_judge_25 : decode cX3_judge 25 = .ok (.invokevirtual 87, 3) := by decide +kernel
theorem dX3_judge_28 : decode cX3_judge 28 = .ok (.goto 16, 3) := by decide +kernel
theorem dX3_judge_31 : decode cX3_judge 31 = .ok (.aload_n 1, 1) := by decide +kernel
theorem dX3_judge_32 : decode cX3_judge 32 = .ok (.aload_n 0, 1) := by decide +kernel
theorem dX3_judge_33 : decode cX3_judge 33 = .ok (.getfield 22, 3) := by decide +kernel
theorem dX3_judge_36 : decode cX3_judge 36 = .ok (.iload_n 2, 1) := by decide +kernel
theorem dX3_judge_37 : decode cX3_judge 37 = .ok (.aload_n 0, 1) := by decide +kernel
theorem dX3_judge_38 : decode cX3_judge 38 = .ok (.getfield 9, 3) := by decide +kernel
theorem dX3_judge_41 : decode cX3_judge 41 = .ok (.invokevirtual 90, 3) := by decide +kernel
theorem dX3_judge_44 : decode cX3_judge 44 = .ok (.return_, 1) := by decide +kernel
theorem dX4_init_0 : decode cX4_init 0 = .ok (.aload_n 0, 1) := by decide +kernel
theorem dX4_init_1 : decode cX4_init 1 = .ok (.invokespecial 3, 3) := by decide +kernel
theorem dX4_init_4 : decode cX4_init 4 = .ok (.aload_n 0, 1) := by decide +kernel
theorem dX4_init_5 : decode cX4_init 5 = .ok (.bipush 120, 2) := by decide +kernel
theorem dX4_init_7 : decode cX4_init 7 = .ok (.newarray .int, 2) := by decide +kernel
theorem dX4_init_9 : decode cX4_init 9 = .ok (.putfield 9, 3) := by decide +kernel
theorem dX4_init_12 : decode cX4_init 12 = .ok (.return_, 1) := by decide +kernel
theorem dX4_add_0 : decode cX4_add 0 = .ok (.aload_n 0, 1) := by decide +kernel
theorem dX4_add_1 : decode cX4_add 1 = .ok (.getfield 15, 3) := by decide +kernel
theorem dX4_add_4 : decode cX4_add 4 = .ok (.bipush 120, 2) := by decide +kernel
theorem dX4_add_6 : decode cX4_add 6 = .ok (.if_icmp .ge 23, 3) := by decide +kernel
theorem dX4_add_9 : decode cX4_add 9 = .ok (.aload_n 0, 1) := by decide +kernel
theorem dX4_add_10 : decode cX4_add 10 = .ok (.getfield 9, 3) := by decide +kernel
theorem dX4_add_13 : decode cX4_add 13 = .ok (.aload_n 0, 1) := by decide +kernel
theorem dX4_add_14 : decode cX4_add 14 = .ok (.getfield 15, 3) := by decide +kernel
theorem dX4_add_17 : decode cX4_add 17 = .ok (.iload_n 1, 1) := by decide +kernel
theorem dX4_add_18 : decode cX4_add 18 = .ok (.iastore, 1) := by decide +kernel
theorem dX4_add_19 : decode cX4_add 19 = .ok (.aload_n 0, 1) := by decide +kernel
theorem dX4_add_20 : decode cX4_add 20 = .ok (.dup, 1) := by decide +kernel
theorem dX4_add_21 : decode cX4_add 21 = .ok (.getfield 15, 3) := by decide +kernel
theorem dX4_add_24 : decode cX4_add 24 = .ok (.iconst 1, 1) := by decide +kernel
theorem dX4_add_25 : decode cX4_add 25 = .ok (.iadd, 1) := by decide +kernel
theorem dX4_add_26 : decode cX4_add 26 = .ok (.putfield 15, 3) := by decide +kernel
theorem dX4_add_29 : decode cX4_add 29 = .ok (.return_, 1) := by decide +kernel
theorem dX4_isAt_0 : decode cX4_isAt 0 = .ok (.iload_n 1, 1) := by decide +kernel
theorem dX4_isAt_1 : decode cX4_isAt 1 = .ok (.ifCond .lt 35, 3) := by decide +kernel
theorem dX4_isAt_4 : decode cX4_isAt 4 = .ok (.iload_n 1, 1) := by decide +kernel
theorem dX4_isAt_5 : decode cX4_isAt 5 = .ok (.aload_n 0, 1) := by decide +kernel
theorem dX4_isAt_6 : decode cX4_isAt 6 = .ok (.getfield 15, 3) := by decide +kernel
theorem dX4_isAt_9 : decode cX4_isAt 9 = .ok (.if_icmp .ge 27, 3) := by decide +kernel
theorem dX4_isAt_12 : decode cX4_isAt 12 = .ok (.aload_n 0, 1) := by decide +kernel
theorem dX4_isAt_13 : decode cX4_isAt 13 = .ok (.getfield 9, 3) := by decide +kernel
theorem dX4_isAt_16 : decode cX4_isAt 16 = .ok (.iload_n 1, 1) := by decide +kernel
theorem dX4_isAt_17 : decode cX4_isAt 17 = .ok (.iaload, 1) := by decide +kernel
theorem dX4_isAt_18 : decode cX4_isAt 18 = .ok (.iload_n 2, 1) := by decide +kernel
theorem dX4_isAt_19 : decode cX4_isAt 19 = .ok (.if_icmp .lt 17, 3) := by decide +kernel
theorem dX4_isAt_22 : decode cX4_isAt 22 = .ok (.aload_n 0, 1) := by decide +kernel
theorem dX4_isAt_23 : decode cX4_isAt 23 = .ok (.getfield 9, 3) := by decide +kernel
theorem dX4_isAt_26 : decode cX4_isAt 26 = .ok (.iload_n 1, 1) := by decide +kernel
theorem dX4_isAt_27 : decode cX4_isAt 27 = .ok (.iaload, 1) := by decide +kernel
theorem dX4_isAt_28 : decode cX4_isAt 28 = .ok (.iload_n 3, 1) := by decide +kernel
theorem dX4_isAt_29 : decode cX4_isAt 29 = .ok (.if_icmp .gt 7, 3) := by decide +kernel
theorem dX4_isAt_32 : decode cX4_isAt 32 = .ok (.iconst 1, 1) := by decide +kernel
theorem dX4_isAt_33 : decode cX4_isAt 33 = .ok (.goto 4, 3) := by decide +kernel
theorem dX4_isAt_36 : decode cX4_isAt 36 = .ok (.iconst 0, 1) := by decide +kernel
theorem dX4_isAt_37 : decode cX4_isAt 37 = .ok (.ireturn, 1) := by decide +kernel
theorem dX4_endOfRun_0 : decode cX4_endOfRun 0 = .ok (.iload_n 1, 1) := by decide +kernel
theorem dX4_endOfRun_1 : decode cX4_endOfRun 1 = .ok (.ifCond .ge 7, 3) := by decide +kernel
theorem dX4_endOfRun_4 : decode cX4_endOfRun 4 = .ok (.iconst 0, 1) := by decide +kernel
theorem dX4_endOfRun_5 : decode cX4_endOfRun 5 = .ok (.goto 4, 3) := by decide +kernel
theorem dX4_endOfRun_8 : decode cX4_endOfRun 8 = .ok (.iload_n 1, 1) := by decide +kernel
theorem dX4_endOfRun_9 : decode cX4_endOfRun 9 = .ok (.istore 4, 2) := by decide +kernel
theorem dX4_endOfRun_11 : decode cX4_endOfRun 11 = .ok (.iload 4, 2) := by decide +kernel
theorem dX4_endOfRun_13 : decode cX4_endOfRun 13 = .ok (.aload_n 0, 1) := by decide +kernel
theorem dX4_endOfRun_14 : decode cX4_endOfRun 14 = .ok (.getfield 15, 3) := by decide +kernel
theorem dX4_endOfRun_17 : decode cX4_endOfRun 17 = .ok (.if_icmp .ge 31, 3) := by decide +kernel
theorem dX4_endOfRun_20 : decode cX4_endOfRun 20 = .ok (.aload_n 0, 1) := by decide +kernel
theorem dX4_endOfRun_21 : decode cX4_endOfRun 21 = .ok (.getfield 9, 3) := by decide +kernel
theorem dX4_endOfRun_24 : decode cX4_endOfRun 24 = .ok (.iload 4, 2) := by decide +kernel
theorem dX4_endOfRun_26 : decode cX4_endOfRun 26 = .ok (.iaload, 1) := by decide +kernel
theorem dX4_endOfRun_27 : decode cX4_endOfRun 27 = .ok (.iload_n 2, 1) := by decide +kernel
theorem dX4_endOfRun_28 : decode cX4_endOfRun 28 = .ok (.if_icmp .lt 20, 3) := by decide +kernel
theorem dX4_endOfRun_31 : decode cX4_endOfRun 31 = .ok (.aload_n 0, 1) := by decide +kernel
theorem dX4_endOfRun_32 : decode cX4_endOfRun 32 = .ok (.getfield 9, 3) := by decide +kernel
theorem dX4_endOfRun_35 : decode cX4_endOfRun 35 = .ok (.iload 4, 2) := by decide +kernel
theorem dX4_endOfRun_37 : decode cX4_endOfRun 37 = .ok (.iaload, 1) := by decide +kernel
theorem dX4_endOfRun_38 : decode cX4_endOfRun 38 = .ok (.iload_n 3, 1) := by decide +kernel
theorem dX4_endOfRun_39 : decode cX4_endOfRun 39 = .ok (.if_icmp .gt 9, 3) := by decide +kernel
theorem dX4_endOfRun_42 : decode cX4_endOfRun 42 = .ok (.iinc 4 1, 3) := by decide +kernel
theorem dX4_endOfRun_45 : decode cX4_endOfRun 45 = .ok (.goto (-34), 3) := by decide +kernel
theorem dX4_endOfRun_48 : decode cX4_endOfRun 48 = .ok (.iload 4, 2) := by decide +kernel
theorem dX4_endOfRun_50 : decode cX4_endOfRun 50 = .ok (.ireturn, 1) := by decide +kernel
theorem dX5_init_0 : decode cX5_init 0 = .ok (.aload_n 0, 1) := by decide +kernel
theorem dX5_init_1 : decode cX5_init 1 = .ok (.invokespecial 1, 3) := by decide +kernel
theorem dX5_init_4 : decode cX5_init 4 = .ok (.aload_n 0, 1) := by decide +kernel
theorem dX5_init_5 : decode cX5_init 5 = .ok (.new 7, 3) := by decide +kernel
theorem dX5_init_8 : decode cX5_init 8 = .ok (.dup, 1) := by decide +kernel
theorem dX5_init_9 : decode cX5_init 9 = .ok (.invokespecial 9, 3) := by decide +kernel
theorem dX5_init_12 : decode cX5_init 12 = .ok (.putfield 10, 3) := by decide +kernel
theorem dX5_init_15 : decode cX5_init 15 = .ok (.aload_n 0, 1) := by decide +kernel
theorem dX5_init_16 : decode cX5_init 16 = .ok (.new 7, 3) := by decide +kernel
theorem dX5_init_19 : decode cX5_init 19 = .ok (.dup, 1) := by decide +kernel
theorem dX5_init_20 : decode cX5_init 20 = .ok (.invokespecial 9, 3) := by decide +kernel
theorem dX5_init_23 : decode cX5_init 23 = .ok (.putfield 16, 3) := by decide +kernel
theorem dX5_init_26 : decode cX5_init 26 = .ok (.aload_n 0, 1) := by decide +kernel
theorem dX5_init_27 : decode cX5_init 27 = .ok (.new 7, 3) := by decide +kernel
theorem dX5_init_30 : decode cX5_init 30 = .ok (.dup, 1) := by decide +kernel
theorem dX5_init_31 : decode cX5_init 31 = .ok (.invokespecial 9, 3) := by decide +kernel
theorem dX5_init_34 : decode cX5_init 34 = .ok (.putfield 19, 3) := by decide +kernel
theorem dX5_init_37 : decode cX5_init 37 = .ok (.aload_n 0, 1) := by decide +kernel
theorem dX5_init_38 : decode cX5_init 38 = .ok (.new 22, 3) := by decide +kernel
theorem dX5_init_41 : decode cX5_init 41 = .ok (.dup, 1) := by decide +kernel
theorem dX5_init_42 : decode cX5_init 42 = .ok (.invokespecial 24, 3) := by decide +kernel
theorem dX5_init_45 : decode cX5_init 45 = .ok (.putfield 25, 3) := by decide +kernel
theorem dX5_init_48 : decode cX5_init 48 = .ok (.aload_n 0, 1) := by decide +kernel
theorem dX5_init_49 : decode cX5_init 49 = .ok (.new 29, 3) := by decide +kernel
theorem dX5_init_52 : decode cX5_init 52 = .ok (.dup, 1) := by decide +kernel
theorem dX5_init_53 : decode cX5_init 53 = .ok (.aload_n 0, 1) := by decide +kernel
theorem dX5_init_54 : decode cX5_init 54 = .ok (.getfield 25, 3) := by decide +kernel
theorem dX5_init_57 : decode cX5_init 57 = .ok (.aload_n 0, 1) := by decide +kernel
theorem dX5_init_58 : decode cX5_init 58 = .ok (.getfield 16, 3) := by decide +kernel
theorem dX5_init_61 : decode cX5_init 61 = .ok (.invokespecial 31, 3) := by decide +kernel
theorem dX5_init_64 : decode cX5_init 64 = .ok (.putfield 34, 3) := by decide +kernel
theorem dX5_init_67 : decode cX5_init 67 = .ok (.aload_n 0, 1) := by decide +kernel
theorem dX5_init_68 : decode cX5_init 68 = .ok (.iconst 4, 1) := by decide +kernel
theorem dX5_init_69 : decode cX5_init 69 = .ok (.anewarray 38, 3) := by decide +kernel
theorem dX5_init_72 : decode cX5_init 72 = .ok (.putfield 40, 3) := by decide +kernel
theorem dX5_init_75 : decode cX5_init 75 = .ok (.aload_n 0, 1) := by decide +kernel
theorem dX5_init_76 : decode cX5_init 76 = .ok (.bipush 7, 2) := by decide +kernel
theorem dX5_init_78 : decode cX5_init 78 = .ok (.newarray .int, 2) := by decide +kernel
theorem dX5_init_80 : decode cX5_init 80 = .ok (.putfield 44, 3) := by decide +kernel
theorem dX5_init_83 : decode cX5_init 83 = .ok (.iconst 0, 1) := by decide +kernel
theorem dX5_init_84 : decode cX5_init 84 = .ok (.istore_n 1, 1) := by decide +kernel
theorem dX5_init_85 : decode cX5_init 85 = .ok (.iload_n 1, 1) := by decide +kernel
theorem dX5_init_86 : decode cX5_init 86 = .ok (.iconst 4, 1) := by decide +kernel
theorem dX5_init_87 : decode cX5_init 87 = .ok (.if_icmp .ge 22, 3) := by decide +kernel
theorem dX5_init_90 : decode cX5_init 90 = .ok (.aload_n 0, 1) := by decide +kernel
theorem dX5_init_91 : decode cX5_init 91 = .ok (.getfield 40, 3) := by decide +kernel
theorem dX5_init_94 : decode cX5_init 94 = .ok (.iload_n 1, 1) := by decide +kernel
theorem dX5_init_95 : decode cX5_init 95 = .ok (.new 38, 3) := by decide +kernel
theorem dX5_init_98 : decode cX5_init 98 = .ok (.dup, 1) := by decide +kernel
theorem dX5_init_99 : decode cX5_init 99 = .ok (.invokespecial 48, 3) := by decide +kernel
theorem dX5_init_102 : decode cX5_init 102 = .ok (.aastore, 1) := by decide +kernel
theorem dX5_init_103 : decode cX5_init 103 = .ok (.iinc 1 1, 3) := by decide +kernel
theorem dX5_init_106 : decode cX5_init 106 = .ok (.goto (-21), 3) := by decide +kernel
theorem dX5_init_109 : decode cX5_init 109 = .ok (.return_, 1) := by decide +kernel
theorem dX5_holds_0 : decode cX5_holds 0 = .ok (.iload_n 1, 1) := by decide +kernel
theorem dX5_holds_1 : decode cX5_holds 1 = .ok (.iconst 0, 1) := by decide +kernel
theorem dX5_holds_2 : decode cX5_holds 2 = .ok (.iconst 1, 1) := by decide +kernel
theorem dX5_holds_3 : decode cX5_holds 3 = .ok (.invokestatic 49, 3) := by decide +kernel
theorem dX5_holds_6 : decode cX5_holds 6 = .ok (.ifCond .ne 14, 3) := by decide +kernel
theorem dX5_holds_9 : decode cX5_holds 9 = .ok (.iload_n 2, 1) := by decide +kernel
theorem dX5_holds_10 : decode cX5_holds 10 = .ok (.iconst 0, 1) := by decide +kernel
theorem dX5_holds_11 : decode cX5_holds 11 = .ok (.sipush 255, 3) := by decide +kernel
theorem dX5_holds_14 : decode cX5_holds 14 = .ok (.invokestatic 49, 3) := by decide +kernel
theorem dX5_holds_17 : decode cX5_holds 17 = .ok (.ifCond .eq 10, 3) := by decide +kernel
theorem dX5_holds_20 : decode cX5_holds 20 = .ok (.aload_n 0, 1) := by decide +kernel
theorem dX5_holds_21 : decode cX5_holds 21 = .ok (.ldc 53, 2) := by decide +kernel
theorem dX5_holds_23 : decode cX5_holds 23 = .ok (.invokevirtual 54, 3) := by decide +kernel
theorem dX5_holds_26 : decode cX5_holds 26 = .ok (.ireturn, 1) := by decide +kernel
theorem dX5_holds_27 : decode cX5_holds 27 = .ok (.iload_n 1, 1) := by decide +kernel
theorem dX5_holds_28 : decode cX5_holds 28 = .ok (.ifCond .ne 13, 3) := by decide +kernel
theorem dX5_holds_31 : decode cX5_holds 31 = .ok (.aload_n 0, 1) := by decide +kernel
theorem dX5_holds_32 : decode cX5_holds 32 = .ok (.getfield 10, 3) := by decide +kernel
theorem dX5_holds_35 : decode cX5_holds 35 = .ok (.getfield 58, 3) := by decide +kernel
theorem dX5_holds_38 : decode cX5_holds 38 = .ok (.goto 10, 3) := by decide +kernel
theorem dX5_holds_41 : decode cX5_holds 41 = .ok (.aload_n 0, 1) := by decide +kernel
theorem dX5_holds_42 : decode cX5_holds 42 = .ok (.getfield 10, 3) := by decide +kernel
theorem dX5_holds_45 : decode cX5_holds 45 = .ok (.getfield 62, 3) := by decide +kernel
theorem dX5_holds_48 : decode cX5_holds 48 = .ok (.istore_n 3, 1) := by decide +kernel
theorem dX5_holds_49 : decode cX5_holds 49 = .ok (.iload_n 1, 1) := by decide +kernel
theorem dX5_holds_50 : decode cX5_holds 50 = .ok (.ifCond .ne 14, 3) := by decide +kernel
theorem dX5_holds_53 : decode cX5_holds 53 = .ok (.aload_n 0, 1) := by decide +kernel
theorem dX5_holds_54 : decode cX5_holds 54 = .ok (.getfield 10, 3) := by decide +kernel
theorem dX5_holds_57 : decode cX5_holds 57 = .ok (.iload_n 2, 1) := by decide +kernel
theorem dX5_holds_58 : decode cX5_holds 58 = .ok (.putfield 58, 3) := by decide +kernel
theorem dX5_holds_61 : decode cX5_holds 61 = .ok (.goto 11, 3) := by decide +kernel
theorem dX5_holds_64 : decode cX5_holds 64 = .ok (.aload_n 0, 1) := by decide +kernel
theorem dX5_holds_65 : decode cX5_holds 65 = .ok (.getfield 10, 3) := by decide +kernel
theorem dX5_holds_68 : decode cX5_holds 68 = .ok (.iload_n 2, 1) := by decide +kernel
theorem dX5_holds_69 : decode cX5_holds 69 = .ok (.putfield 62, 3) := by decide +kernel
theorem dX5_holds_72 : decode cX5_holds 72 = .ok (.iload_n 3, 1) := by decide +kernel
theorem dX5_holds_73 : decode cX5_holds 73 = .ok (.ireturn, 1) := by decide +kernel
theorem dX5_now_0 : decode cX5_now 0 = .ok (.iload_n 1, 1) := by decide +kernel
theorem dX5_now_1 : decode cX5_now 1 = .ok (.tableswitch 125 0 7 #[47, 55, 63, 71, 79, 94, 109, 117], 47) := by decide +kernel
theorem dX5_now_48 : decode cX5_now 48 = .ok (.aload_n 0, 1) := by decide +kernel
theorem dX5_now_49 : decode cX5_now 49 = .ok (.getfield 10, 3) := by decide +kernel
theorem dX5_now_52 : decode cX5_now 52 = .ok (.getfield 65, 3) := by decide +kernel
theorem dX5_now_55 : decode cX5_now 55 = .ok (.ireturn, 1) := by decide +kernel
theorem dX5_now_56 : decode cX5_now 56 = .ok (.aload_n 0, 1) := by decide +kernel
theorem dX5_now_57 : decode cX5_now 57 = .ok (.getfield 10, 3) := by decide +kernel
theorem dX5_now_60 : decode cX5_now 60 = .ok (.invokevirtual 68, 3) := by decide +kernel
theorem dX5_now_63 : decode cX5_now 63 = .ok (.ireturn, 1) := by decide +kernel
theorem dX5_now_64 : decode cX5_now 64 = .ok (.aload_n 0, 1) := by decide +kernel
theorem dX5_now_65 : decode cX5_now 65 = .ok (.getfield 10, 3) := by decide +kernel
theorem dX5_now_68 : decode cX5_now 68 = .ok (.getfield 58, 3) := by decide +kernel
theorem dX5_now_71 : decode cX5_now 71 = .ok (.ireturn, 1) := by decide +kernel
theorem dX5_now_72 : decode cX5_now 72 = .ok (.aload_n 0, 1) := by decide +kernel
theorem dX5_now_73 : decode cX5_now 73 = .ok (.getfield 10, 3) := by decide +kernel
theorem dX5_now_76 : decode cX5_now 76 = .ok (.getfield 62, 3) := by decide +kernel
theorem dX5_now_79 : decode cX5_now 79 = .ok (.ireturn, 1) := by decide +kernel
theorem dX5_now_80 : decode cX5_now 80 = .ok (.aload_n 0, 1) := by decide +kernel
theorem dX5_now_81 : decode cX5_now 81 = .ok (.getfield 10, 3) := by decide +kernel
theorem dX5_now_84 : decode cX5_now 84 = .ok (.invokevirtual 72, 3) := by decide +kernel
theorem dX5_now_87 : decode cX5_now 87 = .ok (.aload_n 0, 1) := by decide +kernel
theorem dX5_now_88 : decode cX5_now 88 = .ok (.getfield 10, 3) := by decide +kernel
theorem dX5_now_91 : decode cX5_now 91 = .ok (.getfield 75, 3) := by decide +kernel
theorem dX5_now_94 : decode cX5_now 94 = .ok (.ireturn, 1) := by decide +kernel
theorem dX5_now_95 : decode cX5_now 95 = .ok (.aload_n 0, 1) := by decide +kernel
theorem dX5_now_96 : decode cX5_now 96 = .ok (.getfield 10, 3) := by decide +kernel
theorem dX5_now_99 : decode cX5_now 99 = .ok (.invokevirtual 72, 3) := by decide +kernel
theorem dX5_now_102 : decode cX5_now 102 = .ok (.aload_n 0, 1) := by decide +kernel
theorem dX5_now_103 : decode cX5_now 103 = .ok (.getfield 10, 3) := by decide +kernel
theorem dX5_now_106 : decode cX5_now 106 = .ok (.getfield 78, 3) := by decide +kernel
theorem dX5_now_109 : decode cX5_now 109 = .ok (.ireturn, 1) := by decide +kernel
theorem dX5_now_110 : decode cX5_now 110 = .ok (.aload_n 0, 1) := by decide +kernel
theorem dX5_now_111 : decode cX5_now 111 = .ok (.getfield 10, 3) := by decide +kernel
theorem dX5_now_114 : decode cX5_now 114 = .ok (.invokevirtual 81, 3) := by decide +kernel
theorem dX5_now_117 : decode cX5_now 117 = .ok (.ireturn, 1) := by decide +kernel
theorem dX5_now_118 : decode cX5_now 118 = .ok (.aload_n 0, 1) := by decide +kernel
theorem dX5_now_119 : decode cX5_now 119 = .ok (.getfield 10, 3) := by decide +kernel
theorem dX5_now_122 : decode cX5_now 122 = .ok (.invokevirtual 84, 3) := by decide +kernel
theorem dX5_now_125 : decode cX5_now 125 = .ok (.ireturn, 1) := by decide +kernel
theorem dX5_now_126 : decode cX5_now 126 = .ok (.aload_n 0, 1) := by decide +kernel
theorem dX5_now_127 : decode cX5_now 127 = .ok (.ldc 53, 2) := by decide +kernel
theorem dX5_now_129 : decode cX5_now 129 = .ok (.invokevirtual 54, 3) := by decide +kernel
theorem dX5_now_132 : decode cX5_now 132 = .ok (.ireturn, 1) := by decide +kernel
theorem dX5_hat_0 : decode cX5_hat 0 = .ok (.iload_n 1, 1) := by decide +kernel
theorem dX5_hat_1 : decode cX5_hat 1 = .ok (.iconst 0, 1) := by decide +kernel
theorem dX5_hat_2 : decode cX5_hat 2 = .ok (.iconst 5, 1) := by decide +kernel
theorem dX5_hat_3 : decode cX5_hat 3 = .ok (.invokestatic 49, 3) := by decide +kernel
theorem dX5_hat_6 : decode cX5_hat 6 = .ok (.ifCond .ne 14, 3) := by decide +kernel
theorem dX5_hat_9 : decode cX5_hat 9 = .ok (.iload_n 2, 1) := by decide +kernel
theorem dX5_hat_10 : decode cX5_hat 10 = .ok (.iconst 0, 1) := by decide +kernel
theorem dX5_hat_11 : decode cX5_hat 11 = .ok (.sipush 255, 3) := by decide +kernel
theorem dX5_hat_14 : decode cX5_hat 14 = .ok (.invokestatic 49, 3) := by decide +kernel
theorem dX5_hat_17 : decode cX5_hat 17 = .ok (.ifCond .eq 10, 3) := by decide +kernel
theorem dX5_hat_20 : decode cX5_hat 20 = .ok (.aload_n 0, 1) := by decide +kernel
theorem dX5_hat_21 : decode cX5_hat 21 = .ok (.ldc 53, 2) := by decide +kernel
theorem dX5_hat_23 : decode cX5_hat 23 = .ok (.invokevirtual 54, 3) := by decide +kernel
theorem dX5_hat_26 : decode cX5_hat 26 = .ok (.ireturn, 1) := by decide +kernel
theorem dX5_hat_27 : decode cX5_hat 27 = .ok (.aload_n 0, 1) := by decide +kernel
theorem dX5_hat_28 : decode cX5_hat 28 = .ok (.getfield 10, 3) := by decide +kernel
theorem dX5_hat_31 : decode cX5_hat 31 = .ok (.invokevirtual 87, 3) := by decide +kernel
theorem dX5_hat_34 : decode cX5_hat 34 = .ok (.ifCond .eq 10, 3) := by decide +kernel
theorem dX5_hat_37 : decode cX5_hat 37 = .ok (.aload_n 0, 1) := by decide +kernel
theorem dX5_hat_38 : decode cX5_hat 38 = .ok (.ldc 91, 2) := by decide +kernel
theorem dX5_hat_40 : decode cX5_hat 40 = .ok (.invokevirtual 54, 3) := by decide +kernel
theorem dX5_hat_43 : decode cX5_hat 43 = .ok (.ireturn, 1) := by decide +kernel
theorem dX5_hat_44 : decode cX5_hat 44 = .ok (.aload_n 0, 1) := by decide +kernel
theorem dX5_hat_45 : decode cX5_hat 45 = .ok (.getfield 10, 3) := by decide +kernel
theorem dX5_hat_48 : decode cX5_hat 48 = .ok (.iload_n 1, 1) := by decide +kernel
theorem dX5_hat_49 : decode cX5_hat 49 = .ok (.iload_n 2, 1) := by decide +kernel
theorem dX5_hat_50 : decode cX5_hat 50 = .ok (.invokevirtual 92, 3) := by decide +kernel
theorem dX5_hat_53 : decode cX5_hat 53 = .ok (.aload_n 0, 1) := by decide +kernel
theorem dX5_hat_54 : decode cX5_hat 54 = .ok (.getfield 10, 3) := by decide +kernel
theorem dX5_hat_57 : decode cX5_hat 57 = .ok (.getfield 96, 3) := by decide +kernel
theorem dX5_hat_60 : decode cX5_hat 60 = .ok (.iconst 1, 1) := by decide +kernel
theorem dX5_hat_61 : decode cX5_hat 61 = .ok (.isub, 1) := by decide +kernel
theorem dX5_hat_62 : decode cX5_hat 62 = .ok (.ireturn, 1) := by decide +kernel
theorem dX5_of_0 : decode cX5_of 0 = .ok (.aload_n 0, 1) := by decide +kernel
theorem dX5_of_1 : decode cX5_of 1 = .ok (.getfield 10, 3) := by decide +kernel
theorem dX5_of_4 : decode cX5_of 4 = .ok (.iload_n 1, 1) := by decide +kernel
theorem dX5_of_5 : decode cX5_of 5 = .ok (.invokevirtual 99, 3) := by decide +kernel
theorem dX5_of_8 : decode cX5_of 8 = .ok (.ifCond .eq 13, 3) := by decide +kernel
theorem dX5_of_11 : decode cX5_of 11 = .ok (.iload_n 2, 1) := by decide +kernel
theorem dX5_of_12 : decode cX5_of 12 = .ok (.iconst 0, 1) := by decide +kernel
theorem dX5_of_13 : decode cX5_of 13 = .ok (.bipush 8, 2) := by decide +kernel
theorem dX5_of_15 : decode cX5_of 15 = .ok (.invokestatic 49, 3) := by decide +kernel
theorem dX5_of_18 : decode cX5_of 18 = .ok (.ifCond .eq 10, 3) := by decide +kernel
theorem dX5_of_21 : decode cX5_of 21 = .ok (.aload_n 0, 1) := by decide +kernel
theorem dX5_of_22 : decode cX5_of 22 = .ok (.ldc 53, 2) := by decide +kernel
theorem dX5_of_24 : decode cX5_of 24 = .ok (.invokevirtual 54, 3) := by decide +kernel
theorem dX5_of_27 : decode cX5_of 27 = .ok (.ireturn, 1) := by decide +kernel
theorem dX5_of_28 : decode cX5_of 28 = .ok (.aload_n 0, 1) := by decide +kernel
theorem dX5_of_29 : decode cX5_of 29 = .ok (.getfield 10, 3) := by decide +kernel
theorem dX5_of_32 : decode cX5_of 32 = .ok (.getfield 103, 3) := by decide +kernel
theorem dX5_of_35 : decode cX5_of 35 = .ok (.iload_n 1, 1) := by decide +kernel
theorem dX5_of_36 : decode cX5_of 36 = .ok (.aaload, 1) := by decide +kernel
theorem dX5_of_37 : decode cX5_of 37 = .ok (.astore_n 3, 1) := by decide +kernel
theorem dX5_of_38 : decode cX5_of 38 = .ok (.iload_n 2, 1) := by decide +kernel
theorem dX5_of_39 : decode cX5_of 39 = .ok (.tableswitch 62 6 8 #[25, 37, 57], 25) := by decide +kernel
theorem dX5_of_64 : decode cX5_of 64 = .ok (.aload_n 3, 1) := by decide +kernel
theorem dX5_of_65 : decode cX5_of 65 = .ok (.aload_n 0, 1) := by decide +kernel
theorem dX5_of_66 : decode cX5_of 66 = .ok (.getfield 10, 3) := by decide +kernel
theorem dX5_of_69 : decode cX5_of 69 = .ok (.getfield 65, 3) := by decide +kernel
theorem dX5_of_72 : decode cX5_of 72 = .ok (.invokevirtual 107, 3) := by decide +kernel
theorem dX5_of_75 : decode cX5_of 75 = .ok (.ireturn, 1) := by decide +kernel
theorem dX5_of_76 : decode cX5_of 76 = .ok (.aload_n 3, 1) := by decide +kernel
theorem dX5_of_77 : decode cX5_of 77 = .ok (.aload_n 0, 1) := by decide +kernel
theorem dX5_of_78 : decode cX5_of 78 = .ok (.getfield 10, 3) := by decide +kernel
theorem dX5_of_81 : decode cX5_of 81 = .ok (.getfield 65, 3) := by decide +kernel
theorem dX5_of_84 : decode cX5_of 84 = .ok (.invokevirtual 112, 3) := by decide +kernel
theorem dX5_of_87 : decode cX5_of 87 = .ok (.ifCond .eq 7, 3) := by decide +kernel
theorem dX5_of_90 : decode cX5_of 90 = .ok (.iconst 1, 1) := by decide +kernel
theorem dX5_of_91 : decode cX5_of 91 = .ok (.goto 4, 3) := by decide +kernel
theorem dX5_of_94 : decode cX5_of 94 = .ok (.iconst 0, 1) := by decide +kernel
theorem dX5_of_95 : decode cX5_of 95 = .ok (.ireturn, 1) := by decide +kernel
theorem dX5_of_96 : decode cX5_of 96 = .ok (.aload_n 3, 1) := by decide +kernel
theorem dX5_of_97 : decode cX5_of 97 = .ok (.invokevirtual 115, 3) := by decide +kernel
theorem dX5_of_100 : decode cX5_of 100 = .ok (.ireturn, 1) := by decide +kernel
theorem dX5_of_101 : decode cX5_of 101 = .ok (.aload_n 3, 1) := by decide +kernel
theorem dX5_of_102 : decode cX5_of 102 = .ok (.iload_n 2, 1) := by decide +kernel
theorem dX5_of_103 : decode cX5_of 103 = .ok (.invokevirtual 118, 3) := by decide +kernel
theorem dX5_of_106 : decode cX5_of 106 = .ok (.ireturn, 1) := by decide +kernel
theorem dX5_says_0 : decode cX5_says 0 = .ok (.aload_n 0, 1) := by decide +kernel
theorem dX5_says_1 : decode cX5_says 1 = .ok (.getfield 10, 3) := by decide +kernel
theorem dX5_says_4 : decode cX5_says 4 = .ok (.iload_n 1, 1) := by decide +kernel
theorem dX5_says_5 : decode cX5_says 5 = .ok (.invokevirtual 99, 3) := by decide +kernel
theorem dX5_says_8 : decode cX5_says 8 = .ok (.ifCond .eq 13, 3) := by decide +kernel
theorem dX5_says_11 : decode cX5_says 11 = .ok (.iload_n 2, 1) := by decide +kernel
theorem dX5_says_12 : decode cX5_says 12 = .ok (.iconst 0, 1) := by decide +kernel
theorem dX5_says_13 : decode cX5_says 13 = .ok (.bipush 7, 2) := by decide +kernel
theorem dX5_says_15 : decode cX5_says 15 = .ok (.invokestatic 49, 3) := by decide +kernel
theorem dX5_says_18 : decode cX5_says 18 = .ok (.ifCond .eq 10, 3) := by decide +kernel
theorem dX5_says_21 : decode cX5_says 21 = .ok (.aload_n 0, 1) := by decide +kernel
theorem dX5_says_22 : decode cX5_says 22 = .ok (.ldc 53, 2) := by decide +kernel
theorem dX5_says_24 : decode cX5_says 24 = .ok (.invokevirtual 54, 3) := by decide +kernel
theorem dX5_says_27 : decode cX5_says 27 = .ok (.ireturn, 1) := by decide +kernel
theorem dX5_says_28 : decode cX5_says 28 = .ok (.aload_n 0, 1) := by decide +kernel
theorem dX5_says_29 : decode cX5_says 29 = .ok (.getfield 10, 3) := by decide +kernel
theorem dX5_says_32 : decode cX5_says 32 = .ok (.getfield 103, 3) := by decide +kernel
theorem dX5_says_35 : decode cX5_says 35 = .ok (.iload_n 1, 1) := by decide +kernel
theorem dX5_says_36 : decode cX5_says 36 = .ok (.aaload, 1) := by decide +kernel
theorem dX5_says_37 : decode cX5_says 37 = .ok (.iload_n 2, 1) := by decide +kernel
theorem dX5_says_38 : decode cX5_says 38 = .ok (.aload_n 0, 1) := by decide +kernel
theorem dX5_says_39 : decode cX5_says 39 = .ok (.getfield 10, 3) := by decide +kernel
theorem dX5_says_42 : decode cX5_says 42 = .ok (.getfield 62, 3) := by decide +kernel
theorem dX5_says_45 : decode cX5_says 45 = .ok (.invokevirtual 121, 3) := by decide +kernel
theorem dX5_says_48 : decode cX5_says 48 = .ok (.ireturn, 1) := by decide +kernel
theorem dX5_set_0 : decode cX5_set 0 = .ok (.aload_n 0, 1) := by decide +kernel
theorem dX5_set_1 : decode cX5_set 1 = .ok (.getfield 10, 3) := by decide +kernel
theorem dX5_set_4 : decode cX5_set 4 = .ok (.iload_n 1, 1) := by decide +kernel
theorem dX5_set_5 : decode cX5_set 5 = .ok (.invokevirtual 99, 3) := by decide +kernel
theorem dX5_set_8 : decode cX5_set 8 = .ok (.ifCond .eq 24, 3) := by decide +kernel
theorem dX5_set_11 : decode cX5_set 11 = .ok (.iload_n 2, 1) := by decide +kernel
theorem dX5_set_12 : decode cX5_set 12 = .ok (.iconst 1, 1) := by decide +kernel
theorem dX5_set_13 : decode cX5_set 13 = .ok (.iconst 5, 1) := by decide +kernel
theorem dX5_set_14 : decode cX5_set 14 = .ok (.invokestatic 49, 3) := by decide +kernel
theorem dX5_set_17 : decode cX5_set 17 = .ok (.ifCond .ne 15, 3) := by decide +kernel
theorem dX5_set_20 : decode cX5_set 20 = .ok (.iload_n 3, 1) := by decide +kernel
theorem dX5_set_21 : decode cX5_set 21 = .ok (.iconst 0, 1) := by decide +kernel
theorem dX5_set_22 : decode cX5_set 22 = .ok (.iload_n 2, 1) := by decide +kernel
theorem dX5_set_23 : decode cX5_set 23 = .ok (.invokestatic 125, 3) := by decide +kernel
theorem dX5_set_26 : decode cX5_set 26 = .ok (.invokestatic 49, 3) := by decide +kernel
theorem dX5_set_29 : decode cX5_set 29 = .ok (.ifCond .eq 10, 3) := by decide +kernel
theorem dX5_set_32 : decode cX5_set 32 = .ok (.aload_n 0, 1) := by decide +kernel
theorem dX5_set_33 : decode cX5_set 33 = .ok (.ldc 53, 2) := by decide +kernel
theorem dX5_set_35 : decode cX5_set 35 = .ok (.invokevirtual 54, 3) := by decide +kernel
theorem dX5_set_38 : decode cX5_set 38 = .ok (.ireturn, 1) := by decide +kernel
theorem dX5_set_39 : decode cX5_set 39 = .ok (.aload_n 0, 1) := by decide +kernel
theorem dX5_set_40 : decode cX5_set 40 = .ok (.getfield 10, 3) := by decide +kernel
theorem dX5_set_43 : decode cX5_set 43 = .ok (.getfield 103, 3) := by decide +kernel
theorem dX5_set_46 : decode cX5_set 46 = .ok (.iload_n 1, 1) := by decide +kernel
theorem dX5_set_47 : decode cX5_set 47 = .ok (.aaload, 1) := by decide +kernel
theorem dX5_set_48 : decode cX5_set 48 = .ok (.astore 4, 2) := by decide +kernel
theorem dX5_set_50 : decode cX5_set 50 = .ok (.aload 4, 2) := by decide +kernel
theorem dX5_set_52 : decode cX5_set 52 = .ok (.iload_n 2, 1) := by decide +kernel
theorem dX5_set_53 : decode cX5_set 53 = .ok (.invokevirtual 118, 3) := by decide +kernel
theorem dX5_set_56 : decode cX5_set 56 = .ok (.istore 5, 2) := by decide +kernel
theorem dX5_set_58 : decode cX5_set 58 = .ok (.aload 4, 2) := by decide +kernel
theorem dX5_set_60 : decode cX5_set 60 = .ok (.iload_n 2, 1) := by decide +kernel
theorem dX5_set_61 : decode cX5_set 61 = .ok (.iload_n 3, 1) := by decide +kernel
theorem dX5_set_62 : decode cX5_set 62 = .ok (.invokevirtual 128, 3) := by decide +kernel
theorem dX5_set_65 : decode cX5_set 65 = .ok (.iload 5, 2) := by decide +kernel
theorem dX5_set_67 : decode cX5_set 67 = .ok (.ireturn, 1) := by decide +kernel
theorem dX5_turn_0 : decode cX5_turn 0 = .ok (.aload_n 0, 1) := by decide +kernel
theorem dX5_turn_1 : decode cX5_turn 1 = .ok (.getfield 10, 3) := by decide +kernel
theorem dX5_turn_4 : decode cX5_turn 4 = .ok (.iload_n 1, 1) := by decide +kernel
theorem dX5_turn_5 : decode cX5_turn 5 = .ok (.invokevirtual 99, 3) := by decide +kernel
theorem dX5_turn_8 : decode cX5_turn 8 = .ok (.ifCond .eq 12, 3) := by decide +kernel
theorem dX5_turn_11 : decode cX5_turn 11 = .ok (.iload_n 2, 1) := by decide +kernel
theorem dX5_turn_12 : decode cX5_turn 12 = .ok (.iconst 0, 1) := by decide +kernel
theorem dX5_turn_13 : decode cX5_turn 13 = .ok (.iconst 5, 1) := by decide +kernel
theorem dX5_turn_14 : decode cX5_turn 14 = .ok (.invokestatic 49, 3) := by decide +kernel
theorem dX5_turn_17 : decode cX5_turn 17 = .ok (.ifCond .eq 10, 3) := by decide +kernel
theorem dX5_turn_20 : decode cX5_turn 20 = .ok (.aload_n 0, 1) := by decide +kernel
theorem dX5_turn_21 : decode cX5_turn 21 = .ok (.ldc 53, 2) := by decide +kernel
theorem dX5_turn_23 : decode cX5_turn 23 = .ok (.invokevirtual 54, 3) := by decide +kernel
theorem dX5_turn_26 : decode cX5_turn 26 = .ok (.ireturn, 1) := by decide +kernel
theorem dX5_turn_27 : decode cX5_turn 27 = .ok (.aload_n 0, 1) := by decide +kernel
theorem dX5_turn_28 : decode cX5_turn 28 = .ok (.getfield 10, 3) := by decide +kernel
theorem dX5_turn_31 : decode cX5_turn 31 = .ok (.getfield 103, 3) := by decide +kernel
theorem dX5_turn_34 : decode cX5_turn 34 = .ok (.iload_n 1, 1) := by decide +kernel
theorem dX5_turn_35 : decode cX5_turn 35 = .ok (.aaload, 1) := by decide +kernel
theorem dX5_turn_36 : decode cX5_turn 36 = .ok (.getfield 131, 3) := by decide +kernel
theorem dX5_turn_39 : decode cX5_turn 39 = .ok (.istore_n 3, 1) := by decide +kernel
theorem dX5_turn_40 : decode cX5_turn 40 = .ok (.aload_n 0, 1) := by decide +kernel
theorem dX5_turn_41 : decode cX5_turn 41 = .ok (.getfield 10, 3) := by decide +kernel
theorem dX5_turn_44 : decode cX5_turn 44 = .ok (.getfield 103, 3) := by decide +kernel
theorem dX5_turn_47 : decode cX5_turn 47 = .ok (.iload_n 1, 1) := by decide +kernel
theorem dX5_turn_48 : decode cX5_turn 48 = .ok (.aaload, 1) := by decide +kernel
theorem dX5_turn_49 : decode cX5_turn 49 = .ok (.iload_n 2, 1) := by decide +kernel
theorem dX5_turn_50 : decode cX5_turn 50 = .ok (.putfield 131, 3) := by decide +kernel
theorem dX5_turn_53 : decode cX5_turn 53 = .ok (.iload_n 3, 1) := by decide +kernel
theorem dX5_turn_54 : decode cX5_turn 54 = .ok (.ireturn, 1) := by decide +kernel
theorem dX5_as_0 : decode cX5_as 0 = .ok (.aload_n 0, 1) := by decide +kernel
theorem dX5_as_1 : decode cX5_as 1 = .ok (.getfield 10, 3) := by decide +kernel
theorem dX5_as_4 : decode cX5_as 4 = .ok (.iload_n 1, 1) := by decide +kernel
theorem dX5_as_5 : decode cX5_as 5 = .ok (.invokevirtual 99, 3) := by decide +kernel
theorem dX5_as_8 : decode cX5_as 8 = .ok (.ifCond .eq 12, 3) := by decide +kernel
theorem dX5_as_11 : decode cX5_as 11 = .ok (.iload_n 2, 1) := by decide +kernel
theorem dX5_as_12 : decode cX5_as 12 = .ok (.iconst 0, 1) := by decide +kernel
theorem dX5_as_13 : decode cX5_as 13 = .ok (.iconst 5, 1) := by decide +kernel
theorem dX5_as_14 : decode cX5_as 14 = .ok (.invokestatic 49, 3) := by decide +kernel
theorem dX5_as_17 : decode cX5_as 17 = .ok (.ifCond .eq 10, 3) := by decide +kernel
theorem dX5_as_20 : decode cX5_as 20 = .ok (.aload_n 0, 1) := by decide +kernel
theorem dX5_as_21 : decode cX5_as 21 = .ok (.ldc 53, 2) := by decide +kernel
theorem dX5_as_23 : decode cX5_as 23 = .ok (.invokevirtual 54, 3) := by decide +kernel
theorem dX5_as_26 : decode cX5_as 26 = .ok (.ireturn, 1) := by decide +kernel
theorem dX5_as_27 : decode cX5_as 27 = .ok (.aload_n 0, 1) := by decide +kernel
theorem dX5_as_28 : decode cX5_as 28 = .ok (.getfield 10, 3) := by decide +kernel
theorem dX5_as_31 : decode cX5_as 31 = .ok (.getfield 103, 3) := by decide +kernel
theorem dX5_as_34 : decode cX5_as 34 = .ok (.iload_n 1, 1) := by decide +kernel
theorem dX5_as_35 : decode cX5_as 35 = .ok (.aaload, 1) := by decide +kernel
theorem dX5_as_36 : decode cX5_as 36 = .ok (.astore_n 3, 1) := by decide +kernel
theorem dX5_as_37 : decode cX5_as 37 = .ok (.aload_n 3, 1) := by decide +kernel
theorem dX5_as_38 : decode cX5_as 38 = .ok (.iload_n 2, 1) := by decide +kernel
theorem dX5_as_39 : decode cX5_as 39 = .ok (.invokevirtual 134, 3) := by decide +kernel
theorem dX5_as_42 : decode cX5_as 42 = .ok (.ifCond .eq 10, 3) := by decide +kernel
theorem dX5_as_45 : decode cX5_as 45 = .ok (.aload_n 3, 1) := by decide +kernel
theorem dX5_as_46 : decode cX5_as 46 = .ok (.getfield 137, 3) := by decide +kernel
theorem dX5_as_49 : decode cX5_as 49 = .ok (.goto 9, 3) := by decide +kernel
theorem dX5_as_52 : decode cX5_as 52 = .ok (.aload_n 0, 1) := by decide +kernel
theorem dX5_as_53 : decode cX5_as 53 = .ok (.ldc 140, 2) := by decide +kernel
theorem dX5_as_55 : decode cX5_as 55 = .ok (.invokevirtual 54, 3) := by decide +kernel
theorem dX5_as_58 : decode cX5_as 58 = .ok (.ireturn, 1) := by decide +kernel
theorem dX5_sessions_0 : decode cX5_sessions 0 = .ok (.iload_n 1, 1) := by decide +kernel
theorem dX5_sessions_1 : decode cX5_sessions 1 = .ok (.iconst 1, 1) := by decide +kernel
theorem dX5_sessions_2 : decode cX5_sessions 2 = .ok (.bipush 100, 2) := by decide +kernel
theorem dX5_sessions_4 : decode cX5_sessions 4 = .ok (.invokestatic 49, 3) := by decide +kernel
theorem dX5_sessions_7 : decode cX5_sessions 7 = .ok (.ifCond .eq 10, 3) := by decide +kernel
theorem dX5_sessions_10 : decode cX5_sessions 10 = .ok (.aload_n 0, 1) := by decide +kernel
theorem dX5_sessions_11 : decode cX5_sessions 11 = .ok (.ldc 53, 2) := by decide +kernel
theorem dX5_sessions_13 : decode cX5_sessions 13 = .ok (.invokevirtual 54, 3) := by decide +kernel
theorem dX5_sessions_16 : decode cX5_sessions 16 = .ok (.ireturn, 1) := by decide +kernel
theorem dX5_sessions_17 : decode cX5_sessions 17 = .ok (.aload_n 0, 1) := by decide +kernel
theorem dX5_sessions_18 : decode cX5_sessions 18 = .ok (.getfield 10, 3) := by decide +kernel
theorem dX5_sessions_21 : decode cX5_sessions 21 = .ok (.getfield 65, 3) := by decide +kernel
theorem dX5_sessions_24 : decode cX5_sessions 24 = .ok (.ldc 141, 2) := by decide +kernel
theorem dX5_sessions_26 : decode cX5_sessions 26 = .ok (.iload_n 1, 1) := by decide +kernel
theorem dX5_sessions_27 : decode cX5_sessions 27 = .ok (.isub, 1) := by decide +kernel
theorem dX5_sessions_28 : decode cX5_sessions 28 = .ok (.if_icmp .le 10, 3) := by decide +kernel
theorem dX5_sessions_31 : decode cX5_sessions 31 = .ok (.aload_n 0, 1) := by decide +kernel
theorem dX5_sessions_32 : decode cX5_sessions 32 = .ok (.ldc 142, 2) := by decide +kernel
theorem dX5_sessions_34 : decode cX5_sessions 34 = .ok (.invokevirtual 54, 3) := by decide +kernel
theorem dX5_sessions_37 : decode cX5_sessions 37 = .ok (.ireturn, 1) := by decide +kernel
theorem dX5_sessions_38 : decode cX5_sessions 38 = .ok (.aload_n 0, 1) := by decide +kernel
theorem dX5_sessions_39 : decode cX5_sessions 39 = .ok (.getfield 10, 3) := by decide +kernel
theorem dX5_sessions_42 : decode cX5_sessions 42 = .ok (.iload_n 1, 1) := by decide +kernel
theorem dX5_sessions_43 : decode cX5_sessions 43 = .ok (.invokevirtual 143, 3) := by decide +kernel
theorem dX5_sessions_46 : decode cX5_sessions 46 = .ok (.aload_n 0, 1) := by decide +kernel
theorem dX5_sessions_47 : decode cX5_sessions 47 = .ok (.getfield 10, 3) := by decide +kernel
theorem dX5_sessions_50 : decode cX5_sessions 50 = .ok (.getfield 62, 3) := by decide +kernel
theorem dX5_sessions_53 : decode cX5_sessions 53 = .ok (.ireturn, 1) := by decide +kernel
theorem dX5_on_0 : decode cX5_on 0 = .ok (.aload_n 0, 1) := by decide +kernel
theorem dX5_on_1 : decode cX5_on 1 = .ok (.getfield 10, 3) := by decide +kernel
theorem dX5_on_4 : decode cX5_on 4 = .ok (.iload_n 1, 1) := by decide +kernel
theorem dX5_on_5 : decode cX5_on 5 = .ok (.invokevirtual 99, 3) := by decide +kernel
theorem dX5_on_8 : decode cX5_on 8 = .ok (.ifCond .eq 23, 3) := by decide +kernel
theorem dX5_on_11 : decode cX5_on 11 = .ok (.iload_n 2, 1) := by decide +kernel
theorem dX5_on_12 : decode cX5_on 12 = .ok (.iconst 0, 1) := by decide +kernel
theorem dX5_on_13 : decode cX5_on 13 = .ok (.sipush 200, 3) := by decide +kernel
theorem dX5_on_16 : decode cX5_on 16 = .ok (.invokestatic 49, 3) := by decide +kernel
theorem dX5_on_19 : decode cX5_on 19 = .ok (.ifCond .ne 12, 3) := by decide +kernel
theorem dX5_on_22 : decode cX5_on 22 = .ok (.iload_n 3, 1) := by decide +kernel
theorem dX5_on_23 : decode cX5_on 23 = .ok (.iconst 0, 1) := by decide +kernel
theorem dX5_on_24 : decode cX5_on 24 = .ok (.iconst 3, 1) := by decide +kernel
theorem dX5_on_25 : decode cX5_on 25 = .ok (.invokestatic 49, 3) := by decide +kernel
theorem dX5_on_28 : decode cX5_on 28 = .ok (.ifCond .eq 10, 3) := by decide +kernel
theorem dX5_on_31 : decode cX5_on 31 = .ok (.aload_n 0, 1) := by decide +kernel
theorem dX5_on_32 : decode cX5_on 32 = .ok (.ldc 53, 2) := by decide +kernel
theorem dX5_on_34 : decode cX5_on 34 = .ok (.invokevirtual 54, 3) := by decide +kernel
theorem dX5_on_37 : decode cX5_on 37 = .ok (.ireturn, 1) := by decide +kernel
theorem dX5_on_38 : decode cX5_on 38 = .ok (.aload_n 0, 1) := by decide +kernel
theorem dX5_on_39 : decode cX5_on 39 = .ok (.iload_n 2, 1) := by decide +kernel
theorem dX5_on_40 : decode cX5_on 40 = .ok (.invokevirtual 147, 3) := by decide +kernel
theorem dX5_on_43 : decode cX5_on 43 = .ok (.aload_n 0, 1) := by decide +kernel
theorem dX5_on_44 : decode cX5_on 44 = .ok (.getfield 16, 3) := by decide +kernel
theorem dX5_on_47 : decode cX5_on 47 = .ok (.getfield 103, 3) := by decide +kernel
theorem dX5_on_50 : decode cX5_on 50 = .ok (.iload_n 1, 1) := by decide +kernel
theorem dX5_on_51 : decode cX5_on 51 = .ok (.aaload, 1) := by decide +kernel
theorem dX5_on_52 : decode cX5_on 52 = .ok (.iconst 1, 1) := by decide +kernel
theorem dX5_on_53 : decode cX5_on 53 = .ok (.iload_n 3, 1) := by decide +kernel
theorem dX5_on_54 : decode cX5_on 54 = .ok (.iadd, 1) := by decide +kernel
theorem dX5_on_55 : decode cX5_on 55 = .ok (.invokevirtual 118, 3) := by decide +kernel
theorem dX5_on_58 : decode cX5_on 58 = .ok (.ireturn, 1) := by decide +kernel
theorem dX5_then_0 : decode cX5_then 0 = .ok (.iload_n 1, 1) := by decide +kernel
theorem dX5_then_1 : decode cX5_then 1 = .ok (.iconst 0, 1) := by decide +kernel
theorem dX5_then_2 : decode cX5_then 2 = .ok (.sipush 200, 3) := by decide +kernel
theorem dX5_then_5 : decode cX5_then 5 = .ok (.invokestatic 49, 3) := by decide +kernel
theorem dX5_then_8 : decode cX5_then 8 = .ok (.ifCond .ne 12, 3) := by decide +kernel
theorem dX5_then_11 : decode cX5_then 11 = .ok (.iload_n 2, 1) := by decide +kernel
theorem dX5_then_12 : decode cX5_then 12 = .ok (.iconst 0, 1) := by decide +kernel
theorem dX5_then_13 : decode cX5_then 13 = .ok (.iconst 1, 1) := by decide +kernel
theorem dX5_then_14 : decode cX5_then 14 = .ok (.invokestatic 49, 3) := by decide +kernel
theorem dX5_then_17 : decode cX5_then 17 = .ok (.ifCond .eq 10, 3) := by decide +kernel
theorem dX5_then_20 : decode cX5_then 20 = .ok (.aload_n 0, 1) := by decide +kernel
theorem dX5_then_21 : decode cX5_then 21 = .ok (.ldc 53, 2) := by decide +kernel
theorem dX5_then_23 : decode cX5_then 23 = .ok (.invokevirtual 54, 3) := by decide +kernel
theorem dX5_then_26 : decode cX5_then 26 = .ok (.ireturn, 1) := by decide +kernel
theorem dX5_then_27 : decode cX5_then 27 = .ok (.aload_n 0, 1) := by decide +kernel
theorem dX5_then_28 : decode cX5_then 28 = .ok (.iload_n 1, 1) := by decide +kernel
theorem dX5_then_29 : decode cX5_then 29 = .ok (.invokevirtual 147, 3) := by decide +kernel
theorem dX5_then_32 : decode cX5_then 32 = .ok (.iload_n 2, 1) := by decide +kernel
theorem dX5_then_33 : decode cX5_then 33 = .ok (.ifCond .ne 13, 3) := by decide +kernel
theorem dX5_then_36 : decode cX5_then 36 = .ok (.aload_n 0, 1) := by decide +kernel
theorem dX5_then_37 : decode cX5_then 37 = .ok (.getfield 16, 3) := by decide +kernel
theorem dX5_then_40 : decode cX5_then 40 = .ok (.getfield 62, 3) := by decide +kernel
theorem dX5_then_43 : decode cX5_then 43 = .ok (.goto 10, 3) := by decide +kernel
theorem dX5_then_46 : decode cX5_then 46 = .ok (.aload_n 0, 1) := by decide +kernel
theorem dX5_then_47 : decode cX5_then 47 = .ok (.getfield 16, 3) := by decide +kernel
theorem dX5_then_50 : decode cX5_then 50 = .ok (.invokevirtual 84, 3) := by decide +kernel
theorem dX5_then_53 : decode cX5_then 53 = .ok (.ireturn, 1) := by decide +kernel
theorem dX5_comes_0 : decode cX5_comes 0 = .ok (.iload_n 1, 1) := by decide +kernel
theorem dX5_comes_1 : decode cX5_comes 1 = .ok (.iconst 0, 1) := by decide +kernel
theorem dX5_comes_2 : decode cX5_comes 2 = .ok (.bipush 7, 2) := by decide +kernel
theorem dX5_comes_4 : decode cX5_comes 4 = .ok (.invokestatic 49, 3) := by decide +kernel
theorem dX5_comes_7 : decode cX5_comes 7 = .ok (.ifCond .ne 12, 3) := by decide +kernel
theorem dX5_comes_10 : decode cX5_comes 10 = .ok (.iload_n 2, 1) := by decide +kernel
theorem dX5_comes_11 : decode cX5_comes 11 = .ok (.iconst 0, 1) := by decide +kernel
theorem dX5_comes_12 : decode cX5_comes 12 = .ok (.iconst 1, 1) := by decide +kernel
theorem dX5_comes_13 : decode cX5_comes 13 = .ok (.invokestatic 49, 3) := by decide +kernel
theorem dX5_comes_16 : decode cX5_comes 16 = .ok (.ifCond .eq 10, 3) := by decide +kernel
theorem dX5_comes_19 : decode cX5_comes 19 = .ok (.aload_n 0, 1) := by decide +kernel
theorem dX5_comes_20 : decode cX5_comes 20 = .ok (.ldc 53, 2) := by decide +kernel
theorem dX5_comes_22 : decode cX5_comes 22 = .ok (.invokevirtual 54, 3) := by decide +kernel
theorem dX5_comes_25 : decode cX5_comes 25 = .ok (.ireturn, 1) := by decide +kernel
theorem dX5_comes_26 : decode cX5_comes 26 = .ok (.aload_n 0, 1) := by decide +kernel
theorem dX5_comes_27 : decode cX5_comes 27 = .ok (.getfield 16, 3) := by decide +kernel
theorem dX5_comes_30 : decode cX5_comes 30 = .ok (.aload_n 0, 1) := by decide +kernel
theorem dX5_comes_31 : decode cX5_comes 31 = .ok (.getfield 10, 3) := by decide +kernel
theorem dX5_comes_34 : decode cX5_comes 34 = .ok (.invokevirtual 150, 3) := by decide +kernel
theorem dX5_comes_37 : decode cX5_comes 37 = .ok (.iconst 0, 1) := by decide +kernel
theorem dX5_comes_38 : decode cX5_comes 38 = .ok (.istore_n 3, 1) := by decide +kernel
theorem dX5_comes_39 : decode cX5_comes 39 = .ok (.iload_n 3, 1) := by decide +kernel
theorem dX5_comes_40 : decode cX5_comes 40 = .ok (.sipush 200, 3) := by decide +kernel
theorem dX5_comes_43 : decode cX5_comes 43 = .ok (.if_icmp .gt 34, 3) := by decide +kernel
theorem dX5_comes_46 : decode cX5_comes 46 = .ok (.aload_n 0, 1) := by decide +kernel
theorem dX5_comes_47 : decode cX5_comes 47 = .ok (.getfield 16, 3) := by decide +kernel
theorem dX5_comes_50 : decode cX5_comes 50 = .ok (.getfield 62, 3) := by decide +kernel
theorem dX5_comes_53 : decode cX5_comes 53 = .ok (.iload_n 1, 1) := by decide +kernel
theorem dX5_comes_54 : decode cX5_comes 54 = .ok (.invokestatic 154, 3) := by decide +kernel
theorem dX5_comes_57 : decode cX5_comes 57 = .ok (.iload_n 2, 1) := by decide +kernel
theorem dX5_comes_58 : decode cX5_comes 58 = .ok (.if_icmp .ne 5, 3) := by decide +kernel
theorem dX5_comes_61 : decode cX5_comes 61 = .ok (.iload_n 3, 1) := by decide +kernel
theorem dX5_comes_62 : decode cX5_comes 62 = .ok (.ireturn, 1) := by decide +kernel
theorem dX5_comes_63 : decode cX5_comes 63 = .ok (.aload_n 0, 1) := by decide +kernel
theorem dX5_comes_64 : decode cX5_comes 64 = .ok (.getfield 16, 3) := by decide +kernel
theorem dX5_comes_67 : decode cX5_comes 67 = .ok (.iconst 1, 1) := by decide +kernel
theorem dX5_comes_68 : decode cX5_comes 68 = .ok (.invokevirtual 143, 3) := by decide +kernel
theorem dX5_comes_71 : decode cX5_comes 71 = .ok (.iinc 3 1, 3) := by decide +kernel
theorem dX5_comes_74 : decode cX5_comes 74 = .ok (.goto (-35), 3) := by decide +kernel
theorem dX5_comes_77 : decode cX5_comes 77 = .ok (.aload_n 0, 1) := by decide +kernel
theorem dX5_comes_78 : decode cX5_comes 78 = .ok (.ldc 157, 2) := by decide +kernel
theorem dX5_comes_80 : decode cX5_comes 80 = .ok (.invokevirtual 54, 3) := by decide +kernel
theorem dX5_comes_83 : decode cX5_comes 83 = .ok (.ireturn, 1) := by decide +kernel
theorem dX5_wise_0 : decode cX5_wise 0 = .ok (.aload_n 0, 1) := by decide +kernel
theorem dX5_wise_1 : decode cX5_wise 1 = .ok (.getfield 16, 3) := by decide +kernel
theorem dX5_wise_4 : decode cX5_wise 4 = .ok (.aload_n 0, 1) := by decide +kernel
theorem dX5_wise_5 : decode cX5_wise 5 = .ok (.getfield 10, 3) := by decide +kernel
theorem dX5_wise_8 : decode cX5_wise 8 = .ok (.invokevirtual 150, 3) := by decide +kernel
theorem dX5_wise_11 : decode cX5_wise 11 = .ok (.iconst 0, 1) := by decide +kernel
theorem dX5_wise_12 : decode cX5_wise 12 = .ok (.istore_n 1, 1) := by decide +kernel
theorem dX5_wise_13 : decode cX5_wise 13 = .ok (.iload_n 1, 1) := by decide +kernel
theorem dX5_wise_14 : decode cX5_wise 14 = .ok (.sipush 200, 3) := by decide +kernel
theorem dX5_wise_17 : decode cX5_wise 17 = .ok (.if_icmp .gt 32, 3) := by decide +kernel
theorem dX5_wise_20 : decode cX5_wise 20 = .ok (.aload_n 0, 1) := by decide +kernel
theorem dX5_wise_21 : decode cX5_wise 21 = .ok (.getfield 16, 3) := by decide +kernel
theorem dX5_wise_24 : decode cX5_wise 24 = .ok (.invokevirtual 84, 3) := by decide +kernel
theorem dX5_wise_27 : decode cX5_wise 27 = .ok (.sipush 255, 3) := by decide +kernel
theorem dX5_wise_30 : decode cX5_wise 30 = .ok (.if_icmp .ne 5, 3) := by decide +kernel
theorem dX5_wise_33 : decode cX5_wise 33 = .ok (.iload_n 1, 1) := by decide +kernel
theorem dX5_wise_34 : decode cX5_wise 34 = .ok (.ireturn, 1) := by decide +kernel
theorem dX5_wise_35 : decode cX5_wise 35 = .ok (.aload_n 0, 1) := by decide +kernel
theorem dX5_wise_36 : decode cX5_wise 36 = .ok (.getfield 16, 3) := by decide +kernel
theorem dX5_wise_39 : decode cX5_wise 39 = .ok (.iconst 1, 1) := by decide +kernel
theorem dX5_wise_40 : decode cX5_wise 40 = .ok (.invokevirtual 143, 3) := by decide +kernel
theorem dX5_wise_43 : decode cX5_wise 43 = .ok (.iinc 1 1, 3) := by decide +kernel
theorem dX5_wise_46 : decode cX5_wise 46 = .ok (.goto (-33), 3) := by decide +kernel
theorem dX5_wise_49 : decode cX5_wise 49 = .ok (.aload_n 0, 1) := by decide +kernel
theorem dX5_wise_50 : decode cX5_wise 50 = .ok (.ldc 157, 2) := by decide +kernel
theorem dX5_wise_52 : decode cX5_wise 52 = .ok (.invokevirtual 54, 3) := by decide +kernel
theorem dX5_wise_55 : decode cX5_wise 55 = .ok (.ireturn, 1) := by decide +kernel
theorem dX5_errs_0 : decode cX5_errs 0 = .ok (.aload_n 0, 1) := by decide +kernel
theorem dX5_errs_1 : decode cX5_errs 1 = .ok (.getfield 10, 3) := by decide +kernel
theorem dX5_errs_4 : decode cX5_errs 4 = .ok (.iload_n 1, 1) := by decide +kernel
theorem dX5_errs_5 : decode cX5_errs 5 = .ok (.invokevirtual 99, 3) := by decide +kernel
theorem dX5_errs_8 : decode cX5_errs 8 = .ok (.ifCond .ne 10, 3) := by decide +kernel
theorem dX5_errs_11 : decode cX5_errs 11 = .ok (.aload_n 0, 1) := by decide +kernel
theorem dX5_errs_12 : decode cX5_errs 12 = .ok (.ldc 53, 2) := by decide +kernel
theorem dX5_errs_14 : decode cX5_errs 14 = .ok (.invokevirtual 54, 3) := by decide +kernel
theorem dX5_errs_17 : decode cX5_errs 17 = .ok (.ireturn, 1) := by decide +kernel
theorem dX5_errs_18 : decode cX5_errs 18 = .ok (.aload_n 0, 1) := by decide +kernel
theorem dX5_errs_19 : decode cX5_errs 19 = .ok (.getfield 10, 3) := by decide +kernel
theorem dX5_errs_22 : decode cX5_errs 22 = .ok (.getfield 103, 3) := by decide +kernel
theorem dX5_errs_25 : decode cX5_errs 25 = .ok (.iload_n 1, 1) := by decide +kernel
theorem dX5_errs_26 : decode cX5_errs 26 = .ok (.aaload, 1) := by decide +kernel
theorem dX5_errs_27 : decode cX5_errs 27 = .ok (.getfield 158, 3) := by decide +kernel
theorem dX5_errs_30 : decode cX5_errs 30 = .ok (.istore_n 2, 1) := by decide +kernel
theorem dX5_errs_31 : decode cX5_errs 31 = .ok (.aload_n 0, 1) := by decide +kernel
theorem dX5_errs_32 : decode cX5_errs 32 = .ok (.getfield 16, 3) := by decide +kernel
theorem dX5_errs_35 : decode cX5_errs 35 = .ok (.aload_n 0, 1) := by decide +kernel
theorem dX5_errs_36 : decode cX5_errs 36 = .ok (.getfield 10, 3) := by decide +kernel
theorem dX5_errs_39 : decode cX5_errs 39 = .ok (.invokevirtual 150, 3) := by decide +kernel
theorem dX5_errs_42 : decode cX5_errs 42 = .ok (.iconst 1, 1) := by decide +kernel
theorem dX5_errs_43 : decode cX5_errs 43 = .ok (.istore_n 3, 1) := by decide +kernel
theorem dX5_errs_44 : decode cX5_errs 44 = .ok (.iload_n 3, 1) := by decide +kernel
theorem dX5_errs_45 : decode cX5_errs 45 = .ok (.sipush 200, 3) := by decide +kernel
theorem dX5_errs_48 : decode cX5_errs 48 = .ok (.if_icmp .gt 35, 3) := by decide +kernel
theorem dX5_errs_51 : decode cX5_errs 51 = .ok (.aload_n 0, 1) := by decide +kernel
theorem dX5_errs_52 : decode cX5_errs 52 = .ok (.getfield 16, 3) := by decide +kernel
theorem dX5_errs_55 : decode cX5_errs 55 = .ok (.iconst 1, 1) := by decide +kernel
theorem dX5_errs_56 : decode cX5_errs 56 = .ok (.invokevirtual 143, 3) := by decide +kernel
theorem dX5_errs_59 : decode cX5_errs 59 = .ok (.aload_n 0, 1) := by decide +kernel
theorem dX5_errs_60 : decode cX5_errs 60 = .ok (.getfield 16, 3) := by decide +kernel
theorem dX5_errs_63 : decode cX5_errs 63 = .ok (.getfield 103, 3) := by decide +kernel
theorem dX5_errs_66 : decode cX5_errs 66 = .ok (.iload_n 1, 1) := by decide +kernel
theorem dX5_errs_67 : decode cX5_errs 67 = .ok (.aaload, 1) := by decide +kernel
theorem dX5_errs_68 : decode cX5_errs 68 = .ok (.getfield 158, 3) := by decide +kernel
theorem dX5_errs_71 : decode cX5_errs 71 = .ok (.iload_n 2, 1) := by decide +kernel
theorem dX5_errs_72 : decode cX5_errs 72 = .ok (.if_icmp .le 5, 3) := by decide +kernel
theorem dX5_errs_75 : decode cX5_errs 75 = .ok (.iload_n 3, 1) := by decide +kernel
theorem dX5_errs_76 : decode cX5_errs 76 = .ok (.ireturn, 1) := by decide +kernel
theorem dX5_errs_77 : decode cX5_errs 77 = .ok (.iinc 3 1, 3) := by decide +kernel
theorem dX5_errs_80 : decode cX5_errs 80 = .ok (.goto (-36), 3) := by decide +kernel
theorem dX5_errs_83 : decode cX5_errs 83 = .ok (.aload_n 0, 1) := by decide +kernel
theorem dX5_errs_84 : decode cX5_errs 84 = .ok (.ldc 157, 2) := by decide +kernel
theorem dX5_errs_86 : decode cX5_errs 86 = .ok (.invokevirtual 54, 3) := by decide +kernel
theorem dX5_errs_89 : decode cX5_errs 89 = .ok (.ireturn, 1) := by decide +kernel
theorem dX5_lift_0 : decode cX5_lift 0 = .ok (.iload_n 1, 1) := by decide +kernel
theorem dX5_lift_1 : decode cX5_lift 1 = .ok (.iconst 1, 1) := by decide +kernel
theorem dX5_lift_2 : decode cX5_lift 2 = .ok (.bipush 60, 2) := by decide +kernel
theorem dX5_lift_4 : decode cX5_lift 4 = .ok (.invokestatic 49, 3) := by decide +kernel
theorem dX5_lift_7 : decode cX5_lift 7 = .ok (.ifCond .eq 10, 3) := by decide +kernel
theorem dX5_lift_10 : decode cX5_lift 10 = .ok (.aload_n 0, 1) := by decide +kernel
theorem dX5_lift_11 : decode cX5_lift 11 = .ok (.ldc 53, 2) := by decide +kernel
theorem dX5_lift_13 : decode cX5_lift 13 = .ok (.invokevirtual 54, 3) := by decide +kernel
theorem dX5_lift_16 : decode cX5_lift 16 = .ok (.ireturn, 1) := by decide +kernel
theorem dX5_lift_17 : decode cX5_lift 17 = .ok (.iconst (-1), 1) := by decide +kernel
theorem dX5_lift_18 : decode cX5_lift 18 = .ok (.istore_n 2, 1) := by decide +kernel
theorem dX5_lift_19 : decode cX5_lift 19 = .ok (.iconst (-1), 1) := by decide +kernel
theorem dX5_lift_20 : decode cX5_lift 20 = .ok (.istore_n 3, 1) := by decide +kernel
theorem dX5_lift_21 : decode cX5_lift 21 = .ok (.iconst 0, 1) := by decide +kernel
theorem dX5_lift_22 : decode cX5_lift 22 = .ok (.istore 4, 2) := by decide +kernel
theorem dX5_lift_24 : decode cX5_lift 24 = .ok (.iload 4, 2) := by decide +kernel
theorem dX5_lift_26 : decode cX5_lift 26 = .ok (.aload_n 0, 1) := by decide +kernel
theorem dX5_lift_27 : decode cX5_lift 27 = .ok (.getfield 10, 3) := by decide +kernel
theorem dX5_lift_30 : decode cX5_lift 30 = .ok (.getfield 96, 3) := by decide +kernel
theorem dX5_lift_33 : decode cX5_lift 33 = .ok (.if_icmp .ge 85, 3) := by decide +kernel
theorem dX5_lift_36 : decode cX5_lift 36 = .ok (.aload_n 0, 1) := by decide +kernel
theorem dX5_lift_37 : decode cX5_lift 37 = .ok (.getfield 10, 3) := by decide +kernel
theorem dX5_lift_40 : decode cX5_lift 40 = .ok (.getfield 103, 3) := by decide +kernel
theorem dX5_lift_43 : decode cX5_lift 43 = .ok (.iload 4, 2) := by decide +kernel
theorem dX5_lift_45 : decode cX5_lift 45 = .ok (.aaload, 1) := by decide +kernel
theorem dX5_lift_46 : decode cX5_lift 46 = .ok (.getfield 161, 3) := by decide +kernel
theorem dX5_lift_49 : decode cX5_lift 49 = .ok (.ifCond .ne 6, 3) := by decide +kernel
theorem dX5_lift_52 : decode cX5_lift 52 = .ok (.goto 60, 3) := by decide +kernel
theorem dX5_lift_55 : decode cX5_lift 55 = .ok (.aload_n 0, 1) := by decide +kernel
theorem dX5_lift_56 : decode cX5_lift 56 = .ok (.getfield 16, 3) := by decide +kernel
theorem dX5_lift_59 : decode cX5_lift 59 = .ok (.aload_n 0, 1) := by decide +kernel
theorem dX5_lift_60 : decode cX5_lift 60 = .ok (.getfield 10, 3) := by decide +kernel
theorem dX5_lift_63 : decode cX5_lift 63 = .ok (.invokevirtual 150, 3) := by decide +kernel
theorem dX5_lift_66 : decode cX5_lift 66 = .ok (.aload_n 0, 1) := by decide +kernel
theorem dX5_lift_67 : decode cX5_lift 67 = .ok (.getfield 16, 3) := by decide +kernel
theorem dX5_lift_70 : decode cX5_lift 70 = .ok (.getfield 103, 3) := by decide +kernel
theorem dX5_lift_73 : decode cX5_lift 73 = .ok (.iload 4, 2) := by decide +kernel
theorem dX5_lift_75 : decode cX5_lift 75 = .ok (.aaload, 1) := by decide +kernel
theorem dX5_lift_76 : decode cX5_lift 76 = .ok (.iconst 0, 1) := by decide +kernel
theorem dX5_lift_77 : decode cX5_lift 77 = .ok (.putfield 161, 3) := by decide +kernel
theorem dX5_lift_80 : decode cX5_lift 80 = .ok (.aload_n 0, 1) := by decide +kernel
theorem dX5_lift_81 : decode cX5_lift 81 = .ok (.getfield 16, 3) := by decide +kernel
theorem dX5_lift_84 : decode cX5_lift 84 = .ok (.iload_n 1, 1) := by decide +kernel
theorem dX5_lift_85 : decode cX5_lift 85 = .ok (.invokevirtual 143, 3) := by decide +kernel
theorem dX5_lift_88 : decode cX5_lift 88 = .ok (.aload_n 0, 1) := by decide +kernel
theorem dX5_lift_89 : decode cX5_lift 89 = .ok (.getfield 16, 3) := by decide +kernel
theorem dX5_lift_92 : decode cX5_lift 92 = .ok (.invokevirtual 84, 3) := by decide +kernel
theorem dX5_lift_95 : decode cX5_lift 95 = .ok (.invokestatic 164, 3) := by decide +kernel
theorem dX5_lift_98 : decode cX5_lift 98 = .ok (.istore 5, 2) := by decide +kernel
theorem dX5_lift_100 : decode cX5_lift 100 = .ok (.iload 5, 2) := by decide +kernel
theorem dX5_lift_102 : decode cX5_lift 102 = .ok (.iload_n 3, 1) := by decide +kernel
theorem dX5_lift_103 : decode cX5_lift 103 = .ok (.if_icmp .le 9, 3) := by decide +kernel
theorem dX5_lift_106 : decode cX5_lift 106 = .ok (.iload 5, 2) := by decide +kernel
theorem dX5_lift_108 : decode cX5_lift 108 = .ok (.istore_n 3, 1) := by decide +kernel
theorem dX5_lift_109 : decode cX5_lift 109 = .ok (.iload 4, 2) := by decide +kernel
theorem dX5_lift_111 : decode cX5_lift 111 = .ok (.istore_n 2, 1) := by decide +kernel
theorem dX5_lift_112 : decode cX5_lift 112 = .ok (.iinc 4 1, 3) := by decide +kernel
theorem dX5_lift_115 : decode cX5_lift 115 = .ok (.goto (-91), 3) := by decide +kernel
theorem dX5_lift_118 : decode cX5_lift 118 = .ok (.iload_n 2, 1) := by decide +kernel
theorem dX5_lift_119 : decode cX5_lift 119 = .ok (.ifCond .ge 12, 3) := by decide +kernel
theorem dX5_lift_122 : decode cX5_lift 122 = .ok (.aload_n 0, 1) := by decide +kernel
theorem dX5_lift_123 : decode cX5_lift 123 = .ok (.ldc 157, 2) := by decide +kernel
theorem dX5_lift_125 : decode cX5_lift 125 = .ok (.invokevirtual 54, 3) := by decide +kernel
theorem dX5_lift_128 : decode cX5_lift 128 = .ok (.goto 4, 3) := by decide +kernel
theorem dX5_lift_131 : decode cX5_lift 131 = .ok (.iload_n 2, 1) := by decide +kernel
theorem dX5_lift_132 : decode cX5_lift 132 = .ok (.ireturn, 1) := by decide +kernel
theorem dX5_kind_0 : decode cX5_kind 0 = .ok (.aload_n 0, 1) := by decide +kernel
theorem dX5_kind_1 : decode cX5_kind 1 = .ok (.getfield 10, 3) := by decide +kernel
theorem dX5_kind_4 : decode cX5_kind 4 = .ok (.iload_n 1, 1) := by decide +kernel
theorem dX5_kind_5 : decode cX5_kind 5 = .ok (.invokevirtual 99, 3) := by decide +kernel
theorem dX5_kind_8 : decode cX5_kind 8 = .ok (.ifCond .eq 13, 3) := by decide +kernel
theorem dX5_kind_11 : decode cX5_kind 11 = .ok (.iload_n 2, 1) := by decide +kernel
theorem dX5_kind_12 : decode cX5_kind 12 = .ok (.iconst 1, 1) := by decide +kernel
theorem dX5_kind_13 : decode cX5_kind 13 = .ok (.bipush 60, 2) := by decide +kernel
theorem dX5_kind_15 : decode cX5_kind 15 = .ok (.invokestatic 49, 3) := by decide +kernel
theorem dX5_kind_18 : decode cX5_kind 18 = .ok (.ifCond .eq 10, 3) := by decide +kernel
theorem dX5_kind_21 : decode cX5_kind 21 = .ok (.aload_n 0, 1) := by decide +kernel
theorem dX5_kind_22 : decode cX5_kind 22 = .ok (.ldc 53, 2) := by decide +kernel
theorem dX5_kind_24 : decode cX5_kind 24 = .ok (.invokevirtual 54, 3) := by decide +kernel
theorem dX5_kind_27 : decode cX5_kind 27 = .ok (.ireturn, 1) := by decide +kernel
theorem dX5_kind_28 : decode cX5_kind 28 = .ok (.iconst 0, 1) := by decide +kernel
theorem dX5_kind_29 : decode cX5_kind 29 = .ok (.istore_n 3, 1) := by decide +kernel
theorem dX5_kind_30 : decode cX5_kind 30 = .ok (.iconst (-1), 1) := by decide +kernel
theorem dX5_kind_31 : decode cX5_kind 31 = .ok (.istore 4, 2) := by decide +kernel
theorem dX5_kind_33 : decode cX5_kind 33 = .ok (.iconst 0, 1) := by decide +kernel
theorem dX5_kind_34 : decode cX5_kind 34 = .ok (.istore 5, 2) := by decide +kernel
theorem dX5_kind_36 : decode cX5_kind 36 = .ok (.iload 5, 2) := by decide +kernel
theorem dX5_kind_38 : decode cX5_kind 38 = .ok (.bipush 6, 2) := by decide +kernel
theorem dX5_kind_40 : decode cX5_kind 40 = .ok (.if_icmp .ge 76, 3) := by decide +kernel
theorem dX5_kind_43 : decode cX5_kind 43 = .ok (.aload_n 0, 1) := by decide +kernel
theorem dX5_kind_44 : decode cX5_kind 44 = .ok (.getfield 16, 3) := by decide +kernel
theorem dX5_kind_47 : decode cX5_kind 47 = .ok (.aload_n 0, 1) := by decide +kernel
theorem dX5_kind_48 : decode cX5_kind 48 = .ok (.getfield 10, 3) := by decide +kernel
theorem dX5_kind_51 : decode cX5_kind 51 = .ok (.invokevirtual 150, 3) := by decide +kernel
theorem dX5_kind_54 : decode cX5_kind 54 = .ok (.aload_n 0, 1) := by decide +kernel
theorem dX5_kind_55 : decode cX5_kind 55 = .ok (.getfield 16, 3) := by decide +kernel
theorem dX5_kind_58 : decode cX5_kind 58 = .ok (.getfield 103, 3) := by decide +kernel
theorem dX5_kind_61 : decode cX5_kind 61 = .ok (.iload_n 1, 1) := by decide +kernel
theorem dX5_kind_62 : decode cX5_kind 62 = .ok (.aaload, 1) := by decide +kernel
theorem dX5_kind_63 : decode cX5_kind 63 = .ok (.iload 5, 2) := by decide +kernel
theorem dX5_kind_65 : decode cX5_kind 65 = .ok (.putfield 131, 3) := by decide +kernel
theorem dX5_kind_68 : decode cX5_kind 68 = .ok (.aload_n 0, 1) := by decide +kernel
theorem dX5_kind_69 : decode cX5_kind 69 = .ok (.getfield 16, 3) := by decide +kernel
theorem dX5_kind_72 : decode cX5_kind 72 = .ok (.iload_n 2, 1) := by decide +kernel
theorem dX5_kind_73 : decode cX5_kind 73 = .ok (.invokevirtual 143, 3) := by decide +kernel
theorem dX5_kind_76 : decode cX5_kind 76 = .ok (.aload_n 0, 1) := by decide +kernel
theorem dX5_kind_77 : decode cX5_kind 77 = .ok (.getfield 16, 3) := by decide +kernel
theorem dX5_kind_80 : decode cX5_kind 80 = .ok (.getfield 103, 3) := by decide +kernel
theorem dX5_kind_83 : decode cX5_kind 83 = .ok (.iload_n 1, 1) := by decide +kernel
theorem dX5_kind_84 : decode cX5_kind 84 = .ok (.aaload, 1) := by decide +kernel
theorem dX5_kind_85 : decode cX5_kind 85 = .ok (.getfield 169, 3) := by decide +kernel
theorem dX5_kind_88 : decode cX5_kind 88 = .ok (.iload 4, 2) := by decide +kernel
theorem dX5_kind_90 : decode cX5_kind 90 = .ok (.if_icmp .le 20, 3) := by decide +kernel
theorem dX5_kind_93 : decode cX5_kind 93 = .ok (.aload_n 0, 1) := by decide +kernel
theorem dX5_kind_94 : decode cX5_kind 94 = .ok (.getfield 16, 3) := by decide +kernel
theorem dX5_kind_97 : decode cX5_kind 97 = .ok (.getfield 103, 3) := by decide +kernel
theorem dX5_kind_100 : decode cX5_kind 100 = .ok (.iload_n 1, 1) := by decide +kernel
theorem dX5_kind_101 : decode cX5_kind 101 = .ok (.aaload, 1) := by decide +kernel
theorem dX5_kind_102 : decode cX5_kind 102 = .ok (.getfield 169, 3) := by decide +kernel
theorem dX5_kind_105 : decode cX5_kind 105 = .ok (.istore 4, 2) := by decide +kernel
theorem dX5_kind_107 : decode cX5_kind 107 = .ok (.iload 5, 2) := by decide +kernel
theorem dX5_kind_109 : decode cX5_kind 109 = .ok (.istore_n 3, 1) := by decide +kernel
theorem dX5_kind_110 : decode cX5_kind 110 = .ok (.iinc 5 1, 3) := by decide +kernel
theorem dX5_kind_113 : decode cX5_kind 113 = .ok (.goto (-77), 3) := by decide +kernel
theorem dX5_kind_116 : decode cX5_kind 116 = .ok (.iload_n 3, 1) := by decide +kernel
theorem dX5_kind_117 : decode cX5_kind 117 = .ok (.ireturn, 1) := by decide +kernel
theorem dX5_view_0 : decode cX5_view 0 = .ok (.aload_n 0, 1) := by decide +kernel
theorem dX5_view_1 : decode cX5_view 1 = .ok (.getfield 10, 3) := by decide +kernel
theorem dX5_view_4 : decode cX5_view 4 = .ok (.iload_n 1, 1) := by decide +kernel
theorem dX5_view_5 : decode cX5_view 5 = .ok (.invokevirtual 99, 3) := by decide +kernel
theorem dX5_view_8 : decode cX5_view 8 = .ok (.ifCond .eq 13, 3) := by decide +kernel
theorem dX5_view_11 : decode cX5_view 11 = .ok (.iload_n 2, 1) := by decide +kernel
theorem dX5_view_12 : decode cX5_view 12 = .ok (.iconst 1, 1) := by decide +kernel
theorem dX5_view_13 : decode cX5_view 13 = .ok (.bipush 32, 2) := by decide +kernel
theorem dX5_view_15 : decode cX5_view 15 = .ok (.invokestatic 49, 3) := by decide +kernel
theorem dX5_view_18 : decode cX5_view 18 = .ok (.ifCond .eq 10, 3) := by decide +kernel
theorem dX5_view_21 : decode cX5_view 21 = .ok (.aload_n 0, 1) := by decide +kernel
theorem dX5_view_22 : decode cX5_view 22 = .ok (.ldc 53, 2) := by decide +kernel
theorem dX5_view_24 : decode cX5_view 24 = .ok (.invokevirtual 54, 3) := by decide +kernel
theorem dX5_view_27 : decode cX5_view 27 = .ok (.ireturn, 1) := by decide +kernel
theorem dX5_view_28 : decode cX5_view 28 = .ok (.iconst 0, 1) := by decide +kernel
theorem dX5_view_29 : decode cX5_view 29 = .ok (.istore_n 3, 1) := by decide +kernel
theorem dX5_view_30 : decode cX5_view 30 = .ok (.iconst (-1), 1) := by decide +kernel
theorem dX5_view_31 : decode cX5_view 31 = .ok (.istore 4, 2) := by decide +kernel
theorem dX5_view_33 : decode cX5_view 33 = .ok (.iconst 0, 1) := by decide +kernel
theorem dX5_view_34 : decode cX5_view 34 = .ok (.istore 5, 2) := by decide +kernel
theorem dX5_view_36 : decode cX5_view 36 = .ok (.iload 5, 2) := by decide +kernel
theorem dX5_view_38 : decode cX5_view 38 = .ok (.sipush 255, 3) := by decide +kernel
theorem dX5_view_41 : decode cX5_view 41 = .ok (.if_icmp .gt 68, 3) := by decide +kernel
theorem dX5_view_44 : decode cX5_view 44 = .ok (.aload_n 0, 1) := by decide +kernel
theorem dX5_view_45 : decode cX5_view 45 = .ok (.getfield 16, 3) := by decide +kernel
theorem dX5_view_48 : decode cX5_view 48 = .ok (.aload_n 0, 1) := by decide +kernel
theorem dX5_view_49 : decode cX5_view 49 = .ok (.getfield 10, 3) := by decide +kernel
theorem dX5_view_52 : decode cX5_view 52 = .ok (.invokevirtual 150, 3) := by decide +kernel
theorem dX5_view_55 : decode cX5_view 55 = .ok (.aload_n 0, 1) := by decide +kernel
theorem dX5_view_56 : decode cX5_view 56 = .ok (.getfield 16, 3) := by decide +kernel
theorem dX5_view_59 : decode cX5_view 59 = .ok (.getfield 103, 3) := by decide +kernel
theorem dX5_view_62 : decode cX5_view 62 = .ok (.iload_n 1, 1) := by decide +kernel
theorem dX5_view_63 : decode cX5_view 63 = .ok (.aaload, 1) := by decide +kernel
theorem dX5_view_64 : decode cX5_view 64 = .ok (.iload 5, 2) := by decide +kernel
theorem dX5_view_66 : decode cX5_view 66 = .ok (.putfield 137, 3) := by decide +kernel
theorem dX5_view_69 : decode cX5_view 69 = .ok (.aload_n 0, 1) := by decide +kernel
theorem dX5_view_70 : decode cX5_view 70 = .ok (.getfield 16, 3) := by decide +kernel
theorem dX5_view_73 : decode cX5_view 73 = .ok (.iload_n 2, 1) := by decide +kernel
theorem dX5_view_74 : decode cX5_view 74 = .ok (.invokevirtual 143, 3) := by decide +kernel
theorem dX5_view_77 : decode cX5_view 77 = .ok (.aload_n 0, 1) := by decide +kernel
theorem dX5_view_78 : decode cX5_view 78 = .ok (.getfield 16, 3) := by decide +kernel
theorem dX5_view_81 : decode cX5_view 81 = .ok (.invokevirtual 84, 3) := by decide +kernel
theorem dX5_view_84 : decode cX5_view 84 = .ok (.invokestatic 164, 3) := by decide +kernel
theorem dX5_view_87 : decode cX5_view 87 = .ok (.istore 6, 2) := by decide +kernel
theorem dX5_view_89 : decode cX5_view 89 = .ok (.iload 6, 2) := by decide +kernel
theorem dX5_view_91 : decode cX5_view 91 = .ok (.iload 4, 2) := by decide +kernel
theorem dX5_view_93 : decode cX5_view 93 = .ok (.if_icmp .le 10, 3) := by decide +kernel
theorem dX5_view_96 : decode cX5_view 96 = .ok (.iload 6, 2) := by decide +kernel
theorem dX5_view_98 : decode cX5_view 98 = .ok (.istore 4, 2) := by decide +kernel
theorem dX5_view_100 : decode cX5_view 100 = .ok (.iload 5, 2) := by decide +kernel
theorem dX5_view_102 : decode cX5_view 102 = .ok (.istore_n 3, 1) := by decide +kernel
theorem dX5_view_103 : decode cX5_view 103 = .ok (.iinc 5 1, 3) := by decide +kernel
theorem dX5_view_106 : decode cX5_view 106 = .ok (.goto (-70), 3) := by decide +kernel
theorem dX5_view_109 : decode cX5_view 109 = .ok (.iload_n 3, 1) := by decide +kernel
theorem dX5_view_110 : decode cX5_view 110 = .ok (.ireturn, 1) := by decide +kernel
theorem dX5_faith_0 : decode cX5_faith 0 = .ok (.aload_n 0, 1) := by decide +kernel
theorem dX5_faith_1 : decode cX5_faith 1 = .ok (.getfield 10, 3) := by decide +kernel
theorem dX5_faith_4 : decode cX5_faith 4 = .ok (.iload_n 1, 1) := by decide +kernel
theorem dX5_faith_5 : decode cX5_faith 5 = .ok (.invokevirtual 99, 3) := by decide +kernel
theorem dX5_faith_8 : decode cX5_faith 8 = .ok (.ifCond .eq 24, 3) := by decide +kernel
theorem dX5_faith_11 : decode cX5_faith 11 = .ok (.iload_n 2, 1) := by decide +kernel
theorem dX5_faith_12 : decode cX5_faith 12 = .ok (.iconst 1, 1) := by decide +kernel
theorem dX5_faith_13 : decode cX5_faith 13 = .ok (.bipush 60, 2) := by decide +kernel
theorem dX5_faith_15 : decode cX5_faith 15 = .ok (.invokestatic 49, 3) := by decide +kernel
theorem dX5_faith_18 : decode cX5_faith 18 = .ok (.ifCond .ne 14, 3) := by decide +kernel
theorem dX5_faith_21 : decode cX5_faith 21 = .ok (.iload_n 3, 1) := by decide +kernel
theorem dX5_faith_22 : decode cX5_faith 22 = .ok (.iconst 0, 1) := by decide +kernel
theorem dX5_faith_23 : decode cX5_faith 23 = .ok (.sipush 9999, 3) := by decide +kernel
theorem dX5_faith_26 : decode cX5_faith 26 = .ok (.invokestatic 49, 3) := by decide +kernel
theorem dX5_faith_29 : decode cX5_faith 29 = .ok (.ifCond .eq 10, 3) := by decide +kernel
theorem dX5_faith_32 : decode cX5_faith 32 = .ok (.aload_n 0, 1) := by decide +kernel
theorem dX5_faith_33 : decode cX5_faith 33 = .ok (.ldc 53, 2) := by decide +kernel
theorem dX5_faith_35 : decode cX5_faith 35 = .ok (.invokevirtual 54, 3) := by decide +kernel
theorem dX5_faith_38 : decode cX5_faith 38 = .ok (.ireturn, 1) := by decide +kernel
theorem dX5_faith_39 : decode cX5_faith 39 = .ok (.iconst 0, 1) := by decide +kernel
theorem dX5_faith_40 : decode cX5_faith 40 = .ok (.istore 4, 2) := by decide +kernel
theorem dX5_faith_42 : decode cX5_faith 42 = .ok (.iload 4, 2) := by decide +kernel
theorem dX5_faith_44 : decode cX5_faith 44 = .ok (.bipush 99, 2) := by decide +kernel
theorem dX5_faith_46 : decode cX5_faith 46 = .ok (.if_icmp .gt 61, 3) := by decide +kernel
theorem dX5_faith_49 : decode cX5_faith 49 = .ok (.aload_n 0, 1) := by decide +kernel
theorem dX5_faith_50 : decode cX5_faith 50 = .ok (.getfield 16, 3) := by decide +kernel
theorem dX5_faith_53 : decode cX5_faith 53 = .ok (.aload_n 0, 1) := by decide +kernel
theorem dX5_faith_54 : decode cX5_faith 54 = .ok (.getfield 10, 3) := by decide +kernel
theorem dX5_faith_57 : decode cX5_faith 57 = .ok (.invokevirtual 150, 3) := by decide +kernel
theorem dX5_faith_60 : decode cX5_faith 60 = .ok (.aload_n 0, 1) := by decide +kernel
theorem dX5_faith_61 : decode cX5_faith 61 = .ok (.getfield 16, 3) := by decide +kernel
theorem dX5_faith_64 : decode cX5_faith 64 = .ok (.getfield 103, 3) := by decide +kernel
theorem dX5_faith_67 : decode cX5_faith 67 = .ok (.iload_n 1, 1) := by decide +kernel
theorem dX5_faith_68 : decode cX5_faith 68 = .ok (.aaload, 1) := by decide +kernel
theorem dX5_faith_69 : decode cX5_faith 69 = .ok (.iload 4, 2) := by decide +kernel
theorem dX5_faith_71 : decode cX5_faith 71 = .ok (.putfield 172, 3) := by decide +kernel
theorem dX5_faith_74 : decode cX5_faith 74 = .ok (.aload_n 0, 1) := by decide +kernel
theorem dX5_faith_75 : decode cX5_faith 75 = .ok (.getfield 16, 3) := by decide +kernel
theorem dX5_faith_78 : decode cX5_faith 78 = .ok (.iload_n 2, 1) := by decide +kernel
theorem dX5_faith_79 : decode cX5_faith 79 = .ok (.invokevirtual 143, 3) := by decide +kernel
theorem dX5_faith_82 : decode cX5_faith 82 = .ok (.aload_n 0, 1) := by decide +kernel
theorem dX5_faith_83 : decode cX5_faith 83 = .ok (.getfield 16, 3) := by decide +kernel
theorem dX5_faith_86 : decode cX5_faith 86 = .ok (.getfield 103, 3) := by decide +kernel
theorem dX5_faith_89 : decode cX5_faith 89 = .ok (.iload_n 1, 1) := by decide +kernel
theorem dX5_faith_90 : decode cX5_faith 90 = .ok (.aaload, 1) := by decide +kernel
theorem dX5_faith_91 : decode cX5_faith 91 = .ok (.getfield 169, 3) := by decide +kernel
theorem dX5_faith_94 : decode cX5_faith 94 = .ok (.iload_n 3, 1) := by decide +kernel
theorem dX5_faith_95 : decode cX5_faith 95 = .ok (.if_icmp .lt 6, 3) := by decide +kernel
theorem dX5_faith_98 : decode cX5_faith 98 = .ok (.iload 4, 2) := by decide +kernel
theorem dX5_faith_100 : decode cX5_faith 100 = .ok (.ireturn, 1) := by decide +kernel
theorem dX5_faith_101 : decode cX5_faith 101 = .ok (.iinc 4 1, 3) := by decide +kernel
theorem dX5_faith_104 : decode cX5_faith 104 = .ok (.goto (-62), 3) := by decide +kernel
theorem dX5_faith_107 : decode cX5_faith 107 = .ok (.aload_n 0, 1) := by decide +kernel
theorem dX5_faith_108 : decode cX5_faith 108 = .ok (.ldc 157, 2) := by decide +kernel
theorem dX5_faith_110 : decode cX5_faith 110 = .ok (.invokevirtual 54, 3) := by decide +kernel
theorem dX5_faith_113 : decode cX5_faith 113 = .ok (.ireturn, 1) := by decide +kernel
theorem dX5_swing_0 : decode cX5_swing 0 = .ok (.aload_n 0, 1) := by decide +kernel
theorem dX5_swing_1 : decode cX5_swing 1 = .ok (.getfield 10, 3) := by decide +kernel
theorem dX5_swing_4 : decode cX5_swing 4 = .ok (.invokevirtual 72, 3) := by decide +kernel
theorem dX5_swing_7 : decode cX5_swing 7 = .ok (.aload_n 0, 1) := by decide +kernel
theorem dX5_swing_8 : decode cX5_swing 8 = .ok (.getfield 10, 3) := by decide +kernel
theorem dX5_swing_11 : decode cX5_swing 11 = .ok (.invokevirtual 175, 3) := by decide +kernel
theorem dX5_swing_14 : decode cX5_swing 14 = .ok (.istore_n 1, 1) := by decide +kernel
theorem dX5_swing_15 : decode cX5_swing 15 = .ok (.iconst 0, 1) := by decide +kernel
theorem dX5_swing_16 : decode cX5_swing 16 = .ok (.istore_n 2, 1) := by decide +kernel
theorem dX5_swing_17 : decode cX5_swing 17 = .ok (.iload_n 2, 1) := by decide +kernel
theorem dX5_swing_18 : decode cX5_swing 18 = .ok (.aload_n 0, 1) := by decide +kernel
theorem dX5_swing_19 : decode cX5_swing 19 = .ok (.getfield 10, 3) := by decide +kernel
theorem dX5_swing_22 : decode cX5_swing 22 = .ok (.getfield 96, 3) := by decide +kernel
theorem dX5_swing_25 : decode cX5_swing 25 = .ok (.if_icmp .ge 71, 3) := by decide +kernel
theorem dX5_swing_28 : decode cX5_swing 28 = .ok (.aload_n 0, 1) := by decide +kernel
theorem dX5_swing_29 : decode cX5_swing 29 = .ok (.getfield 10, 3) := by decide +kernel
theorem dX5_swing_32 : decode cX5_swing 32 = .ok (.getfield 103, 3) := by decide +kernel
theorem dX5_swing_35 : decode cX5_swing 35 = .ok (.iload_n 2, 1) := by decide +kernel
theorem dX5_swing_36 : decode cX5_swing 36 = .ok (.aaload, 1) := by decide +kernel
theorem dX5_swing_37 : decode cX5_swing 37 = .ok (.getfield 161, 3) := by decide +kernel
theorem dX5_swing_40 : decode cX5_swing 40 = .ok (.ifCond .ne 6, 3) := by decide +kernel
theorem dX5_swing_43 : decode cX5_swing 43 = .ok (.goto 47, 3) := by decide +kernel
theorem dX5_swing_46 : decode cX5_swing 46 = .ok (.aload_n 0, 1) := by decide +kernel
theorem dX5_swing_47 : decode cX5_swing 47 = .ok (.getfield 16, 3) := by decide +kernel
theorem dX5_swing_50 : decode cX5_swing 50 = .ok (.aload_n 0, 1) := by decide +kernel
theorem dX5_swing_51 : decode cX5_swing 51 = .ok (.getfield 10, 3) := by decide +kernel
theorem dX5_swing_54 : decode cX5_swing 54 = .ok (.invokevirtual 150, 3) := by decide +kernel
theorem dX5_swing_57 : decode cX5_swing 57 = .ok (.aload_n 0, 1) := by decide +kernel
theorem dX5_swing_58 : decode cX5_swing 58 = .ok (.getfield 16, 3) := by decide +kernel
theorem dX5_swing_61 : decode cX5_swing 61 = .ok (.getfield 103, 3) := by decide +kernel
theorem dX5_swing_64 : decode cX5_swing 64 = .ok (.iload_n 2, 1) := by decide +kernel
theorem dX5_swing_65 : decode cX5_swing 65 = .ok (.aaload, 1) := by decide +kernel
theorem dX5_swing_66 : decode cX5_swing 66 = .ok (.iconst 0, 1) := by decide +kernel
theorem dX5_swing_67 : decode cX5_swing 67 = .ok (.putfield 161, 3) := by decide +kernel
theorem dX5_swing_70 : decode cX5_swing 70 = .ok (.aload_n 0, 1) := by decide +kernel
theorem dX5_swing_71 : decode cX5_swing 71 = .ok (.getfield 16, 3) := by decide +kernel
theorem dX5_swing_74 : decode cX5_swing 74 = .ok (.invokevirtual 72, 3) := by decide +kernel
theorem dX5_swing_77 : decode cX5_swing 77 = .ok (.aload_n 0, 1) := by decide +kernel
theorem dX5_swing_78 : decode cX5_swing 78 = .ok (.getfield 16, 3) := by decide +kernel
theorem dX5_swing_81 : decode cX5_swing 81 = .ok (.invokevirtual 175, 3) := by decide +kernel
theorem dX5_swing_84 : decode cX5_swing 84 = .ok (.iload_n 1, 1) := by decide +kernel
theorem dX5_swing_85 : decode cX5_swing 85 = .ok (.if_icmp .eq 5, 3) := by decide +kernel
theorem dX5_swing_88 : decode cX5_swing 88 = .ok (.iload_n 2, 1) := by decide +kernel
theorem dX5_swing_89 : decode cX5_swing 89 = .ok (.ireturn, 1) := by decide +kernel
theorem dX5_swing_90 : decode cX5_swing 90 = .ok (.iinc 2 1, 3) := by decide +kernel
theorem dX5_swing_93 : decode cX5_swing 93 = .ok (.goto (-76), 3) := by decide +kernel
theorem dX5_swing_96 : decode cX5_swing 96 = .ok (.aload_n 0, 1) := by decide +kernel
theorem dX5_swing_97 : decode cX5_swing 97 = .ok (.ldc 157, 2) := by decide +kernel
theorem dX5_swing_99 : decode cX5_swing 99 = .ok (.invokevirtual 54, 3) := by decide +kernel
theorem dX5_swing_102 : decode cX5_swing 102 = .ok (.ireturn, 1) := by decide +kernel
theorem dX5_revise_0 : decode cX5_revise 0 = .ok (.iload_n 1, 1) := by decide +kernel
theorem dX5_revise_1 : decode cX5_revise 1 = .ok (.iconst 1, 1) := by decide +kernel
theorem dX5_revise_2 : decode cX5_revise 2 = .ok (.bipush 60, 2) := by decide +kernel
theorem dX5_revise_4 : decode cX5_revise 4 = .ok (.invokestatic 49, 3) := by decide +kernel
theorem dX5_revise_7 : decode cX5_revise 7 = .ok (.ifCond .eq 10, 3) := by decide +kernel
theorem dX5_revise_10 : decode cX5_revise 10 = .ok (.aload_n 0, 1) := by decide +kernel
theorem dX5_revise_11 : decode cX5_revise 11 = .ok (.ldc 53, 2) := by decide +kernel
theorem dX5_revise_13 : decode cX5_revise 13 = .ok (.invokevirtual 54, 3) := by decide +kernel
theorem dX5_revise_16 : decode cX5_revise 16 = .ok (.ireturn, 1) := by decide +kernel
theorem dX5_revise_17 : decode cX5_revise 17 = .ok (.iconst 0, 1) := by decide +kernel
theorem dX5_revise_18 : decode cX5_revise 18 = .ok (.istore_n 2, 1) := by decide +kernel
theorem dX5_revise_19 : decode cX5_revise 19 = .ok (.ldc 178, 2) := by decide +kernel
theorem dX5_revise_21 : decode cX5_revise 21 = .ok (.istore_n 3, 1) := by decide +kernel
theorem dX5_revise_22 : decode cX5_revise 22 = .ok (.iconst 0, 1) := by decide +kernel
theorem dX5_revise_23 : decode cX5_revise 23 = .ok (.istore 4, 2) := by decide +kernel
theorem dX5_revise_25 : decode cX5_revise 25 = .ok (.iload 4, 2) := by decide +kernel
theorem dX5_revise_27 : decode cX5_revise 27 = .ok (.bipush 8, 2) := by decide +kernel
theorem dX5_revise_29 : decode cX5_revise 29 = .ok (.if_icmp .ge 66, 3) := by decide +kernel
theorem dX5_revise_32 : decode cX5_revise 32 = .ok (.aload_n 0, 1) := by decide +kernel
theorem dX5_revise_33 : decode cX5_revise 33 = .ok (.getfield 16, 3) := by decide +kernel
theorem dX5_revise_36 : decode cX5_revise 36 = .ok (.aload_n 0, 1) := by decide +kernel
theorem dX5_revise_37 : decode cX5_revise 37 = .ok (.getfield 10, 3) := by decide +kernel
theorem dX5_revise_40 : decode cX5_revise 40 = .ok (.invokevirtual 150, 3) := by decide +kernel
theorem dX5_revise_43 : decode cX5_revise 43 = .ok (.aload_n 0, 1) := by decide +kernel
theorem dX5_revise_44 : decode cX5_revise 44 = .ok (.getfield 16, 3) := by decide +kernel
theorem dX5_revise_47 : decode cX5_revise 47 = .ok (.dup, 1) := by decide +kernel
theorem dX5_revise_48 : decode cX5_revise 48 = .ok (.getfield 58, 3) := by decide +kernel
theorem dX5_revise_51 : decode cX5_revise 51 = .ok (.iconst 1, 1) := by decide +kernel
theorem dX5_revise_52 : decode cX5_revise 52 = .ok (.iload 4, 2) := by decide +kernel
theorem dX5_revise_54 : decode cX5_revise 54 = .ok (.ishl, 1) := by decide +kernel
theorem dX5_revise_55 : decode cX5_revise 55 = .ok (.ixor, 1) := by decide +kernel
theorem dX5_revise_56 : decode cX5_revise 56 = .ok (.putfield 58, 3) := by decide +kernel
theorem dX5_revise_59 : decode cX5_revise 59 = .ok (.aload_n 0, 1) := by decide +kernel
theorem dX5_revise_60 : decode cX5_revise 60 = .ok (.getfield 16, 3) := by decide +kernel
theorem dX5_revise_63 : decode cX5_revise 63 = .ok (.iload_n 1, 1) := by decide +kernel
theorem dX5_revise_64 : decode cX5_revise 64 = .ok (.invokevirtual 143, 3) := by decide +kernel
theorem dX5_revise_67 : decode cX5_revise 67 = .ok (.aload_n 0, 1) := by decide +kernel
theorem dX5_revise_68 : decode cX5_revise 68 = .ok (.getfield 16, 3) := by decide +kernel
theorem dX5_revise_71 : decode cX5_revise 71 = .ok (.iconst 3, 1) := by decide +kernel
theorem dX5_revise_72 : decode cX5_revise 72 = .ok (.invokevirtual 179, 3) := by decide +kernel
theorem dX5_revise_75 : decode cX5_revise 75 = .ok (.istore 5, 2) := by decide +kernel
theorem dX5_revise_77 : decode cX5_revise 77 = .ok (.iload 5, 2) := by decide +kernel
theorem dX5_revise_79 : decode cX5_revise 79 = .ok (.iload_n 3, 1) := by decide +kernel
theorem dX5_revise_80 : decode cX5_revise 80 = .ok (.if_icmp .ge 9, 3) := by decide +kernel
theorem dX5_revise_83 : decode cX5_revise 83 = .ok (.iload 5, 2) := by decide +kernel
theorem dX5_revise_85 : decode cX5_revise 85 = .ok (.istore_n 3, 1) := by decide +kernel
theorem dX5_revise_86 : decode cX5_revise 86 = .ok (.iload 4, 2) := by decide +kernel
theorem dX5_revise_88 : decode cX5_revise 88 = .ok (.istore_n 2, 1) := by decide +kernel
theorem dX5_revise_89 : decode cX5_revise 89 = .ok (.iinc 4 1, 3) := by decide +kernel
theorem dX5_revise_92 : decode cX5_revise 92 = .ok (.goto (-67), 3) := by decide +kernel
theorem dX5_revise_95 : decode cX5_revise 95 = .ok (.iload_n 2, 1) := by decide +kernel
theorem dX5_revise_96 : decode cX5_revise 96 = .ok (.ireturn, 1) := by decide +kernel
theorem dX5_best_0 : decode cX5_best 0 = .ok (.iload_n 1, 1) := by decide +kernel
theorem dX5_best_1 : decode cX5_best 1 = .ok (.iconst 0, 1) := by decide +kernel
theorem dX5_best_2 : decode cX5_best 2 = .ok (.sipush 200, 3) := by decide +kernel
theorem dX5_best_5 : decode cX5_best 5 = .ok (.invokestatic 49, 3) := by decide +kernel
theorem dX5_best_8 : decode cX5_best 8 = .ok (.ifCond .eq 10, 3) := by decide +kernel
theorem dX5_best_11 : decode cX5_best 11 = .ok (.aload_n 0, 1) := by decide +kernel
theorem dX5_best_12 : decode cX5_best 12 = .ok (.ldc 53, 2) := by decide +kernel
theorem dX5_best_14 : decode cX5_best 14 = .ok (.invokevirtual 54, 3) := by decide +kernel
theorem dX5_best_17 : decode cX5_best 17 = .ok (.ireturn, 1) := by decide +kernel
theorem dX5_best_18 : decode cX5_best 18 = .ok (.aload_n 0, 1) := by decide +kernel
theorem dX5_best_19 : decode cX5_best 19 = .ok (.getfield 10, 3) := by decide +kernel
theorem dX5_best_22 : decode cX5_best 22 = .ok (.getfield 96, 3) := by decide +kernel
theorem dX5_best_25 : decode cX5_best 25 = .ok (.ifCond .ne 10, 3) := by decide +kernel
theorem dX5_best_28 : decode cX5_best 28 = .ok (.aload_n 0, 1) := by decide +kernel
theorem dX5_best_29 : decode cX5_best 29 = .ok (.ldc 157, 2) := by decide +kernel
theorem dX5_best_31 : decode cX5_best 31 = .ok (.invokevirtual 54, 3) := by decide +kernel
theorem dX5_best_34 : decode cX5_best 34 = .ok (.ireturn, 1) := by decide +kernel
theorem dX5_best_35 : decode cX5_best 35 = .ok (.aload_n 0, 1) := by decide +kernel
theorem dX5_best_36 : decode cX5_best 36 = .ok (.iload_n 1, 1) := by decide +kernel
theorem dX5_best_37 : decode cX5_best 37 = .ok (.invokevirtual 147, 3) := by decide +kernel
theorem dX5_best_40 : decode cX5_best 40 = .ok (.iconst 0, 1) := by decide +kernel
theorem dX5_best_41 : decode cX5_best 41 = .ok (.istore_n 2, 1) := by decide +kernel
theorem dX5_best_42 : decode cX5_best 42 = .ok (.iconst 1, 1) := by decide +kernel
theorem dX5_best_43 : decode cX5_best 43 = .ok (.istore_n 3, 1) := by decide +kernel
theorem dX5_best_44 : decode cX5_best 44 = .ok (.iload_n 3, 1) := by decide +kernel
theorem dX5_best_45 : decode cX5_best 45 = .ok (.aload_n 0, 1) := by decide +kernel
theorem dX5_best_46 : decode cX5_best 46 = .ok (.getfield 16, 3) := by decide +kernel
theorem dX5_best_49 : decode cX5_best 49 = .ok (.getfield 96, 3) := by decide +kernel
theorem dX5_best_52 : decode cX5_best 52 = .ok (.if_icmp .ge 38, 3) := by decide +kernel
theorem dX5_best_55 : decode cX5_best 55 = .ok (.aload_n 0, 1) := by decide +kernel
theorem dX5_best_56 : decode cX5_best 56 = .ok (.getfield 16, 3) := by decide +kernel
theorem dX5_best_59 : decode cX5_best 59 = .ok (.getfield 103, 3) := by decide +kernel
theorem dX5_best_62 : decode cX5_best 62 = .ok (.iload_n 3, 1) := by decide +kernel
theorem dX5_best_63 : decode cX5_best 63 = .ok (.aaload, 1) := by decide +kernel
theorem dX5_best_64 : decode cX5_best 64 = .ok (.invokevirtual 182, 3) := by decide +kernel
theorem dX5_best_67 : decode cX5_best 67 = .ok (.aload_n 0, 1) := by decide +kernel
theorem dX5_best_68 : decode cX5_best 68 = .ok (.getfield 16, 3) := by decide +kernel
theorem dX5_best_71 : decode cX5_best 71 = .ok (.getfield 103, 3) := by decide +kernel
theorem dX5_best_74 : decode cX5_best 74 = .ok (.iload_n 2, 1) := by decide +kernel
theorem dX5_best_75 : decode cX5_best 75 = .ok (.aaload, 1) := by decide +kernel
theorem dX5_best_76 : decode cX5_best 76 = .ok (.invokevirtual 182, 3) := by decide +kernel
theorem dX5_best_79 : decode cX5_best 79 = .ok (.if_icmp .le 5, 3) := by decide +kernel
theorem dX5_best_82 : decode cX5_best 82 = .ok (.iload_n 3, 1) := by decide +kernel
theorem dX5_best_83 : decode cX5_best 83 = .ok (.istore_n 2, 1) := by decide +kernel
theorem dX5_best_84 : decode cX5_best 84 = .ok (.iinc 3 1, 3) := by decide +kernel
theorem dX5_best_87 : decode cX5_best 87 = .ok (.goto (-43), 3) := by decide +kernel
theorem dX5_best_90 : decode cX5_best 90 = .ok (.iload_n 2, 1) := by decide +kernel
theorem dX5_best_91 : decode cX5_best 91 = .ok (.ireturn, 1) := by decide +kernel
theorem dX5_feed_0 : decode cX5_feed 0 = .ok (.iload_n 2, 1) := by decide +kernel
theorem dX5_feed_1 : decode cX5_feed 1 = .ok (.iconst 1, 1) := by decide +kernel
theorem dX5_feed_2 : decode cX5_feed 2 = .ok (.iconst 4, 1) := by decide +kernel
theorem dX5_feed_3 : decode cX5_feed 3 = .ok (.invokestatic 49, 3) := by decide +kernel
theorem dX5_feed_6 : decode cX5_feed 6 = .ok (.ifCond .eq 10, 3) := by decide +kernel
theorem dX5_feed_9 : decode cX5_feed 9 = .ok (.aload_n 0, 1) := by decide +kernel
theorem dX5_feed_10 : decode cX5_feed 10 = .ok (.ldc 53, 2) := by decide +kernel
theorem dX5_feed_12 : decode cX5_feed 12 = .ok (.invokevirtual 54, 3) := by decide +kernel
theorem dX5_feed_15 : decode cX5_feed 15 = .ok (.ireturn, 1) := by decide +kernel
theorem dX5_feed_16 : decode cX5_feed 16 = .ok (.aload_n 0, 1) := by decide +kernel
theorem dX5_feed_17 : decode cX5_feed 17 = .ok (.getfield 25, 3) := by decide +kernel
theorem dX5_feed_20 : decode cX5_feed 20 = .ok (.getfield 185, 3) := by decide +kernel
theorem dX5_feed_23 : decode cX5_feed 23 = .ok (.bipush 120, 2) := by decide +kernel
theorem dX5_feed_25 : decode cX5_feed 25 = .ok (.iload_n 2, 1) := by decide +kernel
theorem dX5_feed_26 : decode cX5_feed 26 = .ok (.isub, 1) := by decide +kernel
theorem dX5_feed_27 : decode cX5_feed 27 = .ok (.if_icmp .le 10, 3) := by decide +kernel
theorem dX5_feed_30 : decode cX5_feed 30 = .ok (.aload_n 0, 1) := by decide +kernel
theorem dX5_feed_31 : decode cX5_feed 31 = .ok (.ldc 91, 2) := by decide +kernel
theorem dX5_feed_33 : decode cX5_feed 33 = .ok (.invokevirtual 54, 3) := by decide +kernel
theorem dX5_feed_36 : decode cX5_feed 36 = .ok (.ireturn, 1) := by decide +kernel
theorem dX5_feed_37 : decode cX5_feed 37 = .ok (.iload_n 2, 1) := by decide +kernel
theorem dX5_feed_38 : decode cX5_feed 38 = .ok (.iconst 1, 1) := by decide +kernel
theorem dX5_feed_39 : decode cX5_feed 39 = .ok (.isub, 1) := by decide +kernel
theorem dX5_feed_40 : decode cX5_feed 40 = .ok (.istore_n 3, 1) := by decide +kernel
theorem dX5_feed_41 : decode cX5_feed 41 = .ok (.iload_n 3, 1) := by decide +kernel
theorem dX5_feed_42 : decode cX5_feed 42 = .ok (.ifCond .lt 26, 3) := by decide +kernel
theorem dX5_feed_45 : decode cX5_feed 45 = .ok (.aload_n 0, 1) := by decide +kernel
theorem dX5_feed_46 : decode cX5_feed 46 = .ok (.getfield 25, 3) := by decide +kernel
theorem dX5_feed_49 : decode cX5_feed 49 = .ok (.iload_n 1, 1) := by decide +kernel
theorem dX5_feed_50 : decode cX5_feed 50 = .ok (.bipush 8, 2) := by decide +kernel
theorem dX5_feed_52 : decode cX5_feed 52 = .ok (.iload_n 3, 1) := by decide +kernel
theorem dX5_feed_53 : decode cX5_feed 53 = .ok (.imul, 1) := by decide +kernel
theorem dX5_feed_54 : decode cX5_feed 54 = .ok (.iushr, 1) := by decide +kernel
theorem dX5_feed_55 : decode cX5_feed 55 = .ok (.sipush 255, 3) := by decide +kernel
theorem dX5_feed_58 : decode cX5_feed 58 = .ok (.iand, 1) := by decide +kernel
theorem dX5_feed_59 : decode cX5_feed 59 = .ok (.invokevirtual 188, 3) := by decide +kernel
theorem dX5_feed_62 : decode cX5_feed 62 = .ok (.iinc 3 (-1), 3) := by decide +kernel
theorem dX5_feed_65 : decode cX5_feed 65 = .ok (.goto (-24), 3) := by decide +kernel
theorem dX5_feed_68 : decode cX5_feed 68 = .ok (.aload_n 0, 1) := by decide +kernel
theorem dX5_feed_69 : decode cX5_feed 69 = .ok (.getfield 25, 3) := by decide +kernel
theorem dX5_feed_72 : decode cX5_feed 72 = .ok (.getfield 185, 3) := by decide +kernel
theorem dX5_feed_75 : decode cX5_feed 75 = .ok (.ireturn, 1) := by decide +kernel
theorem dX5_wipe_0 : decode cX5_wipe 0 = .ok (.aload_n 0, 1) := by decide +kernel
theorem dX5_wipe_1 : decode cX5_wipe 1 = .ok (.getfield 25, 3) := by decide +kernel
theorem dX5_wipe_4 : decode cX5_wipe 4 = .ok (.getfield 185, 3) := by decide +kernel
theorem dX5_wipe_7 : decode cX5_wipe 7 = .ok (.istore_n 1, 1) := by decide +kernel
theorem dX5_wipe_8 : decode cX5_wipe 8 = .ok (.aload_n 0, 1) := by decide +kernel
theorem dX5_wipe_9 : decode cX5_wipe 9 = .ok (.getfield 25, 3) := by decide +kernel
theorem dX5_wipe_12 : decode cX5_wipe 12 = .ok (.iconst 0, 1) := by decide +kernel
theorem dX5_wipe_13 : decode cX5_wipe 13 = .ok (.putfield 185, 3) := by decide +kernel
theorem dX5_wipe_16 : decode cX5_wipe 16 = .ok (.iload_n 1, 1) := by decide +kernel
theorem dX5_wipe_17 : decode cX5_wipe 17 = .ok (.ireturn, 1) := by decide +kernel
theorem dX5_lobby_0 : decode cX5_lobby 0 = .ok (.aload_n 0, 1) := by decide +kernel
theorem dX5_lobby_1 : decode cX5_lobby 1 = .ok (.getfield 16, 3) := by decide +kernel
theorem dX5_lobby_4 : decode cX5_lobby 4 = .ok (.aload_n 0, 1) := by decide +kernel
theorem dX5_lobby_5 : decode cX5_lobby 5 = .ok (.getfield 10, 3) := by decide +kernel
theorem dX5_lobby_8 : decode cX5_lobby 8 = .ok (.invokevirtual 150, 3) := by decide +kernel
theorem dX5_lobby_11 : decode cX5_lobby 11 = .ok (.aload_n 0, 1) := by decide +kernel
theorem dX5_lobby_12 : decode cX5_lobby 12 = .ok (.getfield 34, 3) := by decide +kernel
theorem dX5_lobby_15 : decode cX5_lobby 15 = .ok (.invokevirtual 190, 3) := by decide +kernel
theorem dX5_lobby_18 : decode cX5_lobby 18 = .ok (.istore_n 1, 1) := by decide +kernel
theorem dX5_lobby_19 : decode cX5_lobby 19 = .ok (.iload_n 1, 1) := by decide +kernel
theorem dX5_lobby_20 : decode cX5_lobby 20 = .ok (.ifCond .lt 14, 3) := by decide +kernel
theorem dX5_lobby_23 : decode cX5_lobby 23 = .ok (.aload_n 0, 1) := by decide +kernel
theorem dX5_lobby_24 : decode cX5_lobby 24 = .ok (.getfield 10, 3) := by decide +kernel
theorem dX5_lobby_27 : decode cX5_lobby 27 = .ok (.aload_n 0, 1) := by decide +kernel
theorem dX5_lobby_28 : decode cX5_lobby 28 = .ok (.getfield 16, 3) := by decide +kernel
theorem dX5_lobby_31 : decode cX5_lobby 31 = .ok (.invokevirtual 150, 3) := by decide +kernel
theorem dX5_lobby_34 : decode cX5_lobby 34 = .ok (.aload_n 0, 1) := by decide +kernel
theorem dX5_lobby_35 : decode cX5_lobby 35 = .ok (.getfield 25, 3) := by decide +kernel
theorem dX5_lobby_38 : decode cX5_lobby 38 = .ok (.iconst 0, 1) := by decide +kernel
theorem dX5_lobby_39 : decode cX5_lobby 39 = .ok (.putfield 185, 3) := by decide +kernel
theorem dX5_lobby_42 : decode cX5_lobby 42 = .ok (.iload_n 1, 1) := by decide +kernel
theorem dX5_lobby_43 : decode cX5_lobby 43 = .ok (.ireturn, 1) := by decide +kernel
theorem dX5_sheet_0 : decode cX5_sheet 0 = .ok (.iload_n 1, 1) := by decide +kernel
theorem dX5_sheet_1 : decode cX5_sheet 1 = .ok (.invokestatic 193, 3) := by decide +kernel
theorem dX5_sheet_4 : decode cX5_sheet 4 = .ok (.ifCond .ne 10, 3) := by decide +kernel
theorem dX5_sheet_7 : decode cX5_sheet 7 = .ok (.iload_n 2, 1) := by decide +kernel
theorem dX5_sheet_8 : decode cX5_sheet 8 = .ok (.invokestatic 196, 3) := by decide +kernel
theorem dX5_sheet_11 : decode cX5_sheet 11 = .ok (.ifCond .ne 10, 3) := by decide +kernel
theorem dX5_sheet_14 : decode cX5_sheet 14 = .ok (.aload_n 0, 1) := by decide +kernel
theorem dX5_sheet_15 : decode cX5_sheet 15 = .ok (.ldc 53, 2) := by decide +kernel
theorem dX5_sheet_17 : decode cX5_sheet 17 = .ok (.invokevirtual 54, 3) := by decide +kernel
theorem dX5_sheet_20 : decode cX5_sheet 20 = .ok (.ireturn, 1) := by decide +kernel
theorem dX5_sheet_21 : decode cX5_sheet 21 = .ok (.iload_n 3, 1) := by decide +kernel
theorem dX5_sheet_22 : decode cX5_sheet 22 = .ok (.ifCond .ge 10, 3) := by decide +kernel
theorem dX5_sheet_25 : decode cX5_sheet 25 = .ok (.aload_n 0, 1) := by decide +kernel
theorem dX5_sheet_26 : decode cX5_sheet 26 = .ok (.ldc 199, 2) := by decide +kernel
theorem dX5_sheet_28 : decode cX5_sheet 28 = .ok (.invokevirtual 54, 3) := by decide +kernel
theorem dX5_sheet_31 : decode cX5_sheet 31 = .ok (.ireturn, 1) := by decide +kernel
theorem dX5_sheet_32 : decode cX5_sheet 32 = .ok (.iload_n 3, 1) := by decide +kernel
theorem dX5_sheet_33 : decode cX5_sheet 33 = .ok (.bipush 40, 2) := by decide +kernel
theorem dX5_sheet_35 : decode cX5_sheet 35 = .ok (.if_icmp .le 10, 3) := by decide +kernel
theorem dX5_sheet_38 : decode cX5_sheet 38 = .ok (.aload_n 0, 1) := by decide +kernel
theorem dX5_sheet_39 : decode cX5_sheet 39 = .ok (.ldc 53, 2) := by decide +kernel
theorem dX5_sheet_41 : decode cX5_sheet 41 = .ok (.invokevirtual 54, 3) := by decide +kernel
theorem dX5_sheet_44 : decode cX5_sheet 44 = .ok (.ireturn, 1) := by decide +kernel
theorem dX5_sheet_45 : decode cX5_sheet 45 = .ok (.aload_n 0, 1) := by decide +kernel
theorem dX5_sheet_46 : decode cX5_sheet 46 = .ok (.getfield 40, 3) := by decide +kernel
theorem dX5_sheet_49 : decode cX5_sheet 49 = .ok (.iload_n 1, 1) := by decide +kernel
theorem dX5_sheet_50 : decode cX5_sheet 50 = .ok (.aaload, 1) := by decide +kernel
theorem dX5_sheet_51 : decode cX5_sheet 51 = .ok (.iload_n 2, 1) := by decide +kernel
theorem dX5_sheet_52 : decode cX5_sheet 52 = .ok (.iload_n 3, 1) := by decide +kernel
theorem dX5_sheet_53 : decode cX5_sheet 53 = .ok (.invokevirtual 200, 3) := by decide +kernel
theorem dX5_sheet_56 : decode cX5_sheet 56 = .ok (.aload_n 0, 1) := by decide +kernel
theorem dX5_sheet_57 : decode cX5_sheet 57 = .ok (.getfield 40, 3) := by decide +kernel
theorem dX5_sheet_60 : decode cX5_sheet 60 = .ok (.iload_n 1, 1) := by decide +kernel
theorem dX5_sheet_61 : decode cX5_sheet 61 = .ok (.aaload, 1) := by decide +kernel
theorem dX5_sheet_62 : decode cX5_sheet 62 = .ok (.getfield 203, 3) := by decide +kernel
theorem dX5_sheet_65 : decode cX5_sheet 65 = .ok (.ireturn, 1) := by decide +kernel
theorem dX5_write_0 : decode cX5_write 0 = .ok (.iload_n 1, 1) := by decide +kernel
theorem dX5_write_1 : decode cX5_write 1 = .ok (.invokestatic 193, 3) := by decide +kernel
theorem dX5_write_4 : decode cX5_write 4 = .ok (.ifCond .eq 11, 3) := by decide +kernel
theorem dX5_write_7 : decode cX5_write 7 = .ok (.aload_n 0, 1) := by decide +kernel
theorem dX5_write_8 : decode cX5_write 8 = .ok (.ldc 53, 2) := by decide +kernel
theorem dX5_write_10 : decode cX5_write 10 = .ok (.invokevirtual 54, 3) := by decide +kernel
theorem dX5_write_13 : decode cX5_write 13 = .ok (.i2l, 1) := by decide +kernel
theorem dX5_write_14 : decode cX5_write 14 = .ok (.lreturn, 1) := by decide +kernel
theorem dX5_write_15 : decode cX5_write 15 = .ok (.aload_n 0, 1) := by decide +kernel
theorem dX5_write_16 : decode cX5_write 16 = .ok (.getfield 40, 3) := by decide +kernel
theorem dX5_write_19 : decode cX5_write 19 = .ok (.iload_n 1, 1) := by decide +kernel
theorem dX5_write_20 : decode cX5_write 20 = .ok (.aaload, 1) := by decide +kernel
theorem dX5_write_21 : decode cX5_write 21 = .ok (.invokevirtual 204, 3) := by decide +kernel
theorem dX5_write_24 : decode cX5_write 24 = .ok (.ifCond .eq 11, 3) := by decide +kernel
theorem dX5_write_27 : decode cX5_write 27 = .ok (.aload_n 0, 1) := by decide +kernel
theorem dX5_write_28 : decode cX5_write 28 = .ok (.ldc 207, 2) := by decide +kernel
theorem dX5_write_30 : decode cX5_write 30 = .ok (.invokevirtual 54, 3) := by decide +kernel
theorem dX5_write_33 : decode cX5_write 33 = .ok (.i2l, 1) := by decide +kernel
theorem dX5_write_34 : decode cX5_write 34 = .ok (.lreturn, 1) := by decide +kernel
theorem dX5_write_35 : decode cX5_write 35 = .ok (.iload_n 2, 1) := by decide +kernel
theorem dX5_write_36 : decode cX5_write 36 = .ok (.iconst 0, 1) := by decide +kernel
theorem dX5_write_37 : decode cX5_write 37 = .ok (.aload_n 0, 1) := by decide +kernel
theorem dX5_write_38 : decode cX5_write 38 = .ok (.getfield 40, 3) := by decide +kernel
theorem dX5_write_41 : decode cX5_write 41 = .ok (.iload_n 1, 1) := by decide +kernel
theorem dX5_write_42 : decode cX5_write 42 = .ok (.aaload, 1) := by decide +kernel
theorem dX5_write_43 : decode cX5_write 43 = .ok (.getfield 203, 3) := by decide +kernel
theorem dX5_write_46 : decode cX5_write 46 = .ok (.iconst 1, 1) := by decide +kernel
theorem dX5_write_47 : decode cX5_write 47 = .ok (.isub, 1) := by decide +kernel
theorem dX5_write_48 : decode cX5_write 48 = .ok (.invokestatic 49, 3) := by decide +kernel
theorem dX5_write_51 : decode cX5_write 51 = .ok (.ifCond .eq 11, 3) := by decide +kernel
theorem dX5_write_54 : decode cX5_write 54 = .ok (.aload_n 0, 1) := by decide +kernel
theorem dX5_write_55 : decode cX5_write 55 = .ok (.ldc 53, 2) := by decide +kernel
theorem dX5_write_57 : decode cX5_write 57 = .ok (.invokevirtual 54, 3) := by decide +kernel
theorem dX5_write_60 : decode cX5_write 60 = .ok (.i2l, 1) := by decide +kernel
theorem dX5_write_61 : decode cX5_write 61 = .ok (.lreturn, 1) := by decide +kernel
theorem dX5_write_62 : decode cX5_write 62 = .ok (.aload_n 0, 1) := by decide +kernel
theorem dX5_write_63 : decode cX5_write 63 = .ok (.getfield 40, 3) := by decide +kernel
theorem dX5_write_66 : decode cX5_write 66 = .ok (.iload_n 1, 1) := by decide +kernel
theorem dX5_write_67 : decode cX5_write 67 = .ok (.aaload, 1) := by decide +kernel
theorem dX5_write_68 : decode cX5_write 68 = .ok (.getfield 208, 3) := by decide +kernel
theorem dX5_write_71 : decode cX5_write 71 = .ok (.iload_n 2, 1) := by decide +kernel
theorem dX5_write_72 : decode cX5_write 72 = .ok (.laload, 1) := by decide +kernel
theorem dX5_write_73 : decode cX5_write 73 = .ok (.lstore 5, 2) := by decide +kernel
theorem dX5_write_75 : decode cX5_write 75 = .ok (.aload_n 0, 1) := by decide +kernel
theorem dX5_write_76 : decode cX5_write 76 = .ok (.getfield 40, 3) := by decide +kernel
theorem dX5_write_79 : decode cX5_write 79 = .ok (.iload_n 1, 1) := by decide +kernel
theorem dX5_write_80 : decode cX5_write 80 = .ok (.aaload, 1) := by decide +kernel
theorem dX5_write_81 : decode cX5_write 81 = .ok (.iload_n 2, 1) := by decide +kernel
theorem dX5_write_82 : decode cX5_write 82 = .ok (.lload_n 3, 1) := by decide +kernel
theorem dX5_write_83 : decode cX5_write 83 = .ok (.invokevirtual 212, 3) := by decide +kernel
theorem dX5_write_86 : decode cX5_write 86 = .ok (.lload 5, 2) := by decide +kernel
theorem dX5_write_88 : decode cX5_write 88 = .ok (.lreturn, 1) := by decide +kernel
theorem dX5_copy_0 : decode cX5_copy 0 = .ok (.iload_n 1, 1) := by decide +kernel
theorem dX5_copy_1 : decode cX5_copy 1 = .ok (.invokestatic 193, 3) := by decide +kernel
theorem dX5_copy_4 : decode cX5_copy 4 = .ok (.ifCond .ne 10, 3) := by decide +kernel
theorem dX5_copy_7 : decode cX5_copy 7 = .ok (.iload_n 3, 1) := by decide +kernel
theorem dX5_copy_8 : decode cX5_copy 8 = .ok (.invokestatic 193, 3) := by decide +kernel
theorem dX5_copy_11 : decode cX5_copy 11 = .ok (.ifCond .eq 10, 3) := by decide +kernel
theorem dX5_copy_14 : decode cX5_copy 14 = .ok (.aload_n 0, 1) := by decide +kernel
theorem dX5_copy_15 : decode cX5_copy 15 = .ok (.ldc 53, 2) := by decide +kernel
theorem dX5_copy_17 : decode cX5_copy 17 = .ok (.invokevirtual 54, 3) := by decide +kernel
theorem dX5_copy_20 : decode cX5_copy 20 = .ok (.ireturn, 1) := by decide +kernel
theorem dX5_copy_21 : decode cX5_copy 21 = .ok (.aload_n 0, 1) := by decide +kernel
theorem dX5_copy_22 : decode cX5_copy 22 = .ok (.getfield 40, 3) := by decide +kernel
theorem dX5_copy_25 : decode cX5_copy 25 = .ok (.iload_n 1, 1) := by decide +kernel
theorem dX5_copy_26 : decode cX5_copy 26 = .ok (.aaload, 1) := by decide +kernel
theorem dX5_copy_27 : decode cX5_copy 27 = .ok (.invokevirtual 204, 3) := by decide +kernel
theorem dX5_copy_30 : decode cX5_copy 30 = .ok (.ifCond .ne 15, 3) := by decide +kernel
theorem dX5_copy_33 : decode cX5_copy 33 = .ok (.aload_n 0, 1) := by decide +kernel
theorem dX5_copy_34 : decode cX5_copy 34 = .ok (.getfield 40, 3) := by decide +kernel
theorem dX5_copy_37 : decode cX5_copy 37 = .ok (.iload_n 3, 1) := by decide +kernel
theorem dX5_copy_38 : decode cX5_copy 38 = .ok (.aaload, 1) := by decide +kernel
theorem dX5_copy_39 : decode cX5_copy 39 = .ok (.invokevirtual 204, 3) := by decide +kernel
theorem dX5_copy_42 : decode cX5_copy 42 = .ok (.ifCond .eq 10, 3) := by decide +kernel
theorem dX5_copy_45 : decode cX5_copy 45 = .ok (.aload_n 0, 1) := by decide +kernel
theorem dX5_copy_46 : decode cX5_copy 46 = .ok (.ldc 207, 2) := by decide +kernel
theorem dX5_copy_48 : decode cX5_copy 48 = .ok (.invokevirtual 54, 3) := by decide +kernel
theorem dX5_copy_51 : decode cX5_copy 51 = .ok (.ireturn, 1) := by decide +kernel
theorem dX5_copy_52 : decode cX5_copy 52 = .ok (.aload_n 0, 1) := by decide +kernel
theorem dX5_copy_53 : decode cX5_copy 53 = .ok (.getfield 40, 3) := by decide +kernel
theorem dX5_copy_56 : decode cX5_copy 56 = .ok (.iload_n 1, 1) := by decide +kernel
theorem dX5_copy_57 : decode cX5_copy 57 = .ok (.aaload, 1) := by decide +kernel
theorem dX5_copy_58 : decode cX5_copy 58 = .ok (.getfield 215, 3) := by decide +kernel
theorem dX5_copy_61 : decode cX5_copy 61 = .ok (.aload_n 0, 1) := by decide +kernel
theorem dX5_copy_62 : decode cX5_copy 62 = .ok (.getfield 40, 3) := by decide +kernel
theorem dX5_copy_65 : decode cX5_copy 65 = .ok (.iload_n 3, 1) := by decide +kernel
theorem dX5_copy_66 : decode cX5_copy 66 = .ok (.aaload, 1) := by decide +kernel
theorem dX5_copy_67 : decode cX5_copy 67 = .ok (.getfield 215, 3) := by decide +kernel
theorem dX5_copy_70 : decode cX5_copy 70 = .ok (.if_icmp .eq 10, 3) := by decide +kernel
theorem dX5_copy_73 : decode cX5_copy 73 = .ok (.aload_n 0, 1) := by decide +kernel
theorem dX5_copy_74 : decode cX5_copy 74 = .ok (.ldc 140, 2) := by decide +kernel
theorem dX5_copy_76 : decode cX5_copy 76 = .ok (.invokevirtual 54, 3) := by decide +kernel
theorem dX5_copy_79 : decode cX5_copy 79 = .ok (.ireturn, 1) := by decide +kernel
theorem dX5_copy_80 : decode cX5_copy 80 = .ok (.aload_n 0, 1) := by decide +kernel
theorem dX5_copy_81 : decode cX5_copy 81 = .ok (.getfield 40, 3) := by decide +kernel
theorem dX5_copy_84 : decode cX5_copy 84 = .ok (.iload_n 1, 1) := by decide +kernel
theorem dX5_copy_85 : decode cX5_copy 85 = .ok (.aaload, 1) := by decide +kernel
theorem dX5_copy_86 : decode cX5_copy 86 = .ok (.iload_n 2, 1) := by decide +kernel
theorem dX5_copy_87 : decode cX5_copy 87 = .ok (.iload 5, 2) := by decide +kernel
theorem dX5_copy_89 : decode cX5_copy 89 = .ok (.invokevirtual 218, 3) := by decide +kernel
theorem dX5_copy_92 : decode cX5_copy 92 = .ok (.ifCond .eq 19, 3) := by decide +kernel
theorem dX5_copy_95 : decode cX5_copy 95 = .ok (.aload_n 0, 1) := by decide +kernel
theorem dX5_copy_96 : decode cX5_copy 96 = .ok (.getfield 40, 3) := by decide +kernel
theorem dX5_copy_99 : decode cX5_copy 99 = .ok (.iload_n 3, 1) := by decide +kernel
theorem dX5_copy_100 : decode cX5_copy 100 = .ok (.aaload, 1) := by decide +kernel
theorem dX5_copy_101 : decode cX5_copy 101 = .ok (.iload 4, 2) := by decide +kernel
theorem dX5_copy_103 : decode cX5_copy 103 = .ok (.iload 5, 2) := by decide +kernel
theorem dX5_copy_105 : decode cX5_copy 105 = .ok (.invokevirtual 218, 3) := by decide +kernel
theorem dX5_copy_108 : decode cX5_copy 108 = .ok (.ifCond .ne 10, 3) := by decide +kernel
theorem dX5_copy_111 : decode cX5_copy 111 = .ok (.aload_n 0, 1) := by decide +kernel
theorem dX5_copy_112 : decode cX5_copy 112 = .ok (.ldc 53, 2) := by decide +kernel
theorem dX5_copy_114 : decode cX5_copy 114 = .ok (.invokevirtual 54, 3) := by decide +kernel
theorem dX5_copy_117 : decode cX5_copy 117 = .ok (.ireturn, 1) := by decide +kernel
theorem dX5_copy_118 : decode cX5_copy 118 = .ok (.aload_n 0, 1) := by decide +kernel
theorem dX5_copy_119 : decode cX5_copy 119 = .ok (.getfield 40, 3) := by decide +kernel
theorem dX5_copy_122 : decode cX5_copy 122 = .ok (.iload_n 1, 1) := by decide +kernel
theorem dX5_copy_123 : decode cX5_copy 123 = .ok (.aaload, 1) := by decide +kernel
theorem dX5_copy_124 : decode cX5_copy 124 = .ok (.getfield 208, 3) := by decide +kernel
theorem dX5_copy_127 : decode cX5_copy 127 = .ok (.iload_n 2, 1) := by decide +kernel
theorem dX5_copy_128 : decode cX5_copy 128 = .ok (.aload_n 0, 1) := by decide +kernel
theorem dX5_copy_129 : decode cX5_copy 129 = .ok (.getfield 40, 3) := by decide +kernel
theorem dX5_copy_132 : decode cX5_copy 132 = .ok (.iload_n 3, 1) := by decide +kernel
theorem dX5_copy_133 : decode cX5_copy 133 = .ok (.aaload, 1) := by decide +kernel
theorem dX5_copy_134 : decode cX5_copy 134 = .ok (.getfield 208, 3) := by decide +kernel
theorem dX5_copy_137 : decode cX5_copy 137 = .ok (.iload 4, 2) := by decide +kernel
theorem dX5_copy_139 : decode cX5_copy 139 = .ok (.iload 5, 2) := by decide +kernel
theorem dX5_copy_141 : decode cX5_copy 141 = .ok (.invokestatic 222, 3) := by decide +kernel
theorem dX5_copy_144 : decode cX5_copy 144 = .ok (.iload 5, 2) := by decide +kernel
theorem dX5_copy_146 : decode cX5_copy 146 = .ok (.ireturn, 1) := by decide +kernel
theorem dX5_lays_0 : decode cX5_lays 0 = .ok (.iload_n 1, 1) := by decide +kernel
theorem dX5_lays_1 : decode cX5_lays 1 = .ok (.invokestatic 193, 3) := by decide +kernel
theorem dX5_lays_4 : decode cX5_lays 4 = .ok (.ifCond .eq 10, 3) := by decide +kernel
theorem dX5_lays_7 : decode cX5_lays 7 = .ok (.aload_n 0, 1) := by decide +kernel
theorem dX5_lays_8 : decode cX5_lays 8 = .ok (.ldc 53, 2) := by decide +kernel
theorem dX5_lays_10 : decode cX5_lays 10 = .ok (.invokevirtual 54, 3) := by decide +kernel
theorem dX5_lays_13 : decode cX5_lays 13 = .ok (.ireturn, 1) := by decide +kernel
theorem dX5_lays_14 : decode cX5_lays 14 = .ok (.aload_n 0, 1) := by decide +kernel
theorem dX5_lays_15 : decode cX5_lays 15 = .ok (.getfield 40, 3) := by decide +kernel
theorem dX5_lays_18 : decode cX5_lays 18 = .ok (.iload_n 1, 1) := by decide +kernel
theorem dX5_lays_19 : decode cX5_lays 19 = .ok (.aaload, 1) := by decide +kernel
theorem dX5_lays_20 : decode cX5_lays 20 = .ok (.invokevirtual 204, 3) := by decide +kernel
theorem dX5_lays_23 : decode cX5_lays 23 = .ok (.ifCond .eq 10, 3) := by decide +kernel
theorem dX5_lays_26 : decode cX5_lays 26 = .ok (.aload_n 0, 1) := by decide +kernel
theorem dX5_lays_27 : decode cX5_lays 27 = .ok (.ldc 207, 2) := by decide +kernel
theorem dX5_lays_29 : decode cX5_lays 29 = .ok (.invokevirtual 54, 3) := by decide +kernel
theorem dX5_lays_32 : decode cX5_lays 32 = .ok (.ireturn, 1) := by decide +kernel
theorem dX5_lays_33 : decode cX5_lays 33 = .ok (.iconst 0, 1) := by decide +kernel
theorem dX5_lays_34 : decode cX5_lays 34 = .ok (.istore_n 2, 1) := by decide +kernel
theorem dX5_lays_35 : decode cX5_lays 35 = .ok (.iconst 0, 1) := by decide +kernel
theorem dX5_lays_36 : decode cX5_lays 36 = .ok (.istore_n 3, 1) := by decide +kernel
theorem dX5_lays_37 : decode cX5_lays 37 = .ok (.iload_n 3, 1) := by decide +kernel
theorem dX5_lays_38 : decode cX5_lays 38 = .ok (.aload_n 0, 1) := by decide +kernel
theorem dX5_lays_39 : decode cX5_lays 39 = .ok (.getfield 40, 3) := by decide +kernel
theorem dX5_lays_42 : decode cX5_lays 42 = .ok (.iload_n 1, 1) := by decide +kernel
theorem dX5_lays_43 : decode cX5_lays 43 = .ok (.aaload, 1) := by decide +kernel
theorem dX5_lays_44 : decode cX5_lays 44 = .ok (.getfield 203, 3) := by decide +kernel
theorem dX5_lays_47 : decode cX5_lays 47 = .ok (.if_icmp .ge 67, 3) := by decide +kernel
theorem dX5_lays_50 : decode cX5_lays 50 = .ok (.iload_n 3, 1) := by decide +kernel
theorem dX5_lays_51 : decode cX5_lays 51 = .ok (.aload_n 0, 1) := by decide +kernel
theorem dX5_lays_52 : decode cX5_lays 52 = .ok (.getfield 10, 3) := by decide +kernel
theorem dX5_lays_55 : decode cX5_lays 55 = .ok (.getfield 96, 3) := by decide +kernel
theorem dX5_lays_58 : decode cX5_lays 58 = .ok (.if_icmp .ge 56, 3) := by decide +kernel
theorem dX5_lays_61 : decode cX5_lays 61 = .ok (.aload_n 0, 1) := by decide +kernel
theorem dX5_lays_62 : decode cX5_lays 62 = .ok (.getfield 40, 3) := by decide +kernel
theorem dX5_lays_65 : decode cX5_lays 65 = .ok (.iload_n 1, 1) := by decide +kernel
theorem dX5_lays_66 : decode cX5_lays 66 = .ok (.aaload, 1) := by decide +kernel
theorem dX5_lays_67 : decode cX5_lays 67 = .ok (.getfield 208, 3) := by decide +kernel
theorem dX5_lays_70 : decode cX5_lays 70 = .ok (.iload_n 3, 1) := by decide +kernel
theorem dX5_lays_71 : decode cX5_lays 71 = .ok (.laload, 1) := by decide +kernel
theorem dX5_lays_72 : decode cX5_lays 72 = .ok (.lstore 4, 2) := by decide +kernel
theorem dX5_lays_74 : decode cX5_lays 74 = .ok (.lload 4, 2) := by decide +kernel
theorem dX5_lays_76 : decode cX5_lays 76 = .ok (.lconst 0, 1) := by decide +kernel
theorem dX5_lays_77 : decode cX5_lays 77 = .ok (.lcmp, 1) := by decide +kernel
theorem dX5_lays_78 : decode cX5_lays 78 = .ok (.ifCond .lt 30, 3) := by decide +kernel
theorem dX5_lays_81 : decode cX5_lays 81 = .ok (.lload 4, 2) := by decide +kernel
theorem dX5_lays_83 : decode cX5_lays 83 = .ok (.ldc2_w 228, 3) := by decide +kernel
theorem dX5_lays_86 : decode cX5_lays 86 = .ok (.lcmp, 1) := by decide +kernel
theorem dX5_lays_87 : decode cX5_lays 87 = .ok (.ifCond .gt 21, 3) := by decide +kernel
theorem dX5_lays_90 : decode cX5_lays 90 = .ok (.aload_n 0, 1) := by decide +kernel
theorem dX5_lays_91 : decode cX5_lays 91 = .ok (.getfield 10, 3) := by decide +kernel
theorem dX5_lays_94 : decode cX5_lays 94 = .ok (.getfield 103, 3) := by decide +kernel
theorem dX5_lays_97 : decode cX5_lays 97 = .ok (.iload_n 3, 1) := by decide +kernel
theorem dX5_lays_98 : decode cX5_lays 98 = .ok (.aaload, 1) := by decide +kernel
theorem dX5_lays_99 : decode cX5_lays 99 = .ok (.lload 4, 2) := by decide +kernel
theorem dX5_lays_101 : decode cX5_lays 101 = .ok (.l2i, 1) := by decide +kernel
theorem dX5_lays_102 : decode cX5_lays 102 = .ok (.putfield 137, 3) := by decide +kernel
theorem dX5_lays_105 : decode cX5_lays 105 = .ok (.iinc 2 1, 3) := by decide +kernel
theorem dX5_lays_108 : decode cX5_lays 108 = .ok (.iinc 3 1, 3) := by decide +kernel
theorem dX5_lays_111 : decode cX5_lays 111 = .ok (.goto (-74), 3) := by decide +kernel
theorem dX5_lays_114 : decode cX5_lays 114 = .ok (.iload_n 2, 1) := by decide +kernel
theorem dX5_lays_115 : decode cX5_lays 115 = .ok (.ireturn, 1) := by decide +kernel
theorem dX5_book_0 : decode cX5_book 0 = .ok (.iload_n 1, 1) := by decide +kernel
theorem dX5_book_1 : decode cX5_book 1 = .ok (.invokestatic 193, 3) := by decide +kernel
theorem dX5_book_4 : decode cX5_book 4 = .ok (.ifCond .eq 10, 3) := by decide +kernel
theorem dX5_book_7 : decode cX5_book 7 = .ok (.aload_n 0, 1) := by decide +kernel
theorem dX5_book_8 : decode cX5_book 8 = .ok (.ldc 53, 2) := by decide +kernel
theorem dX5_book_10 : decode cX5_book 10 = .ok (.invokevirtual 54, 3) := by decide +kernel
theorem dX5_book_13 : decode cX5_book 13 = .ok (.ireturn, 1) := by decide +kernel
theorem dX5_book_14 : decode cX5_book 14 = .ok (.aload_n 0, 1) := by decide +kernel
theorem dX5_book_15 : decode cX5_book 15 = .ok (.getfield 40, 3) := by decide +kernel
theorem dX5_book_18 : decode cX5_book 18 = .ok (.iload_n 1, 1) := by decide +kernel
theorem dX5_book_19 : decode cX5_book 19 = .ok (.aaload, 1) := by decide +kernel
theorem dX5_book_20 : decode cX5_book 20 = .ok (.invokevirtual 204, 3) := by decide +kernel
theorem dX5_book_23 : decode cX5_book 23 = .ok (.ifCond .eq 10, 3) := by decide +kernel
theorem dX5_book_26 : decode cX5_book 26 = .ok (.aload_n 0, 1) := by decide +kernel
theorem dX5_book_27 : decode cX5_book 27 = .ok (.ldc 207, 2) := by decide +kernel
theorem dX5_book_29 : decode cX5_book 29 = .ok (.invokevirtual 54, 3) := by decide +kernel
theorem dX5_book_32 : decode cX5_book 32 = .ok (.ireturn, 1) := by decide +kernel
theorem dX5_book_33 : decode cX5_book 33 = .ok (.aload_n 0, 1) := by decide +kernel
theorem dX5_book_34 : decode cX5_book 34 = .ok (.getfield 10, 3) := by decide +kernel
theorem dX5_book_37 : decode cX5_book 37 = .ok (.iload_n 2, 1) := by decide +kernel
theorem dX5_book_38 : decode cX5_book 38 = .ok (.invokevirtual 99, 3) := by decide +kernel
theorem dX5_book_41 : decode cX5_book 41 = .ok (.ifCond .ne 10, 3) := by decide +kernel
theorem dX5_book_44 : decode cX5_book 44 = .ok (.aload_n 0, 1) := by decide +kernel
theorem dX5_book_45 : decode cX5_book 45 = .ok (.ldc 53, 2) := by decide +kernel
theorem dX5_book_47 : decode cX5_book 47 = .ok (.invokevirtual 54, 3) := by decide +kernel
theorem dX5_book_50 : decode cX5_book 50 = .ok (.ireturn, 1) := by decide +kernel
theorem dX5_book_51 : decode cX5_book 51 = .ok (.aload_n 0, 1) := by decide +kernel
theorem dX5_book_52 : decode cX5_book 52 = .ok (.getfield 16, 3) := by decide +kernel
theorem dX5_book_55 : decode cX5_book 55 = .ok (.aload_n 0, 1) := by decide +kernel
theorem dX5_book_56 : decode cX5_book 56 = .ok (.getfield 10, 3) := by decide +kernel
theorem dX5_book_59 : decode cX5_book 59 = .ok (.invokevirtual 150, 3) := by decide +kernel
theorem dX5_book_62 : decode cX5_book 62 = .ok (.iconst 0, 1) := by decide +kernel
theorem dX5_book_63 : decode cX5_book 63 = .ok (.istore_n 3, 1) := by decide +kernel
theorem dX5_book_64 : decode cX5_book 64 = .ok (.iload_n 3, 1) := by decide +kernel
theorem dX5_book_65 : decode cX5_book 65 = .ok (.aload_n 0, 1) := by decide +kernel
theorem dX5_book_66 : decode cX5_book 66 = .ok (.getfield 40, 3) := by decide +kernel
theorem dX5_book_69 : decode cX5_book 69 = .ok (.iload_n 1, 1) := by decide +kernel
theorem dX5_book_70 : decode cX5_book 70 = .ok (.aaload, 1) := by decide +kernel
theorem dX5_book_71 : decode cX5_book 71 = .ok (.getfield 203, 3) := by decide +kernel
theorem dX5_book_74 : decode cX5_book 74 = .ok (.if_icmp .ge 36, 3) := by decide +kernel
theorem dX5_book_77 : decode cX5_book 77 = .ok (.aload_n 0, 1) := by decide +kernel
theorem dX5_book_78 : decode cX5_book 78 = .ok (.getfield 40, 3) := by decide +kernel
theorem dX5_book_81 : decode cX5_book 81 = .ok (.iload_n 1, 1) := by decide +kernel
theorem dX5_book_82 : decode cX5_book 82 = .ok (.aaload, 1) := by decide +kernel
theorem dX5_book_83 : decode cX5_book 83 = .ok (.iload_n 3, 1) := by decide +kernel
theorem dX5_book_84 : decode cX5_book 84 = .ok (.aload_n 0, 1) := by decide +kernel
theorem dX5_book_85 : decode cX5_book 85 = .ok (.getfield 16, 3) := by decide +kernel
theorem dX5_book_88 : decode cX5_book 88 = .ok (.iload_n 2, 1) := by decide +kernel
theorem dX5_book_89 : decode cX5_book 89 = .ok (.invokevirtual 230, 3) := by decide +kernel
theorem dX5_book_92 : decode cX5_book 92 = .ok (.i2l, 1) := by decide +kernel
theorem dX5_book_93 : decode cX5_book 93 = .ok (.invokevirtual 212, 3) := by decide +kernel
theorem dX5_book_96 : decode cX5_book 96 = .ok (.aload_n 0, 1) := by decide +kernel
theorem dX5_book_97 : decode cX5_book 97 = .ok (.getfield 16, 3) := by decide +kernel
theorem dX5_book_100 : decode cX5_book 100 = .ok (.iconst 1, 1) := by decide +kernel
theorem dX5_book_101 : decode cX5_book 101 = .ok (.invokevirtual 143, 3) := by decide +kernel
theorem dX5_book_104 : decode cX5_book 104 = .ok (.iinc 3 1, 3) := by decide +kernel
theorem dX5_book_107 : decode cX5_book 107 = .ok (.goto (-43), 3) := by decide +kernel
theorem dX5_book_110 : decode cX5_book 110 = .ok (.aload_n 0, 1) := by decide +kernel
theorem dX5_book_111 : decode cX5_book 111 = .ok (.getfield 40, 3) := by decide +kernel
theorem dX5_book_114 : decode cX5_book 114 = .ok (.iload_n 1, 1) := by decide +kernel
theorem dX5_book_115 : decode cX5_book 115 = .ok (.aaload, 1) := by decide +kernel
theorem dX5_book_116 : decode cX5_book 116 = .ok (.getfield 203, 3) := by decide +kernel
theorem dX5_book_119 : decode cX5_book 119 = .ok (.ireturn, 1) := by decide +kernel
theorem dX5_read_0 : decode cX5_read 0 = .ok (.iload_n 1, 1) := by decide +kernel
theorem dX5_read_1 : decode cX5_read 1 = .ok (.invokestatic 193, 3) := by decide +kernel
theorem dX5_read_4 : decode cX5_read 4 = .ok (.ifCond .eq 10, 3) := by decide +kernel
theorem dX5_read_7 : decode cX5_read 7 = .ok (.aload_n 0, 1) := by decide +kernel
theorem dX5_read_8 : decode cX5_read 8 = .ok (.ldc 53, 2) := by decide +kernel
theorem dX5_read_10 : decode cX5_read 10 = .ok (.invokevirtual 54, 3) := by decide +kernel
theorem dX5_read_13 : decode cX5_read 13 = .ok (.ireturn, 1) := by decide +kernel
theorem dX5_read_14 : decode cX5_read 14 = .ok (.aload_n 0, 1) := by decide +kernel
theorem dX5_read_15 : decode cX5_read 15 = .ok (.getfield 40, 3) := by decide +kernel
theorem dX5_read_18 : decode cX5_read 18 = .ok (.iload_n 1, 1) := by decide +kernel
theorem dX5_read_19 : decode cX5_read 19 = .ok (.aaload, 1) := by decide +kernel
theorem dX5_read_20 : decode cX5_read 20 = .ok (.invokevirtual 204, 3) := by decide +kernel
theorem dX5_read_23 : decode cX5_read 23 = .ok (.ifCond .eq 10, 3) := by decide +kernel
theorem dX5_read_26 : decode cX5_read 26 = .ok (.aload_n 0, 1) := by decide +kernel
theorem dX5_read_27 : decode cX5_read 27 = .ok (.ldc 207, 2) := by decide +kernel
theorem dX5_read_29 : decode cX5_read 29 = .ok (.invokevirtual 54, 3) := by decide +kernel
theorem dX5_read_32 : decode cX5_read 32 = .ok (.ireturn, 1) := by decide +kernel
theorem dX5_read_33 : decode cX5_read 33 = .ok (.aload_n 0, 1) := by decide +kernel
theorem dX5_read_34 : decode cX5_read 34 = .ok (.getfield 10, 3) := by decide +kernel
theorem dX5_read_37 : decode cX5_read 37 = .ok (.iload_n 2, 1) := by decide +kernel
theorem dX5_read_38 : decode cX5_read 38 = .ok (.invokevirtual 99, 3) := by decide +kernel
theorem dX5_read_41 : decode cX5_read 41 = .ok (.ifCond .ne 10, 3) := by decide +kernel
theorem dX5_read_44 : decode cX5_read 44 = .ok (.aload_n 0, 1) := by decide +kernel
theorem dX5_read_45 : decode cX5_read 45 = .ok (.ldc 53, 2) := by decide +kernel
theorem dX5_read_47 : decode cX5_read 47 = .ok (.invokevirtual 54, 3) := by decide +kernel
theorem dX5_read_50 : decode cX5_read 50 = .ok (.ireturn, 1) := by decide +kernel
theorem dX5_read_51 : decode cX5_read 51 = .ok (.iconst 0, 1) := by decide +kernel
theorem dX5_read_52 : decode cX5_read 52 = .ok (.istore_n 3, 1) := by decide +kernel
theorem dX5_read_53 : decode cX5_read 53 = .ok (.iconst 0, 1) := by decide +kernel
theorem dX5_read_54 : decode cX5_read 54 = .ok (.istore 4, 2) := by decide +kernel
theorem dX5_read_56 : decode cX5_read 56 = .ok (.iload 4, 2) := by decide +kernel
theorem dX5_read_58 : decode cX5_read 58 = .ok (.bipush 6, 2) := by decide +kernel
theorem dX5_read_60 : decode cX5_read 60 = .ok (.if_icmp .ge 82, 3) := by decide +kernel
theorem dX5_read_63 : decode cX5_read 63 = .ok (.iconst 0, 1) := by decide +kernel
theorem dX5_read_64 : decode cX5_read 64 = .ok (.istore 5, 2) := by decide +kernel
theorem dX5_read_66 : decode cX5_read 66 = .ok (.iload 5, 2) := by decide +kernel
theorem dX5_read_68 : decode cX5_read 68 = .ok (.sipush 255, 3) := by decide +kernel
theorem dX5_read_71 : decode cX5_read 71 = .ok (.if_icmp .gt 65, 3) := by decide +kernel
theorem dX5_read_74 : decode cX5_read 74 = .ok (.aload_n 0, 1) := by decide +kernel
theorem dX5_read_75 : decode cX5_read 75 = .ok (.getfield 16, 3) := by decide +kernel
theorem dX5_read_78 : decode cX5_read 78 = .ok (.aload_n 0, 1) := by decide +kernel
theorem dX5_read_79 : decode cX5_read 79 = .ok (.getfield 10, 3) := by decide +kernel
theorem dX5_read_82 : decode cX5_read 82 = .ok (.invokevirtual 150, 3) := by decide +kernel
theorem dX5_read_85 : decode cX5_read 85 = .ok (.aload_n 0, 1) := by decide +kernel
theorem dX5_read_86 : decode cX5_read 86 = .ok (.getfield 16, 3) := by decide +kernel
theorem dX5_read_89 : decode cX5_read 89 = .ok (.getfield 103, 3) := by decide +kernel
theorem dX5_read_92 : decode cX5_read 92 = .ok (.iload_n 2, 1) := by decide +kernel
theorem dX5_read_93 : decode cX5_read 93 = .ok (.aaload, 1) := by decide +kernel
theorem dX5_read_94 : decode cX5_read 94 = .ok (.iload 4, 2) := by decide +kernel
theorem dX5_read_96 : decode cX5_read 96 = .ok (.putfield 131, 3) := by decide +kernel
theorem dX5_read_99 : decode cX5_read 99 = .ok (.aload_n 0, 1) := by decide +kernel
theorem dX5_read_100 : decode cX5_read 100 = .ok (.getfield 16, 3) := by decide +kernel
theorem dX5_read_103 : decode cX5_read 103 = .ok (.getfield 103, 3) := by decide +kernel
theorem dX5_read_106 : decode cX5_read 106 = .ok (.iload_n 2, 1) := by decide +kernel
theorem dX5_read_107 : decode cX5_read 107 = .ok (.aaload, 1) := by decide +kernel
theorem dX5_read_108 : decode cX5_read 108 = .ok (.iload 5, 2) := by decide +kernel
theorem dX5_read_110 : decode cX5_read 110 = .ok (.putfield 137, 3) := by decide +kernel
theorem dX5_read_113 : decode cX5_read 113 = .ok (.aload_n 0, 1) := by decide +kernel
theorem dX5_read_114 : decode cX5_read 114 = .ok (.aload_n 0, 1) := by decide +kernel
theorem dX5_read_115 : decode cX5_read 115 = .ok (.getfield 40, 3) := by decide +kernel
theorem dX5_read_118 : decode cX5_read 118 = .ok (.iload_n 1, 1) := by decide +kernel
theorem dX5_read_119 : decode cX5_read 119 = .ok (.aaload, 1) := by decide +kernel
theorem dX5_read_120 : decode cX5_read 120 = .ok (.iload_n 2, 1) := by decide +kernel
theorem dX5_read_121 : decode cX5_read 121 = .ok (.invokevirtual 233, 3) := by decide +kernel
theorem dX5_read_124 : decode cX5_read 124 = .ok (.ifCond .eq 6, 3) := by decide +kernel
theorem dX5_read_127 : decode cX5_read 127 = .ok (.iinc 3 1, 3) := by decide +kernel
theorem dX5_read_130 : decode cX5_read 130 = .ok (.iinc 5 1, 3) := by decide +kernel
theorem dX5_read_133 : decode cX5_read 133 = .ok (.goto (-67), 3) := by decide +kernel
theorem dX5_read_136 : decode cX5_read 136 = .ok (.iinc 4 1, 3) := by decide +kernel
theorem dX5_read_139 : decode cX5_read 139 = .ok (.goto (-83), 3) := by decide +kernel
theorem dX5_read_142 : decode cX5_read 142 = .ok (.iload_n 3, 1) := by decide +kernel
theorem dX5_read_143 : decode cX5_read 143 = .ok (.ireturn, 1) := by decide +kernel
theorem dX5_image_0 : decode cX5_image 0 = .ok (.aload_n 0, 1) := by decide +kernel
theorem dX5_image_1 : decode cX5_image 1 = .ok (.getfield 19, 3) := by decide +kernel
theorem dX5_image_4 : decode cX5_image 4 = .ok (.aload_n 0, 1) := by decide +kernel
theorem dX5_image_5 : decode cX5_image 5 = .ok (.getfield 10, 3) := by decide +kernel
theorem dX5_image_8 : decode cX5_image 8 = .ok (.invokevirtual 150, 3) := by decide +kernel
theorem dX5_image_11 : decode cX5_image 11 = .ok (.aload_n 0, 1) := by decide +kernel
theorem dX5_image_12 : decode cX5_image 12 = .ok (.iconst 1, 1) := by decide +kernel
theorem dX5_image_13 : decode cX5_image 13 = .ok (.putfield 237, 3) := by decide +kernel
theorem dX5_image_16 : decode cX5_image 16 = .ok (.iconst 1, 1) := by decide +kernel
theorem dX5_image_17 : decode cX5_image 17 = .ok (.ireturn, 1) := by decide +kernel
theorem dX5_undo_0 : decode cX5_undo 0 = .ok (.aload_n 0, 1) := by decide +kernel
theorem dX5_undo_1 : decode cX5_undo 1 = .ok (.getfield 237, 3) := by decide +kernel
theorem dX5_undo_4 : decode cX5_undo 4 = .ok (.ifCond .ne 10, 3) := by decide +kernel
theorem dX5_undo_7 : decode cX5_undo 7 = .ok (.aload_n 0, 1) := by decide +kernel
theorem dX5_undo_8 : decode cX5_undo 8 = .ok (.ldc 157, 2) := by decide +kernel
theorem dX5_undo_10 : decode cX5_undo 10 = .ok (.invokevirtual 54, 3) := by decide +kernel
theorem dX5_undo_13 : decode cX5_undo 13 = .ok (.ireturn, 1) := by decide +kernel
theorem dX5_undo_14 : decode cX5_undo 14 = .ok (.aload_n 0, 1) := by decide +kernel
theorem dX5_undo_15 : decode cX5_undo 15 = .ok (.getfield 10, 3) := by decide +kernel
theorem dX5_undo_18 : decode cX5_undo 18 = .ok (.aload_n 0, 1) := by decide +kernel
theorem dX5_undo_19 : decode cX5_undo 19 = .ok (.getfield 19, 3) := by decide +kernel
theorem dX5_undo_22 : decode cX5_undo 22 = .ok (.invokevirtual 150, 3) := by decide +kernel
theorem dX5_undo_25 : decode cX5_undo 25 = .ok (.aload_n 0, 1) := by decide +kernel
theorem dX5_undo_26 : decode cX5_undo 26 = .ok (.getfield 10, 3) := by decide +kernel
theorem dX5_undo_29 : decode cX5_undo 29 = .ok (.getfield 96, 3) := by decide +kernel
theorem dX5_undo_32 : decode cX5_undo 32 = .ok (.ireturn, 1) := by decide +kernel
theorem dX5_tear_0 : decode cX5_tear 0 = .ok (.aload_n 0, 1) := by decide +kernel
theorem dX5_tear_1 : decode cX5_tear 1 = .ok (.getfield 237, 3) := by decide +kernel
theorem dX5_tear_4 : decode cX5_tear 4 = .ok (.ifCond .eq 7, 3) := by decide +kernel
theorem dX5_tear_7 : decode cX5_tear 7 = .ok (.iconst 1, 1) := by decide +kernel
theorem dX5_tear_8 : decode cX5_tear 8 = .ok (.goto 4, 3) := by decide +kernel
theorem dX5_tear_11 : decode cX5_tear 11 = .ok (.iconst 0, 1) := by decide +kernel
theorem dX5_tear_12 : decode cX5_tear 12 = .ok (.istore_n 1, 1) := by decide +kernel
theorem dX5_tear_13 : decode cX5_tear 13 = .ok (.aload_n 0, 1) := by decide +kernel
theorem dX5_tear_14 : decode cX5_tear 14 = .ok (.iconst 0, 1) := by decide +kernel
theorem dX5_tear_15 : decode cX5_tear 15 = .ok (.putfield 237, 3) := by decide +kernel
theorem dX5_tear_18 : decode cX5_tear 18 = .ok (.iload_n 1, 1) := by decide +kernel
theorem dX5_tear_19 : decode cX5_tear 19 = .ok (.ireturn, 1) := by decide +kernel
theorem dX5_count_0 : decode cX5_count 0 = .ok (.iload_n 1, 1) := by decide +kernel
theorem dX5_count_1 : decode cX5_count 1 = .ok (.tableswitch 65 0 3 #[31, 39, 47, 56], 31) := by decide +kernel
theorem dX5_count_32 : decode cX5_count 32 = .ok (.aload_n 0, 1) := by decide +kernel
theorem dX5_count_33 : decode cX5_count 33 = .ok (.getfield 10, 3) := by decide +kernel
theorem dX5_count_36 : decode cX5_count 36 = .ok (.getfield 96, 3) := by decide +kernel
theorem dX5_count_39 : decode cX5_count 39 = .ok (.ireturn, 1) := by decide +kernel
theorem dX5_count_40 : decode cX5_count 40 = .ok (.aload_n 0, 1) := by decide +kernel
theorem dX5_count_41 : decode cX5_count 41 = .ok (.getfield 25, 3) := by decide +kernel
theorem dX5_count_44 : decode cX5_count 44 = .ok (.getfield 185, 3) := by decide +kernel
theorem dX5_count_47 : decode cX5_count 47 = .ok (.ireturn, 1) := by decide +kernel
theorem dX5_count_48 : decode cX5_count 48 = .ok (.aload_n 0, 1) := by decide +kernel
theorem dX5_count_49 : decode cX5_count 49 = .ok (.getfield 10, 3) := by decide +kernel
theorem dX5_count_52 : decode cX5_count 52 = .ok (.iconst 2, 1) := by decide +kernel
theorem dX5_count_53 : decode cX5_count 53 = .ok (.invokevirtual 179, 3) := by decide +kernel
theorem dX5_count_56 : decode cX5_count 56 = .ok (.ireturn, 1) := by decide +kernel
theorem dX5_count_57 : decode cX5_count 57 = .ok (.aload_n 0, 1) := by decide +kernel
theorem dX5_count_58 : decode cX5_count 58 = .ok (.getfield 10, 3) := by decide +kernel
theorem dX5_count_61 : decode cX5_count 61 = .ok (.iconst 3, 1) := by decide +kernel
theorem dX5_count_62 : decode cX5_count 62 = .ok (.invokevirtual 179, 3) := by decide +kernel
theorem dX5_count_65 : decode cX5_count 65 = .ok (.ireturn, 1) := by decide +kernel
theorem dX5_count_66 : decode cX5_count 66 = .ok (.aload_n 0, 1) := by decide +kernel
theorem dX5_count_67 : decode cX5_count 67 = .ok (.ldc 53, 2) := by decide +kernel
theorem dX5_count_69 : decode cX5_count 69 = .ok (.invokevirtual 54, 3) := by decide +kernel
theorem dX5_count_72 : decode cX5_count 72 = .ok (.ireturn, 1) := by decide +kernel
theorem dX5_status_0 : decode cX5_status 0 = .ok (.iload_n 1, 1) := by decide +kernel
theorem dX5_status_1 : decode cX5_status 1 = .ok (.iconst (-1), 1) := by decide +kernel
theorem dX5_status_2 : decode cX5_status 2 = .ok (.bipush 6, 2) := by decide +kernel
theorem dX5_status_4 : decode cX5_status 4 = .ok (.invokestatic 49, 3) := by decide +kernel
theorem dX5_status_7 : decode cX5_status 7 = .ok (.ifCond .eq 10, 3) := by decide +kernel
theorem dX5_status_10 : decode cX5_status 10 = .ok (.aload_n 0, 1) := by decide +kernel
theorem dX5_status_11 : decode cX5_status 11 = .ok (.ldc 53, 2) := by decide +kernel
theorem dX5_status_13 : decode cX5_status 13 = .ok (.invokevirtual 54, 3) := by decide +kernel
theorem dX5_status_16 : decode cX5_status 16 = .ok (.ireturn, 1) := by decide +kernel
theorem dX5_status_17 : decode cX5_status 17 = .ok (.iload_n 1, 1) := by decide +kernel
theorem dX5_status_18 : decode cX5_status 18 = .ok (.ifCond .lt 10, 3) := by decide +kernel
theorem dX5_status_21 : decode cX5_status 21 = .ok (.aload_n 0, 1) := by decide +kernel
theorem dX5_status_22 : decode cX5_status 22 = .ok (.getfield 44, 3) := by decide +kernel
theorem dX5_status_25 : decode cX5_status 25 = .ok (.iload_n 1, 1) := by decide +kernel
theorem dX5_status_26 : decode cX5_status 26 = .ok (.iaload, 1) := by decide +kernel
theorem dX5_status_27 : decode cX5_status 27 = .ok (.ireturn, 1) := by decide +kernel
theorem dX5_status_28 : decode cX5_status 28 = .ok (.iconst 0, 1) := by decide +kernel
theorem dX5_status_29 : decode cX5_status 29 = .ok (.istore_n 2, 1) := by decide +kernel
theorem dX5_status_30 : decode cX5_status 30 = .ok (.iconst 0, 1) := by decide +kernel
theorem dX5_status_31 : decode cX5_status 31 = .ok (.istore_n 3, 1) := by decide +kernel
theorem dX5_status_32 : decode cX5_status 32 = .ok (.iload_n 3, 1) := by decide +kernel
theorem dX5_status_33 : decode cX5_status 33 = .ok (.bipush 7, 2) := by decide +kernel
theorem dX5_status_35 : decode cX5_status 35 = .ok (.if_icmp .ge 18, 3) := by decide +kernel
theorem dX5_status_38 : decode cX5_status 38 = .ok (.iload_n 2, 1) := by decide +kernel
theorem dX5_status_39 : decode cX5_status 39 = .ok (.aload_n 0, 1) := by decide +kernel
theorem dX5_status_40 : decode cX5_status 40 = .ok (.getfield 44, 3) := by decide +kernel
theorem dX5_status_43 : decode cX5_status 43 = .ok (.iload_n 3, 1) := by decide +kernel
theorem dX5_status_44 : decode cX5_status 44 = .ok (.iaload, 1) := by decide +kernel
theorem dX5_status_45 : decode cX5_status 45 = .ok (.iadd, 1) := by decide +kernel
theorem dX5_status_46 : decode cX5_status 46 = .ok (.istore_n 2, 1) := by decide +kernel
theorem dX5_status_47 : decode cX5_status 47 = .ok (.iinc 3 1, 3) := by decide +kernel
theorem dX5_status_50 : decode cX5_status 50 = .ok (.goto (-18), 3) := by decide +kernel
theorem dX5_status_53 : decode cX5_status 53 = .ok (.iload_n 2, 1) := by decide +kernel
theorem dX5_status_54 : decode cX5_status 54 = .ok (.ireturn, 1) := by decide +kernel
theorem dX5_outside_0 : decode cX5_outside 0 = .ok (.iload_n 0, 1) := by decide +kernel
theorem dX5_outside_1 : decode cX5_outside 1 = .ok (.iload_n 1, 1) := by decide +kernel
theorem dX5_outside_2 : decode cX5_outside 2 = .ok (.if_icmp .lt 8, 3) := by decide +kernel
theorem dX5_outside_5 : decode cX5_outside 5 = .ok (.iload_n 0, 1) := by decide +kernel
theorem dX5_outside_6 : decode cX5_outside 6 = .ok (.iload_n 2, 1) := by decide +kernel
theorem dX5_outside_7 : decode cX5_outside 7 = .ok (.if_icmp .le 7, 3) := by decide +kernel
theorem dX5_outside_10 : decode cX5_outside 10 = .ok (.iconst 1, 1) := by decide +kernel
theorem dX5_outside_11 : decode cX5_outside 11 = .ok (.goto 4, 3) := by decide +kernel
theorem dX5_outside_14 : decode cX5_outside 14 = .ok (.iconst 0, 1) := by decide +kernel
theorem dX5_outside_15 : decode cX5_outside 15 = .ok (.ireturn, 1) := by decide +kernel
theorem dX5_bit_0 : decode cX5_bit 0 = .ok (.iload_n 0, 1) := by decide +kernel
theorem dX5_bit_1 : decode cX5_bit 1 = .ok (.iload_n 1, 1) := by decide +kernel
theorem dX5_bit_2 : decode cX5_bit 2 = .ok (.ishr, 1) := by decide +kernel
theorem dX5_bit_3 : decode cX5_bit 3 = .ok (.iconst 1, 1) := by decide +kernel
theorem dX5_bit_4 : decode cX5_bit 4 = .ok (.iand, 1) := by decide +kernel
theorem dX5_bit_5 : decode cX5_bit 5 = .ok (.ireturn, 1) := by decide +kernel
theorem dX5_noSheet_0 : decode cX5_noSheet 0 = .ok (.iload_n 0, 1) := by decide +kernel
theorem dX5_noSheet_1 : decode cX5_noSheet 1 = .ok (.iconst 0, 1) := by decide +kernel
theorem dX5_noSheet_2 : decode cX5_noSheet 2 = .ok (.iconst 3, 1) := by decide +kernel
theorem dX5_noSheet_3 : decode cX5_noSheet 3 = .ok (.invokestatic 49, 3) := by decide +kernel
theorem dX5_noSheet_6 : decode cX5_noSheet 6 = .ok (.ireturn, 1) := by decide +kernel
theorem dX5_finding_0 : decode cX5_finding 0 = .ok (.ldc 53, 2) := by decide +kernel
theorem dX5_finding_2 : decode cX5_finding 2 = .ok (.iload_n 1, 1) := by decide +kernel
theorem dX5_finding_3 : decode cX5_finding 3 = .ok (.isub, 1) := by decide +kernel
theorem dX5_finding_4 : decode cX5_finding 4 = .ok (.istore_n 2, 1) := by decide +kernel
theorem dX5_finding_5 : decode cX5_finding 5 = .ok (.iload_n 2, 1) := by decide +kernel
theorem dX5_finding_6 : decode cX5_finding 6 = .ok (.iconst 0, 1) := by decide +kernel
theorem dX5_finding_7 : decode cX5_finding 7 = .ok (.bipush 6, 2) := by decide +kernel
theorem dX5_finding_9 : decode cX5_finding 9 = .ok (.invokestatic 49, 3) := by decide +kernel
theorem dX5_finding_12 : decode cX5_finding 12 = .ok (.ifCond .ne 13, 3) := by decide +kernel
theorem dX5_finding_15 : decode cX5_finding 15 = .ok (.aload_n 0, 1) := by decide +kernel
theorem dX5_finding_16 : decode cX5_finding 16 = .ok (.getfield 44, 3) := by decide +kernel
theorem dX5_finding_19 : decode cX5_finding 19 = .ok (.iload_n 2, 1) := by decide +kernel
theorem dX5_finding_20 : decode cX5_finding 20 = .ok (.dup2, 1) := by decide +kernel
theorem dX5_finding_21 : decode cX5_finding 21 = .ok (.iaload, 1) := by decide +kernel
theorem dX5_finding_22 : decode cX5_finding 22 = .ok (.iconst 1, 1) := by decide +kernel
theorem dX5_finding_23 : decode cX5_finding 23 = .ok (.iadd, 1) := by decide +kernel
theorem dX5_finding_24 : decode cX5_finding 24 = .ok (.iastore, 1) := by decide +kernel
theorem dX5_finding_25 : decode cX5_finding 25 = .ok (.iload_n 1, 1) := by decide +kernel
theorem dX5_finding_26 : decode cX5_finding 26 = .ok (.ireturn, 1) := by decide +kernel
theorem dX5_lookAhead_0 : decode cX5_lookAhead 0 = .ok (.aload_n 0, 1) := by decide +kernel
theorem dX5_lookAhead_1 : decode cX5_lookAhead 1 = .ok (.getfield 16, 3) := by decide +kernel
theorem dX5_lookAhead_4 : decode cX5_lookAhead 4 = .ok (.aload_n 0, 1) := by decide +kernel
theorem dX5_lookAhead_5 : decode cX5_lookAhead 5 = .ok (.getfield 10, 3) := by decide +kernel
theorem dX5_lookAhead_8 : decode cX5_lookAhead 8 = .ok (.invokevirtual 150, 3) := by decide +kernel
theorem dX5_lookAhead_11 : decode cX5_lookAhead 11 = .ok (.aload_n 0, 1) := by decide +kernel
theorem dX5_lookAhead_12 : decode cX5_lookAhead 12 = .ok (.getfield 16, 3) := by decide +kernel
theorem dX5_lookAhead_15 : decode cX5_lookAhead 15 = .ok (.iload_n 1, 1) := by decide +kernel
theorem dX5_lookAhead_16 : decode cX5_lookAhead 16 = .ok (.invokevirtual 143, 3) := by decide +kernel
theorem dX5_lookAhead_19 : decode cX5_lookAhead 19 = .ok (.return_, 1) := by decide +kernel
theorem dX5_saysJustSo_0 : decode cX5_saysJustSo 0 = .ok (.iconst 0, 1) := by decide +kernel
theorem dX5_saysJustSo_1 : decode cX5_saysJustSo 1 = .ok (.istore_n 3, 1) := by decide +kernel
theorem dX5_saysJustSo_2 : decode cX5_saysJustSo 2 = .ok (.iload_n 3, 1) := by decide +kernel
theorem dX5_saysJustSo_3 : decode cX5_saysJustSo 3 = .ok (.aload_n 1, 1) := by decide +kernel
theorem dX5_saysJustSo_4 : decode cX5_saysJustSo 4 = .ok (.getfield 203, 3) := by decide +kernel
theorem dX5_saysJustSo_7 : decode cX5_saysJustSo 7 = .ok (.if_icmp .ge 38, 3) := by decide +kernel
theorem dX5_saysJustSo_10 : decode cX5_saysJustSo 10 = .ok (.aload_n 0, 1) := by decide +kernel
theorem dX5_saysJustSo_11 : decode cX5_saysJustSo 11 = .ok (.getfield 16, 3) := by decide +kernel
theorem dX5_saysJustSo_14 : decode cX5_saysJustSo 14 = .ok (.iload_n 2, 1) := by decide +kernel
theorem dX5_saysJustSo_15 : decode cX5_saysJustSo 15 = .ok (.invokevirtual 230, 3) := by decide +kernel
theorem dX5_saysJustSo_18 : decode cX5_saysJustSo 18 = .ok (.i2l, 1) := by decide +kernel
theorem dX5_saysJustSo_19 : decode cX5_saysJustSo 19 = .ok (.aload_n 1, 1) := by decide +kernel
theorem dX5_saysJustSo_20 : decode cX5_saysJustSo 20 = .ok (.getfield 208, 3) := by decide +kernel
theorem dX5_saysJustSo_23 : decode cX5_saysJustSo 23 = .ok (.iload_n 3, 1) := by decide +kernel
theorem dX5_saysJustSo_24 : decode cX5_saysJustSo 24 = .ok (.laload, 1) := by decide +kernel
theorem dX5_saysJustSo_25 : decode cX5_saysJustSo 25 = .ok (.lcmp, 1) := by decide +kernel
theorem dX5_saysJustSo_26 : decode cX5_saysJustSo 26 = .ok (.ifCond .eq 5, 3) := by decide +kernel
theorem dX5_saysJustSo_29 : decode cX5_saysJustSo 29 = .ok (.iconst 0, 1) := by decide +kernel
theorem dX5_saysJustSo_30 : decode cX5_saysJustSo 30 = .ok (.ireturn, 1) := by decide +kernel
theorem dX5_saysJustSo_31 : decode cX5_saysJustSo 31 = .ok (.aload_n 0, 1) := by decide +kernel
theorem dX5_saysJustSo_32 : decode cX5_saysJustSo 32 = .ok (.getfield 16, 3) := by decide +kernel
theorem dX5_saysJustSo_35 : decode cX5_saysJustSo 35 = .ok (.iconst 1, 1) := by decide +kernel
theorem dX5_saysJustSo_36 : decode cX5_saysJustSo 36 = .ok (.invokevirtual 143, 3) := by decide +kernel
theorem dX5_saysJustSo_39 : decode cX5_saysJustSo 39 = .ok (.iinc 3 1, 3) := by decide +kernel
theorem dX5_saysJustSo_42 : decode cX5_saysJustSo 42 = .ok (.goto (-40), 3) := by decide +kernel
theorem dX5_saysJustSo_45 : decode cX5_saysJustSo 45 = .ok (.iconst 1, 1) := by decide +kernel
theorem dX5_saysJustSo_46 : decode cX5_saysJustSo 46 = .ok (.ireturn, 1) := by decide +kernel
theorem dJ6_bitCount_0f7a4_0 : decode cJ6_bitCount_0f7a4 0 = .ok (.iload_n 0, 1) := by decide +kernel
theorem dJ6_bitCount_0f7a4_1 : decode cJ6_bitCount_0f7a4 1 = .ok (.iload_n 0, 1) := by decide +kernel
theorem dJ6_bitCount_0f7a4_2 : decode cJ6_bitCount_0f7a4 2 = .ok (.iconst 1, 1) := by decide +kernel
theorem dJ6_bitCount_0f7a4_3 : decode cJ6_bitCount_0f7a4 3 = .ok (.iushr, 1) := by decide +kernel
theorem dJ6_bitCount_0f7a4_4 : decode cJ6_bitCount_0f7a4 4 = .ok (.ldc_w 265, 3) := by decide +kernel
theorem dJ6_bitCount_0f7a4_7 : decode cJ6_bitCount_0f7a4 7 = .ok (.iand, 1) := by decide +kernel
theorem dJ6_bitCount_0f7a4_8 : decode cJ6_bitCount_0f7a4 8 = .ok (.isub, 1) := by decide +kernel
theorem dJ6_bitCount_0f7a4_9 : decode cJ6_bitCount_0f7a4 9 = .ok (.istore_n 0, 1) := by decide +kernel
theorem dJ6_bitCount_0f7a4_10 : decode cJ6_bitCount_0f7a4 10 = .ok (.iload_n 0, 1) := by decide +kernel
theorem dJ6_bitCount_0f7a4_11 : decode cJ6_bitCount_0f7a4 11 = .ok (.ldc_w 266, 3) := by decide +kernel
theorem dJ6_bitCount_0f7a4_14 : decode cJ6_bitCount_0f7a4 14 = .ok (.iand, 1) := by decide +kernel
theorem dJ6_bitCount_0f7a4_15 : decode cJ6_bitCount_0f7a4 15 = .ok (.iload_n 0, 1) := by decide +kernel
theorem dJ6_bitCount_0f7a4_16 : decode cJ6_bitCount_0f7a4 16 = .ok (.iconst 2, 1) := by decide +kernel
theorem dJ6_bitCount_0f7a4_17 : decode cJ6_bitCount_0f7a4 17 = .ok (.iushr, 1) := by decide +kernel
theorem dJ6_bitCount_0f7a4_18 : decode cJ6_bitCount_0f7a4 18 = .ok (.ldc_w 266, 3) := by decide +kernel
theorem dJ6_bitCount_0f7a4_21 : decode cJ6_bitCount_0f7a4 21 = .ok (.iand, 1) := by decide +kernel
theorem dJ6_bitCount_0f7a4_22 : decode cJ6_bitCount_0f7a4 22 = .ok (.iadd, 1) := by decide +kernel
theorem dJ6_bitCount_0f7a4_23 : decode cJ6_bitCount_0f7a4 23 = .ok (.istore_n 0, 1) := by decide +kernel
theorem dJ6_bitCount_0f7a4_24 : decode cJ6_bitCount_0f7a4 24 = .ok (.iload_n 0, 1) := by decide +kernel
theorem dJ6_bitCount_0f7a4_25 : decode cJ6_bitCount_0f7a4 25 = .ok (.iload_n 0, 1) := by decide +kernel
theorem dJ6_bitCount_0f7a4_26 : decode cJ6_bitCount_0f7a4 26 = .ok (.iconst 4, 1) := by decide +kernel
theorem dJ6_bitCount_0f7a4_27 : decode cJ6_bitCount_0f7a4 27 = .ok (.iushr, 1) := by decide +kernel
theorem dJ6_bitCount_0f7a4_28 : decode cJ6_bitCount_0f7a4 28 = .ok (.iadd, 1) := by decide +kernel
theorem dJ6_bitCount_0f7a4_29 : decode cJ6_bitCount_0f7a4 29 = .ok (.ldc_w 267, 3) := by decide +kernel
theorem dJ6_bitCount_0f7a4_32 : decode cJ6_bitCount_0f7a4 32 = .ok (.iand, 1) := by decide +kernel
theorem dJ6_bitCount_0f7a4_33 : decode cJ6_bitCount_0f7a4 33 = .ok (.istore_n 0, 1) := by decide +kernel
theorem dJ6_bitCount_0f7a4_34 : decode cJ6_bitCount_0f7a4 34 = .ok (.iload_n 0, 1) := by decide +kernel
theorem dJ6_bitCount_0f7a4_35 : decode cJ6_bitCount_0f7a4 35 = .ok (.iload_n 0, 1) := by decide +kernel
theorem dJ6_bitCount_0f7a4_36 : decode cJ6_bitCount_0f7a4 36 = .ok (.bipush 8, 2) := by decide +kernel
theorem dJ6_bitCount_0f7a4_38 : decode cJ6_bitCount_0f7a4 38 = .ok (.iushr, 1) := by decide +kernel
theorem dJ6_bitCount_0f7a4_39 : decode cJ6_bitCount_0f7a4 39 = .ok (.iadd, 1) := by decide +kernel
theorem dJ6_bitCount_0f7a4_40 : decode cJ6_bitCount_0f7a4 40 = .ok (.istore_n 0, 1) := by decide +kernel
theorem dJ6_bitCount_0f7a4_41 : decode cJ6_bitCount_0f7a4 41 = .ok (.iload_n 0, 1) := by decide +kernel
theorem dJ6_bitCount_0f7a4_42 : decode cJ6_bitCount_0f7a4 42 = .ok (.iload_n 0, 1) := by decide +kernel
theorem dJ6_bitCount_0f7a4_43 : decode cJ6_bitCount_0f7a4 43 = .ok (.bipush 16, 2) := by decide +kernel
theorem dJ6_bitCount_0f7a4_45 : decode cJ6_bitCount_0f7a4 45 = .ok (.iushr, 1) := by decide +kernel
theorem dJ6_bitCount_0f7a4_46 : decode cJ6_bitCount_0f7a4 46 = .ok (.iadd, 1) := by decide +kernel
theorem dJ6_bitCount_0f7a4_47 : decode cJ6_bitCount_0f7a4 47 = .ok (.istore_n 0, 1) := by decide +kernel
theorem dJ6_bitCount_0f7a4_48 : decode cJ6_bitCount_0f7a4 48 = .ok (.iload_n 0, 1) := by decide +kernel
theorem dJ6_bitCount_0f7a4_49 : decode cJ6_bitCount_0f7a4 49 = .ok (.bipush 63, 2) := by decide +kernel
theorem dJ6_bitCount_0f7a4_51 : decode cJ6_bitCount_0f7a4 51 = .ok (.iand, 1) := by decide +kernel
theorem dJ6_bitCount_0f7a4_52 : decode cJ6_bitCount_0f7a4 52 = .ok (.ireturn, 1) := by decide +kernel
theorem dJ9_max_7cf53_0 : decode cJ9_max_7cf53 0 = .ok (.iload_n 0, 1) := by decide +kernel
theorem dJ9_max_7cf53_1 : decode cJ9_max_7cf53 1 = .ok (.iload_n 1, 1) := by decide +kernel
theorem dJ9_max_7cf53_2 : decode cJ9_max_7cf53 2 = .ok (.if_icmp .lt 7, 3) := by decide +kernel
theorem dJ9_max_7cf53_5 : decode cJ9_max_7cf53 5 = .ok (.iload_n 0, 1) := by decide +kernel
theorem dJ9_max_7cf53_6 : decode cJ9_max_7cf53 6 = .ok (.goto 4, 3) := by decide +kernel
theorem dJ9_max_7cf53_9 : decode cJ9_max_7cf53 9 = .ok (.iload_n 1, 1) := by decide +kernel
theorem dJ9_max_7cf53_10 : decode cJ9_max_7cf53 10 = .ok (.ireturn, 1) := by decide +kernel
theorem dJ9_min_7cf53_0 : decode cJ9_min_7cf53 0 = .ok (.iload_n 0, 1) := by decide +kernel
theorem dJ9_min_7cf53_1 : decode cJ9_min_7cf53 1 = .ok (.iload_n 1, 1) := by decide +kernel
theorem dJ9_min_7cf53_2 : decode cJ9_min_7cf53 2 = .ok (.if_icmp .gt 7, 3) := by decide +kernel
theorem dJ9_min_7cf53_5 : decode cJ9_min_7cf53 5 = .ok (.iload_n 0, 1) := by decide +kernel
theorem dJ9_min_7cf53_6 : decode cJ9_min_7cf53 6 = .ok (.goto 4, 3) := by decide +kernel
theorem dJ9_min_7cf53_9 : decode cJ9_min_7cf53 9 = .ok (.iload_n 1, 1) := by decide +kernel
theorem dJ9_min_7cf53_10 : decode cJ9_min_7cf53 10 = .ok (.ireturn, 1) := by decide +kernel
theorem dJ0_length_8abf5_0 : decode cJ0_length_8abf5 0 = .ok (.aload_n 0, 1) := by decide +kernel
theorem dJ0_length_8abf5_1 : decode cJ0_length_8abf5 1 = .ok (.getfield 9, 3) := by decide +kernel
theorem dJ0_length_8abf5_4 : decode cJ0_length_8abf5 4 = .ok (.arraylength, 1) := by decide +kernel
theorem dJ0_length_8abf5_5 : decode cJ0_length_8abf5 5 = .ok (.aload_n 0, 1) := by decide +kernel
theorem dJ0_length_8abf5_6 : decode cJ0_length_8abf5 6 = .ok (.invokevirtual 335, 3) := by decide +kernel
theorem dJ0_length_8abf5_9 : decode cJ0_length_8abf5 9 = .ok (.ishr, 1) := by decide +kernel
theorem dJ0_length_8abf5_10 : decode cJ0_length_8abf5 10 = .ok (.ireturn, 1) := by decide +kernel
theorem dJ0_charAt_5068e_0 : decode cJ0_charAt_5068e 0 = .ok (.aload_n 0, 1) := by decide +kernel
theorem dJ0_charAt_5068e_1 : decode cJ0_charAt_5068e 1 = .ok (.invokevirtual 492, 3) := by decide +kernel
theorem dJ0_charAt_5068e_4 : decode cJ0_charAt_5068e 4 = .ok (.ifCond .eq 12, 3) := by decide +kernel
theorem dJ0_charAt_5068e_7 : decode cJ0_charAt_5068e 7 = .ok (.aload_n 0, 1) := by decide +kernel
theorem dJ0_charAt_5068e_8 : decode cJ0_charAt_5068e 8 = .ok (.getfield 9, 3) := by decide +kernel
theorem dJ0_charAt_5068e_11 : decode cJ0_charAt_5068e 11 = .ok (.iload_n 1, 1) := by decide +kernel
theorem dJ0_charAt_5068e_12 : decode cJ0_charAt_5068e 12 = .ok (.invokestatic 495, 3) := by decide +kernel
theorem dJ0_charAt_5068e_15 : decode cJ0_charAt_5068e 15 = .ok (.ireturn, 1) := by decide +kernel
theorem dJ0_charAt_5068e_16 : decode cJ0_charAt_5068e 16 = .ok (.aload_n 0, 1) := by decide +kernel
theorem dJ0_charAt_5068e_17 : decode cJ0_charAt_5068e 17 = .ok (.getfield 9, 3) := by decide +kernel
theorem dJ0_charAt_5068e_20 : decode cJ0_charAt_5068e 20 = .ok (.iload_n 1, 1) := by decide +kernel
theorem dJ0_charAt_5068e_21 : decode cJ0_charAt_5068e 21 = .ok (.invokestatic 498, 3) := by decide +kernel
theorem dJ0_charAt_5068e_24 : decode cJ0_charAt_5068e 24 = .ok (.ireturn, 1) := by decide +kernel
theorem dJ0_coder_7d493_0 : decode cJ0_coder_7d493 0 = .ok (.getstatic 38, 3) := by decide +kernel
theorem dJ0_coder_7d493_3 : decode cJ0_coder_7d493 3 = .ok (.ifCond .eq 10, 3) := by decide +kernel
theorem dJ0_coder_7d493_6 : decode cJ0_coder_7d493 6 = .ok (.aload_n 0, 1) := by decide +kernel
theorem dJ0_coder_7d493_7 : decode cJ0_coder_7d493 7 = .ok (.getfield 15, 3) := by decide +kernel
theorem dJ0_coder_7d493_10 : decode cJ0_coder_7d493 10 = .ok (.goto 4, 3) := by decide +kernel
theorem dJ0_coder_7d493_13 : decode cJ0_coder_7d493 13 = .ok (.iconst 1, 1) := by decide +kernel
theorem dJ0_coder_7d493_14 : decode cJ0_coder_7d493 14 = .ok (.ireturn, 1) := by decide +kernel
theorem dJ0_isLatin1_aae02_0 : decode cJ0_isLatin1_aae02 0 = .ok (.getstatic 38, 3) := by decide +kernel
theorem dJ0_isLatin1_aae02_3 : decode cJ0_isLatin1_aae02 3 = .ok (.ifCond .eq 14, 3) := by decide +kernel
theorem dJ0_isLatin1_aae02_6 : decode cJ0_isLatin1_aae02 6 = .ok (.aload_n 0, 1) := by decide +kernel
theorem dJ0_isLatin1_aae02_7 : decode cJ0_isLatin1_aae02 7 = .ok (.getfield 15, 3) := by decide +kernel
theorem dJ0_isLatin1_aae02_10 : decode cJ0_isLatin1_aae02 10 = .ok (.ifCond .ne 7, 3) := by decide +kernel
theorem dJ0_isLatin1_aae02_13 : decode cJ0_isLatin1_aae02 13 = .ok (.iconst 1, 1) := by decide +kernel
theorem dJ0_isLatin1_aae02_14 : decode cJ0_isLatin1_aae02 14 = .ok (.goto 4, 3) := by decide +kernel
theorem dJ0_isLatin1_aae02_17 : decode cJ0_isLatin1_aae02 17 = .ok (.iconst 0, 1) := by decide +kernel
theorem dJ0_isLatin1_aae02_18 : decode cJ0_isLatin1_aae02 18 = .ok (.ireturn, 1) := by decide +kernel
theorem dJ0_checkIndex_df160_0 : decode cJ0_checkIndex_df160 0 = .ok (.iload_n 0, 1) := by decide +kernel
theorem dJ0_checkIndex_df160_1 : decode cJ0_checkIndex_df160 1 = .ok (.iload_n 1, 1) := by decide +kernel
theorem dJ0_checkIndex_df160_2 : decode cJ0_checkIndex_df160 2 = .ok (.getstatic 1053, 3) := by decide +kernel
theorem dJ0_checkIndex_df160_5 : decode cJ0_checkIndex_df160 5 = .ok (.invokestatic 1059, 3) := by decide +kernel
theorem dJ0_checkIndex_df160_8 : decode cJ0_checkIndex_df160 8 = .ok (.pop, 1) := by decide +kernel
theorem dJ0_checkIndex_df160_9 : decode cJ0_checkIndex_df160 9 = .ok (.return_, 1) := by decide +kernel
theorem dJ1_charAt_3b067_0 : decode cJ1_charAt_3b067 0 = .ok (.iload_n 1, 1) := by decide +kernel
theorem dJ1_charAt_3b067_1 : decode cJ1_charAt_3b067 1 = .ok (.aload_n 0, 1) := by decide +kernel
theorem dJ1_charAt_3b067_2 : decode cJ1_charAt_3b067 2 = .ok (.arraylength, 1) := by decide +kernel
theorem dJ1_charAt_3b067_3 : decode cJ1_charAt_3b067 3 = .ok (.invokestatic 9, 3) := by decide +kernel
theorem dJ1_charAt_3b067_6 : decode cJ1_charAt_3b067 6 = .ok (.aload_n 0, 1) := by decide +kernel
theorem dJ1_charAt_3b067_7 : decode cJ1_charAt_3b067 7 = .ok (.iload_n 1, 1) := by decide +kernel
theorem dJ1_charAt_3b067_8 : decode cJ1_charAt_3b067 8 = .ok (.baload, 1) := by decide +kernel
theorem dJ1_charAt_3b067_9 : decode cJ1_charAt_3b067 9 = .ok (.sipush 255, 3) := by decide +kernel
theorem dJ1_charAt_3b067_12 : decode cJ1_charAt_3b067 12 = .ok (.iand, 1) := by decide +kernel
theorem dJ1_charAt_3b067_13 : decode cJ1_charAt_3b067 13 = .ok (.i2c, 1) := by decide +kernel
theorem dJ1_charAt_3b067_14 : decode cJ1_charAt_3b067 14 = .ok (.ireturn, 1) := by decide +kernel
theorem dJ2_getChar_3b067_0 : decode cJ2_getChar_3b067 0 = .ok (.getstatic 44, 3) := by decide +kernel
theorem dJ2_getChar_3b067_3 : decode cJ2_getChar_3b067 3 = .ok (.ifCond .ne 25, 3) := by decide +kernel
theorem dJ2_getChar_3b067_6 : decode cJ2_getChar_3b067 6 = .ok (.iload_n 1, 1) := by decide +kernel
theorem dJ2_getChar_3b067_7 : decode cJ2_getChar_3b067 7 = .ok (.ifCond .lt 11, 3) := by decide +kernel
theorem dJ2_getChar_3b067_10 : decode cJ2_getChar_3b067 10 = .ok (.iload_n 1, 1) := by decide +kernel
theorem dJ2_getChar_3b067_11 : decode cJ2_getChar_3b067 11 = .ok (.aload_n 0, 1) := by decide +kernel
theorem dJ2_getChar_3b067_12 : decode cJ2_getChar_3b067 12 = .ok (.invokestatic 48, 3) := by decide +kernel
theorem dJ2_getChar_3b067_15 : decode cJ2_getChar_3b067 15 = .ok (.if_icmp .lt 13, 3) := by decide +kernel
theorem dJ2_getChar_3b067_18 : decode cJ2_getChar_3b067 18 = .ok (.new 52, 3) := by decide +kernel
theorem dJ2_getChar_3b067_21 : decode cJ2_getChar_3b067 21 = .ok (.dup, 1) := by decide +kernel
theorem dJ2_getChar_3b067_22 : decode cJ2_getChar_3b067 22 = .ok (.ldc 54, 2) := by decide +kernel
theorem dJ2_getChar_3b067_24 : decode cJ2_getChar_3b067 24 = .ok (.invokespecial 56, 3) := by decide +kernel
theorem dJ2_getChar_3b067_27 : decode cJ2_getChar_3b067 27 = .ok (.athrow, 1) := by decide +kernel
theorem dJ2_getChar_3b067_28 : decode cJ2_getChar_3b067 28 = .ok (.iload_n 1, 1) := by decide +kernel
theorem dJ2_getChar_3b067_29 : decode cJ2_getChar_3b067 29 = .ok (.iconst 1, 1) := by decide +kernel
theorem dJ2_getChar_3b067_30 : decode cJ2_getChar_3b067 30 = .ok (.ishl, 1) := by decide +kernel
theorem dJ2_getChar_3b067_31 : decode cJ2_getChar_3b067 31 = .ok (.istore_n 1, 1) := by decide +kernel
theorem dJ2_getChar_3b067_32 : decode cJ2_getChar_3b067 32 = .ok (.aload_n 0, 1) := by decide +kernel
theorem dJ2_getChar_3b067_33 : decode cJ2_getChar_3b067 33 = .ok (.iload_n 1, 1) := by decide +kernel
theorem dJ2_getChar_3b067_34 : decode cJ2_getChar_3b067 34 = .ok (.iinc 1 1, 3) := by decide +kernel
theorem dJ2_getChar_3b067_37 : decode cJ2_getChar_3b067 37 = .ok (.baload, 1) := by decide +kernel
theorem dJ2_getChar_3b067_38 : decode cJ2_getChar_3b067 38 = .ok (.sipush 255, 3) := by decide +kernel
theorem dJ2_getChar_3b067_41 : decode cJ2_getChar_3b067 41 = .ok (.iand, 1) := by decide +kernel
theorem dJ2_getChar_3b067_42 : decode cJ2_getChar_3b067 42 = .ok (.getstatic 59, 3) := by decide +kernel
theorem dJ2_getChar_3b067_45 : decode cJ2_getChar_3b067 45 = .ok (.ishl, 1) := by decide +kernel
theorem dJ2_getChar_3b067_46 : decode cJ2_getChar_3b067 46 = .ok (.aload_n 0, 1) := by decide +kernel
theorem dJ2_getChar_3b067_47 : decode cJ2_getChar_3b067 47 = .ok (.iload_n 1, 1) := by decide +kernel
theorem dJ2_getChar_3b067_48 : decode cJ2_getChar_3b067 48 = .ok (.baload, 1) := by decide +kernel
theorem dJ2_getChar_3b067_49 : decode cJ2_getChar_3b067 49 = .ok (.sipush 255, 3) := by decide +kernel
theorem dJ2_getChar_3b067_52 : decode cJ2_getChar_3b067 52 = .ok (.iand, 1) := by decide +kernel
theorem dJ2_getChar_3b067_53 : decode cJ2_getChar_3b067 53 = .ok (.getstatic 63, 3) := by decide +kernel
theorem dJ2_getChar_3b067_56 : decode cJ2_getChar_3b067 56 = .ok (.ishl, 1) := by decide +kernel
theorem dJ2_getChar_3b067_57 : decode cJ2_getChar_3b067 57 = .ok (.ior, 1) := by decide +kernel
theorem dJ2_getChar_3b067_58 : decode cJ2_getChar_3b067 58 = .ok (.i2c, 1) := by decide +kernel
theorem dJ2_getChar_3b067_59 : decode cJ2_getChar_3b067 59 = .ok (.ireturn, 1) := by decide +kernel
theorem dJ2_length_9d52b_0 : decode cJ2_length_9d52b 0 = .ok (.aload_n 0, 1) := by decide +kernel
theorem dJ2_length_9d52b_1 : decode cJ2_length_9d52b 1 = .ok (.arraylength, 1) := by decide +kernel
theorem dJ2_length_9d52b_2 : decode cJ2_length_9d52b 2 = .ok (.iconst 1, 1) := by decide +kernel
theorem dJ2_length_9d52b_3 : decode cJ2_length_9d52b 3 = .ok (.ishr, 1) := by decide +kernel
theorem dJ2_length_9d52b_4 : decode cJ2_length_9d52b 4 = .ok (.ireturn, 1) := by decide +kernel
theorem dJ2_charAt_3b067_0 : decode cJ2_charAt_3b067 0 = .ok (.iload_n 1, 1) := by decide +kernel
theorem dJ2_charAt_3b067_1 : decode cJ2_charAt_3b067 1 = .ok (.aload_n 0, 1) := by decide +kernel
theorem dJ2_charAt_3b067_2 : decode cJ2_charAt_3b067 2 = .ok (.invokestatic 67, 3) := by decide +kernel
theorem dJ2_charAt_3b067_5 : decode cJ2_charAt_3b067 5 = .ok (.aload_n 0, 1) := by decide +kernel
theorem dJ2_charAt_3b067_6 : decode cJ2_charAt_3b067 6 = .ok (.iload_n 1, 1) := by decide +kernel
theorem dJ2_charAt_3b067_7 : decode cJ2_charAt_3b067 7 = .ok (.invokestatic 71, 3) := by decide +kernel
theorem dJ2_charAt_3b067_10 : decode cJ2_charAt_3b067 10 = .ok (.ireturn, 1) := by decide +kernel
theorem dJ2_checkIndex_2214a_0 : decode cJ2_checkIndex_2214a 0 = .ok (.iload_n 0, 1) := by decide +kernel
theorem dJ2_checkIndex_2214a_1 : decode cJ2_checkIndex_2214a 1 = .ok (.aload_n 1, 1) := by decide +kernel
theorem dJ2_checkIndex_2214a_2 : decode cJ2_checkIndex_2214a 2 = .ok (.invokestatic 48, 3) := by decide +kernel
theorem dJ2_checkIndex_2214a_5 : decode cJ2_checkIndex_2214a 5 = .ok (.invokestatic 414, 3) := by decide +kernel
theorem dJ2_checkIndex_2214a_8 : decode cJ2_checkIndex_2214a 8 = .ok (.return_, 1) := by decide +kernel
theorem dJ7_fill_d0a16_0 : decode cJ7_fill_d0a16 0 = .ok (.iconst 0, 1) := by decide +kernel
theorem dJ7_fill_d0a16_1 : decode cJ7_fill_d0a16 1 = .ok (.istore_n 3, 1) := by decide +kernel
theorem dJ7_fill_d0a16_2 : decode cJ7_fill_d0a16 2 = .ok (.aload_n 0, 1) := by decide +kernel
theorem dJ7_fill_d0a16_3 : decode cJ7_fill_d0a16 3 = .ok (.arraylength, 1) := by decide +kernel
theorem dJ7_fill_d0a16_4 : decode cJ7_fill_d0a16 4 = .ok (.istore 4, 2) := by decide +kernel
theorem dJ7_fill_d0a16_6 : decode cJ7_fill_d0a16 6 = .ok (.iload_n 3, 1) := by decide +kernel
theorem dJ7_fill_d0a16_7 : decode cJ7_fill_d0a16 7 = .ok (.iload 4, 2) := by decide +kernel
theorem dJ7_fill_d0a16_9 : decode cJ7_fill_d0a16 9 = .ok (.if_icmp .ge 13, 3) := by decide +kernel
theorem dJ7_fill_d0a16_12 : decode cJ7_fill_d0a16 12 = .ok (.aload_n 0, 1) := by decide +kernel
theorem dJ7_fill_d0a16_13 : decode cJ7_fill_d0a16 13 = .ok (.iload_n 3, 1) := by decide +kernel
theorem dJ7_fill_d0a16_14 : decode cJ7_fill_d0a16 14 = .ok (.lload_n 1, 1) := by decide +kernel
theorem dJ7_fill_d0a16_15 : decode cJ7_fill_d0a16 15 = .ok (.lastore, 1) := by decide +kernel
theorem dJ7_fill_d0a16_16 : decode cJ7_fill_d0a16 16 = .ok (.iinc 3 1, 3) := by decide +kernel
theorem dJ7_fill_d0a16_19 : decode cJ7_fill_d0a16 19 = .ok (.goto (-13), 3) := by decide +kernel
theorem dJ7_fill_d0a16_22 : decode cJ7_fill_d0a16 22 = .ok (.return_, 1) := by decide +kernel
theorem dJ3_checkIndex_8e157_0 : decode cJ3_checkIndex_8e157 0 = .ok (.iload_n 0, 1) := by decide +kernel
theorem dJ3_checkIndex_8e157_1 : decode cJ3_checkIndex_8e157 1 = .ok (.ifCond .lt 8, 3) := by decide +kernel
theorem dJ3_checkIndex_8e157_4 : decode cJ3_checkIndex_8e157 4 = .ok (.iload_n 0, 1) := by decide +kernel
theorem dJ3_checkIndex_8e157_5 : decode cJ3_checkIndex_8e157 5 = .ok (.iload_n 1, 1) := by decide +kernel
theorem dJ3_checkIndex_8e157_6 : decode cJ3_checkIndex_8e157 6 = .ok (.if_icmp .lt 10, 3) := by decide +kernel
theorem dJ3_checkIndex_8e157_9 : decode cJ3_checkIndex_8e157 9 = .ok (.aload_n 2, 1) := by decide +kernel
theorem dJ3_checkIndex_8e157_10 : decode cJ3_checkIndex_8e157 10 = .ok (.iload_n 0, 1) := by decide +kernel
theorem dJ3_checkIndex_8e157_11 : decode cJ3_checkIndex_8e157 11 = .ok (.iload_n 1, 1) := by decide +kernel
theorem dJ3_checkIndex_8e157_12 : decode cJ3_checkIndex_8e157 12 = .ok (.invokestatic 95, 3) := by decide +kernel
theorem dJ3_checkIndex_8e157_15 : decode cJ3_checkIndex_8e157 15 = .ok (.athrow, 1) := by decide +kernel
theorem dJ3_checkIndex_8e157_16 : decode cJ3_checkIndex_8e157 16 = .ok (.iload_n 0, 1) := by decide +kernel
theorem dJ3_checkIndex_8e157_17 : decode cJ3_checkIndex_8e157 17 = .ok (.ireturn, 1) := by decide +kernel
end
section
theorem dX6_init_0 : decode cX6_init 0 = .ok (.aload_n 0, 1) := by decide +kernel
theorem dX6_init_1 : decode cX6_init 1 = .ok (.invokespecial 3, 3) := by decide +kernel
theorem dX6_init_4 : decode cX6_init 4 = .ok (.aload_n 0, 1) := by decide +kernel
theorem dX6_init_5 : decode cX6_init 5 = .ok (.bipush 64, 2) := by decide +kernel
theorem dX6_init_7 : decode cX6_init 7 = .ok (.newarray .int, 2) := by decide +kernel
theorem dX6_init_9 : decode cX6_init 9 = .ok (.putfield 9, 3) := by decide +kernel
theorem dX6_init_12 : decode cX6_init 12 = .ok (.aload_n 0, 1) := by decide +kernel
theorem dX6_init_13 : decode cX6_init 13 = .ok (.bipush 64, 2) := by decide +kernel
theorem dX6_init_15 : decode cX6_init 15 = .ok (.newarray .int, 2) := by decide +kernel
theorem dX6_init_17 : decode cX6_init 17 = .ok (.putfield 13, 3) := by decide +kernel
theorem dX6_init_20 : decode cX6_init 20 = .ok (.aload_n 0, 1) := by decide +kernel
theorem dX6_init_21 : decode cX6_init 21 = .ok (.bipush 64, 2) := by decide +kernel
theorem dX6_init_23 : decode cX6_init 23 = .ok (.newarray .int, 2) := by decide +kernel
theorem dX6_init_25 : decode cX6_init 25 = .ok (.putfield 16, 3) := by decide +kernel
theorem dX6_init_28 : decode cX6_init 28 = .ok (.aload_n 0, 1) := by decide +kernel
theorem dX6_init_29 : decode cX6_init 29 = .ok (.bipush 7, 2) := by decide +kernel
theorem dX6_init_31 : decode cX6_init 31 = .ok (.newarray .int, 2) := by decide +kernel
theorem dX6_init_33 : decode cX6_init 33 = .ok (.putfield 19, 3) := by decide +kernel
theorem dX6_init_36 : decode cX6_init 36 = .ok (.aload_n 0, 1) := by decide +kernel
theorem dX6_init_37 : decode cX6_init 37 = .ok (.bipush 10, 2) := by decide +kernel
theorem dX6_init_39 : decode cX6_init 39 = .ok (.newarray .int, 2) := by decide +kernel
theorem dX6_init_41 : decode cX6_init 41 = .ok (.putfield 22, 3) := by decide +kernel
theorem dX6_init_44 : decode cX6_init 44 = .ok (.aload_n 0, 1) := by decide +kernel
theorem dX6_init_45 : decode cX6_init 45 = .ok (.bipush 120, 2) := by decide +kernel
theorem dX6_init_47 : decode cX6_init 47 = .ok (.newarray .int, 2) := by decide +kernel
theorem dX6_init_49 : decode cX6_init 49 = .ok (.putfield 25, 3) := by decide +kernel
theorem dX6_init_52 : decode cX6_init 52 = .ok (.aload_n 0, 1) := by decide +kernel
theorem dX6_init_53 : decode cX6_init 53 = .ok (.iconst 4, 1) := by decide +kernel
theorem dX6_init_54 : decode cX6_init 54 = .ok (.newarray .int, 2) := by decide +kernel
theorem dX6_init_56 : decode cX6_init 56 = .ok (.putfield 28, 3) := by decide +kernel
theorem dX6_init_59 : decode cX6_init 59 = .ok (.aload_n 0, 1) := by decide +kernel
theorem dX6_init_60 : decode cX6_init 60 = .ok (.iconst 4, 1) := by decide +kernel
theorem dX6_init_61 : decode cX6_init 61 = .ok (.newarray .int, 2) := by decide +kernel
theorem dX6_init_63 : decode cX6_init 63 = .ok (.putfield 31, 3) := by decide +kernel
theorem dX6_init_66 : decode cX6_init 66 = .ok (.aload_n 0, 1) := by decide +kernel
theorem dX6_init_67 : decode cX6_init 67 = .ok (.sipush 160, 3) := by decide +kernel
theorem dX6_init_70 : decode cX6_init 70 = .ok (.newarray .long, 2) := by decide +kernel
theorem dX6_init_72 : decode cX6_init 72 = .ok (.putfield 34, 3) := by decide +kernel
theorem dX6_init_75 : decode cX6_init 75 = .ok (.aload_n 0, 1) := by decide +kernel
theorem dX6_init_76 : decode cX6_init 76 = .ok (.getfield 9, 3) := by decide +kernel
theorem dX6_init_79 : decode cX6_init 79 = .ok (.iconst 1, 1) := by decide +kernel
theorem dX6_init_80 : decode cX6_init 80 = .ok (.sipush 170, 3) := by decide +kernel
theorem dX6_init_83 : decode cX6_init 83 = .ok (.iastore, 1) := by decide +kernel
theorem dX6_init_84 : decode cX6_init 84 = .ok (.return_, 1) := by decide +kernel
theorem dX6_finds_0 : decode cX6_finds 0 = .ok (.aload_n 0, 1) := by decide +kernel
theorem dX6_finds_1 : decode cX6_finds 1 = .ok (.getfield 19, 3) := by decide +kernel
theorem dX6_finds_4 : decode cX6_finds 4 = .ok (.ldc 38, 2) := by decide +kernel
theorem dX6_finds_6 : decode cX6_finds 6 = .ok (.iload_n 1, 1) := by decide +kernel
theorem dX6_finds_7 : decode cX6_finds 7 = .ok (.isub, 1) := by decide +kernel
theorem dX6_finds_8 : decode cX6_finds 8 = .ok (.dup2, 1) := by decide +kernel
theorem dX6_finds_9 : decode cX6_finds 9 = .ok (.iaload, 1) := by decide +kernel
theorem dX6_finds_10 : decode cX6_finds 10 = .ok (.iconst 1, 1) := by decide +kernel
theorem dX6_finds_11 : decode cX6_finds 11 = .ok (.iadd, 1) := by decide +kernel
theorem dX6_finds_12 : decode cX6_finds 12 = .ok (.iastore, 1) := by decide +kernel
theorem dX6_finds_13 : decode cX6_finds 13 = .ok (.iload_n 1, 1) := by decide +kernel
theorem dX6_finds_14 : decode cX6_finds 14 = .ok (.ireturn, 1) := by decide +kernel
theorem dX6_orNone_0 : decode cX6_orNone 0 = .ok (.iload_n 1, 1) := by decide +kernel
theorem dX6_orNone_1 : decode cX6_orNone 1 = .ok (.ifCond .ge 12, 3) := by decide +kernel
theorem dX6_orNone_4 : decode cX6_orNone 4 = .ok (.aload_n 0, 1) := by decide +kernel
theorem dX6_orNone_5 : decode cX6_orNone 5 = .ok (.ldc 39, 2) := by decide +kernel
theorem dX6_orNone_7 : decode cX6_orNone 7 = .ok (.invokevirtual 40, 3) := by decide +kernel
theorem dX6_orNone_10 : decode cX6_orNone 10 = .ok (.goto 4, 3) := by decide +kernel
theorem dX6_orNone_13 : decode cX6_orNone 13 = .ok (.iload_n 1, 1) := by decide +kernel
theorem dX6_orNone_14 : decode cX6_orNone 14 = .ok (.ireturn, 1) := by decide +kernel
theorem dX6_in_0 : decode cX6_in 0 = .ok (.lload_n 0, 1) := by decide +kernel
theorem dX6_in_1 : decode cX6_in 1 = .ok (.iload_n 2, 1) := by decide +kernel
theorem dX6_in_2 : decode cX6_in 2 = .ok (.i2l, 1) := by decide +kernel
theorem dX6_in_3 : decode cX6_in 3 = .ok (.lcmp, 1) := by decide +kernel
theorem dX6_in_4 : decode cX6_in 4 = .ok (.ifCond .lt 14, 3) := by decide +kernel
theorem dX6_in_7 : decode cX6_in 7 = .ok (.lload_n 0, 1) := by decide +kernel
theorem dX6_in_8 : decode cX6_in 8 = .ok (.iload_n 3, 1) := by decide +kernel
theorem dX6_in_9 : decode cX6_in 9 = .ok (.i2l, 1) := by decide +kernel
theorem dX6_in_10 : decode cX6_in 10 = .ok (.lcmp, 1) := by decide +kernel
theorem dX6_in_11 : decode cX6_in 11 = .ok (.ifCond .gt 7, 3) := by decide +kernel
theorem dX6_in_14 : decode cX6_in 14 = .ok (.iconst 1, 1) := by decide +kernel
theorem dX6_in_15 : decode cX6_in 15 = .ok (.goto 4, 3) := by decide +kernel
theorem dX6_in_18 : decode cX6_in 18 = .ok (.iconst 0, 1) := by decide +kernel
theorem dX6_in_19 : decode cX6_in 19 = .ok (.ireturn, 1) := by decide +kernel
theorem dX6_held_0 : decode cX6_held 0 = .ok (.iload_n 0, 1) := by decide +kernel
theorem dX6_held_1 : decode cX6_held 1 = .ok (.iload_n 1, 1) := by decide +kernel
theorem dX6_held_2 : decode cX6_held 2 = .ok (.if_icmp .ge 7, 3) := by decide +kernel
theorem dX6_held_5 : decode cX6_held 5 = .ok (.iload_n 1, 1) := by decide +kernel
theorem dX6_held_6 : decode cX6_held 6 = .ok (.goto 13, 3) := by decide +kernel
theorem dX6_held_9 : decode cX6_held 9 = .ok (.iload_n 0, 1) := by decide +kernel
theorem dX6_held_10 : decode cX6_held 10 = .ok (.iload_n 2, 1) := by decide +kernel
theorem dX6_held_11 : decode cX6_held 11 = .ok (.if_icmp .le 7, 3) := by decide +kernel
theorem dX6_held_14 : decode cX6_held 14 = .ok (.iload_n 2, 1) := by decide +kernel
theorem dX6_held_15 : decode cX6_held 15 = .ok (.goto 4, 3) := by decide +kernel
theorem dX6_held_18 : decode cX6_held 18 = .ok (.iload_n 0, 1) := by decide +kernel
theorem dX6_held_19 : decode cX6_held 19 = .ok (.ireturn, 1) := by decide +kernel
theorem dX6_copyAll_0 : decode cX6_copyAll 0 = .ok (.iconst 0, 1) := by decide +kernel
theorem dX6_copyAll_1 : decode cX6_copyAll 1 = .ok (.istore_n 2, 1) := by decide +kernel
theorem dX6_copyAll_2 : decode cX6_copyAll 2 = .ok (.iload_n 2, 1) := by decide +kernel
theorem dX6_copyAll_3 : decode cX6_copyAll 3 = .ok (.bipush 64, 2) := by decide +kernel
theorem dX6_copyAll_5 : decode cX6_copyAll 5 = .ok (.if_icmp .ge 15, 3) := by decide +kernel
theorem dX6_copyAll_8 : decode cX6_copyAll 8 = .ok (.aload_n 1, 1) := by decide +kernel
theorem dX6_copyAll_9 : decode cX6_copyAll 9 = .ok (.iload_n 2, 1) := by decide +kernel
theorem dX6_copyAll_10 : decode cX6_copyAll 10 = .ok (.aload_n 0, 1) := by decide +kernel
theorem dX6_copyAll_11 : decode cX6_copyAll 11 = .ok (.iload_n 2, 1) := by decide +kernel
theorem dX6_copyAll_12 : decode cX6_copyAll 12 = .ok (.iaload, 1) := by decide +kernel
theorem dX6_copyAll_13 : decode cX6_copyAll 13 = .ok (.iastore, 1) := by decide +kernel
theorem dX6_copyAll_14 : decode cX6_copyAll 14 = .ok (.iinc 2 1, 3) := by decide +kernel
theorem dX6_copyAll_17 : decode cX6_copyAll 17 = .ok (.goto (-15), 3) := by decide +kernel
theorem dX6_copyAll_20 : decode cX6_copyAll 20 = .ok (.return_, 1) := by decide +kernel
theorem dX6_bits_0 : decode cX6_bits 0 = .ok (.iconst 0, 1) := by decide +kernel
theorem dX6_bits_1 : decode cX6_bits 1 = .ok (.istore_n 1, 1) := by decide +kernel
theorem dX6_bits_2 : decode cX6_bits 2 = .ok (.iload_n 0, 1) := by decide +kernel
theorem dX6_bits_3 : decode cX6_bits 3 = .ok (.istore_n 2, 1) := by decide +kernel
theorem dX6_bits_4 : decode cX6_bits 4 = .ok (.iload_n 2, 1) := by decide +kernel
theorem dX6_bits_5 : decode cX6_bits 5 = .ok (.ifCond .eq 15, 3) := by decide +kernel
theorem dX6_bits_8 : decode cX6_bits 8 = .ok (.iinc 1 1, 3) := by decide +kernel
theorem dX6_bits_11 : decode cX6_bits 11 = .ok (.iload_n 2, 1) := by decide +kernel
theorem dX6_bits_12 : decode cX6_bits 12 = .ok (.iload_n 2, 1) := by decide +kernel
theorem dX6_bits_13 : decode cX6_bits 13 = .ok (.iconst 1, 1) := by decide +kernel
theorem dX6_bits_14 : decode cX6_bits 14 = .ok (.isub, 1) := by decide +kernel
theorem dX6_bits_15 : decode cX6_bits 15 = .ok (.iand, 1) := by decide +kernel
theorem dX6_bits_16 : decode cX6_bits 16 = .ok (.istore_n 2, 1) := by decide +kernel
theorem dX6_bits_17 : decode cX6_bits 17 = .ok (.goto (-13), 3) := by decide +kernel
theorem dX6_bits_20 : decode cX6_bits 20 = .ok (.iload_n 1, 1) := by decide +kernel
theorem dX6_bits_21 : decode cX6_bits 21 = .ok (.ireturn, 1) := by decide +kernel
theorem dX6_becomes_0 : decode cX6_becomes 0 = .ok (.aload_n 0, 1) := by decide +kernel
theorem dX6_becomes_1 : decode cX6_becomes 1 = .ok (.getfield 9, 3) := by decide +kernel
theorem dX6_becomes_4 : decode cX6_becomes 4 = .ok (.iload_n 1, 1) := by decide +kernel
theorem dX6_becomes_5 : decode cX6_becomes 5 = .ok (.iaload, 1) := by decide +kernel
theorem dX6_becomes_6 : decode cX6_becomes 6 = .ok (.istore_n 3, 1) := by decide +kernel
theorem dX6_becomes_7 : decode cX6_becomes 7 = .ok (.aload_n 0, 1) := by decide +kernel
theorem dX6_becomes_8 : decode cX6_becomes 8 = .ok (.getfield 9, 3) := by decide +kernel
theorem dX6_becomes_11 : decode cX6_becomes 11 = .ok (.iload_n 1, 1) := by decide +kernel
theorem dX6_becomes_12 : decode cX6_becomes 12 = .ok (.iload_n 2, 1) := by decide +kernel
theorem dX6_becomes_13 : decode cX6_becomes 13 = .ok (.iastore, 1) := by decide +kernel
theorem dX6_becomes_14 : decode cX6_becomes 14 = .ok (.iload_n 3, 1) := by decide +kernel
theorem dX6_becomes_15 : decode cX6_becomes 15 = .ok (.ireturn, 1) := by decide +kernel
theorem dX6_isHat_0 : decode cX6_isHat 0 = .ok (.iload_n 1, 1) := by decide +kernel
theorem dX6_isHat_1 : decode cX6_isHat 1 = .ok (.i2l, 1) := by decide +kernel
theorem dX6_isHat_2 : decode cX6_isHat 2 = .ok (.iconst 0, 1) := by decide +kernel
theorem dX6_isHat_3 : decode cX6_isHat 3 = .ok (.aload_n 0, 1) := by decide +kernel
theorem dX6_isHat_4 : decode cX6_isHat 4 = .ok (.getfield 9, 3) := by decide +kernel
theorem dX6_isHat_7 : decode cX6_isHat 7 = .ok (.iconst 3, 1) := by decide +kernel
theorem dX6_isHat_8 : decode cX6_isHat 8 = .ok (.iaload, 1) := by decide +kernel
theorem dX6_isHat_9 : decode cX6_isHat 9 = .ok (.iconst 1, 1) := by decide +kernel
theorem dX6_isHat_10 : decode cX6_isHat 10 = .ok (.isub, 1) := by decide +kernel
theorem dX6_isHat_11 : decode cX6_isHat 11 = .ok (.invokestatic 44, 3) := by decide +kernel
theorem dX6_isHat_14 : decode cX6_isHat 14 = .ok (.ireturn, 1) := by decide +kernel
theorem dX6_it_0 : decode cX6_it 0 = .ok (.aload_n 0, 1) := by decide +kernel
theorem dX6_it_1 : decode cX6_it 1 = .ok (.getfield 9, 3) := by decide +kernel
theorem dX6_it_4 : decode cX6_it 4 = .ok (.iconst 4, 1) := by decide +kernel
theorem dX6_it_5 : decode cX6_it 5 = .ok (.bipush 6, 2) := by decide +kernel
theorem dX6_it_7 : decode cX6_it 7 = .ok (.iload_n 1, 1) := by decide +kernel
theorem dX6_it_8 : decode cX6_it 8 = .ok (.imul, 1) := by decide +kernel
theorem dX6_it_9 : decode cX6_it 9 = .ok (.iadd, 1) := by decide +kernel
theorem dX6_it_10 : decode cX6_it 10 = .ok (.iload_n 2, 1) := by decide +kernel
theorem dX6_it_11 : decode cX6_it 11 = .ok (.iadd, 1) := by decide +kernel
theorem dX6_it_12 : decode cX6_it 12 = .ok (.iaload, 1) := by decide +kernel
theorem dX6_it_13 : decode cX6_it 13 = .ok (.ireturn, 1) := by decide +kernel
theorem dX6_put_0 : decode cX6_put 0 = .ok (.aload_n 0, 1) := by decide +kernel
theorem dX6_put_1 : decode cX6_put 1 = .ok (.getfield 9, 3) := by decide +kernel
theorem dX6_put_4 : decode cX6_put 4 = .ok (.iconst 4, 1) := by decide +kernel
theorem dX6_put_5 : decode cX6_put 5 = .ok (.bipush 6, 2) := by decide +kernel
theorem dX6_put_7 : decode cX6_put 7 = .ok (.iload_n 1, 1) := by decide +kernel
theorem dX6_put_8 : decode cX6_put 8 = .ok (.imul, 1) := by decide +kernel
theorem dX6_put_9 : decode cX6_put 9 = .ok (.iadd, 1) := by decide +kernel
theorem dX6_put_10 : decode cX6_put 10 = .ok (.iload_n 2, 1) := by decide +kernel
theorem dX6_put_11 : decode cX6_put 11 = .ok (.iadd, 1) := by decide +kernel
theorem dX6_put_12 : decode cX6_put 12 = .ok (.iload_n 3, 1) := by decide +kernel
theorem dX6_put_13 : decode cX6_put 13 = .ok (.iastore, 1) := by decide +kernel
theorem dX6_put_14 : decode cX6_put 14 = .ok (.return_, 1) := by decide +kernel
theorem dX6_asked_0 : decode cX6_asked 0 = .ok (.aload_n 0, 1) := by decide +kernel
theorem dX6_asked_1 : decode cX6_asked 1 = .ok (.getfield 9, 3) := by decide +kernel
theorem dX6_asked_4 : decode cX6_asked 4 = .ok (.iconst 0, 1) := by decide +kernel
theorem dX6_asked_5 : decode cX6_asked 5 = .ok (.iaload, 1) := by decide +kernel
theorem dX6_asked_6 : decode cX6_asked 6 = .ok (.bipush 8, 2) := by decide +kernel
theorem dX6_asked_8 : decode cX6_asked 8 = .ok (.irem, 1) := by decide +kernel
theorem dX6_asked_9 : decode cX6_asked 9 = .ok (.ireturn, 1) := by decide +kernel
theorem dX6_saysTo_0 : decode cX6_saysTo 0 = .ok (.aload_n 0, 1) := by decide +kernel
theorem dX6_saysTo_1 : decode cX6_saysTo 1 = .ok (.iload_n 1, 1) := by decide +kernel
theorem dX6_saysTo_2 : decode cX6_saysTo 2 = .ok (.iconst 1, 1) := by decide +kernel
theorem dX6_saysTo_3 : decode cX6_saysTo 3 = .ok (.invokevirtual 48, 3) := by decide +kernel
theorem dX6_saysTo_6 : decode cX6_saysTo 6 = .ok (.iload_n 2, 1) := by decide +kernel
theorem dX6_saysTo_7 : decode cX6_saysTo 7 = .ok (.ishr, 1) := by decide +kernel
theorem dX6_saysTo_8 : decode cX6_saysTo 8 = .ok (.iconst 1, 1) := by decide +kernel
theorem dX6_saysTo_9 : decode cX6_saysTo 9 = .ok (.iand, 1) := by decide +kernel
theorem dX6_saysTo_10 : decode cX6_saysTo 10 = .ok (.istore_n 3, 1) := by decide +kernel
theorem dX6_saysTo_11 : decode cX6_saysTo 11 = .ok (.aload_n 0, 1) := by decide +kernel
theorem dX6_saysTo_12 : decode cX6_saysTo 12 = .ok (.iload_n 1, 1) := by decide +kernel
theorem dX6_saysTo_13 : decode cX6_saysTo 13 = .ok (.iconst 3, 1) := by decide +kernel
theorem dX6_saysTo_14 : decode cX6_saysTo 14 = .ok (.invokevirtual 48, 3) := by decide +kernel
theorem dX6_saysTo_17 : decode cX6_saysTo 17 = .ok (.aload_n 0, 1) := by decide +kernel
theorem dX6_saysTo_18 : decode cX6_saysTo 18 = .ok (.iload_n 1, 1) := by decide +kernel
theorem dX6_saysTo_19 : decode cX6_saysTo 19 = .ok (.iconst 2, 1) := by decide +kernel
theorem dX6_saysTo_20 : decode cX6_saysTo 20 = .ok (.invokevirtual 48, 3) := by decide +kernel
theorem dX6_saysTo_23 : decode cX6_saysTo 23 = .ok (.if_icmp .le 9, 3) := by decide +kernel
theorem dX6_saysTo_26 : decode cX6_saysTo 26 = .ok (.iconst 1, 1) := by decide +kernel
theorem dX6_saysTo_27 : decode cX6_saysTo 27 = .ok (.iload_n 3, 1) := by decide +kernel
theorem dX6_saysTo_28 : decode cX6_saysTo 28 = .ok (.isub, 1) := by decide +kernel
theorem dX6_saysTo_29 : decode cX6_saysTo 29 = .ok (.goto 4, 3) := by decide +kernel
theorem dX6_saysTo_32 : decode cX6_saysTo 32 = .ok (.iload_n 3, 1) := by decide +kernel
theorem dX6_saysTo_33 : decode cX6_saysTo 33 = .ok (.istore 4, 2) := by decide +kernel
theorem dX6_saysTo_35 : decode cX6_saysTo 35 = .ok (.aload_n 0, 1) := by decide +kernel
theorem dX6_saysTo_36 : decode cX6_saysTo 36 = .ok (.iload_n 1, 1) := by decide +kernel
theorem dX6_saysTo_37 : decode cX6_saysTo 37 = .ok (.iconst 4, 1) := by decide +kernel
theorem dX6_saysTo_38 : decode cX6_saysTo 38 = .ok (.invokevirtual 48, 3) := by decide +kernel
theorem dX6_saysTo_41 : decode cX6_saysTo 41 = .ok (.bipush 30, 2) := by decide +kernel
theorem dX6_saysTo_43 : decode cX6_saysTo 43 = .ok (.if_icmp .ge 16, 3) := by decide +kernel
theorem dX6_saysTo_46 : decode cX6_saysTo 46 = .ok (.aload_n 0, 1) := by decide +kernel
theorem dX6_saysTo_47 : decode cX6_saysTo 47 = .ok (.getfield 9, 3) := by decide +kernel
theorem dX6_saysTo_50 : decode cX6_saysTo 50 = .ok (.iconst 2, 1) := by decide +kernel
theorem dX6_saysTo_51 : decode cX6_saysTo 51 = .ok (.iaload, 1) := by decide +kernel
theorem dX6_saysTo_52 : decode cX6_saysTo 52 = .ok (.iload_n 2, 1) := by decide +kernel
theorem dX6_saysTo_53 : decode cX6_saysTo 53 = .ok (.ishr, 1) := by decide +kernel
theorem dX6_saysTo_54 : decode cX6_saysTo 54 = .ok (.iconst 1, 1) := by decide +kernel
theorem dX6_saysTo_55 : decode cX6_saysTo 55 = .ok (.iand, 1) := by decide +kernel
theorem dX6_saysTo_56 : decode cX6_saysTo 56 = .ok (.goto 4, 3) := by decide +kernel
theorem dX6_saysTo_59 : decode cX6_saysTo 59 = .ok (.iload_n 3, 1) := by decide +kernel
theorem dX6_saysTo_60 : decode cX6_saysTo 60 = .ok (.istore 5, 2) := by decide +kernel
theorem dX6_saysTo_62 : decode cX6_saysTo 62 = .ok (.aload_n 0, 1) := by decide +kernel
theorem dX6_saysTo_63 : decode cX6_saysTo 63 = .ok (.iload_n 1, 1) := by decide +kernel
theorem dX6_saysTo_64 : decode cX6_saysTo 64 = .ok (.iconst 0, 1) := by decide +kernel
theorem dX6_saysTo_65 : decode cX6_saysTo 65 = .ok (.invokevirtual 48, 3) := by decide +kernel
theorem dX6_saysTo_68 : decode cX6_saysTo 68 = .ok (.tableswitch 96 1 5 #[36, 39, 42, 67, 83], 36) := by decide +kernel
theorem dX6_saysTo_104 : decode cX6_saysTo 104 = .ok (.iload 4, 2) := by decide +kernel
theorem dX6_saysTo_106 : decode cX6_saysTo 106 = .ok (.ireturn, 1) := by decide +kernel
theorem dX6_saysTo_107 : decode cX6_saysTo 107 = .ok (.iload 5, 2) := by decide +kernel
theorem dX6_saysTo_109 : decode cX6_saysTo 109 = .ok (.ireturn, 1) := by decide +kernel
theorem dX6_saysTo_110 : decode cX6_saysTo 110 = .ok (.aload_n 0, 1) := by decide +kernel
theorem dX6_saysTo_111 : decode cX6_saysTo 111 = .ok (.iload_n 1, 1) := by decide +kernel
theorem dX6_saysTo_112 : decode cX6_saysTo 112 = .ok (.iconst 3, 1) := by decide +kernel
theorem dX6_saysTo_113 : decode cX6_saysTo 113 = .ok (.invokevirtual 48, 3) := by decide +kernel
theorem dX6_saysTo_116 : decode cX6_saysTo 116 = .ok (.ifCond .ne 17, 3) := by decide +kernel
theorem dX6_saysTo_119 : decode cX6_saysTo 119 = .ok (.aload_n 0, 1) := by decide +kernel
theorem dX6_saysTo_120 : decode cX6_saysTo 120 = .ok (.iload_n 1, 1) := by decide +kernel
theorem dX6_saysTo_121 : decode cX6_saysTo 121 = .ok (.iconst 2, 1) := by decide +kernel
theorem dX6_saysTo_122 : decode cX6_saysTo 122 = .ok (.invokevirtual 48, 3) := by decide +kernel
theorem dX6_saysTo_125 : decode cX6_saysTo 125 = .ok (.iconst 3, 1) := by decide +kernel
theorem dX6_saysTo_126 : decode cX6_saysTo 126 = .ok (.if_icmp .ge 7, 3) := by decide +kernel
theorem dX6_saysTo_129 : decode cX6_saysTo 129 = .ok (.iconst (-1), 1) := by decide +kernel
theorem dX6_saysTo_130 : decode cX6_saysTo 130 = .ok (.goto 4, 3) := by decide +kernel
theorem dX6_saysTo_133 : decode cX6_saysTo 133 = .ok (.iload_n 3, 1) := by decide +kernel
theorem dX6_saysTo_134 : decode cX6_saysTo 134 = .ok (.ireturn, 1) := by decide +kernel
theorem dX6_saysTo_135 : decode cX6_saysTo 135 = .ok (.aload_n 0, 1) := by decide +kernel
theorem dX6_saysTo_136 : decode cX6_saysTo 136 = .ok (.iload_n 1, 1) := by decide +kernel
theorem dX6_saysTo_137 : decode cX6_saysTo 137 = .ok (.iconst 4, 1) := by decide +kernel
theorem dX6_saysTo_138 : decode cX6_saysTo 138 = .ok (.invokevirtual 48, 3) := by decide +kernel
theorem dX6_saysTo_141 : decode cX6_saysTo 141 = .ok (.ifCond .ne 7, 3) := by decide +kernel
theorem dX6_saysTo_144 : decode cX6_saysTo 144 = .ok (.iconst (-1), 1) := by decide +kernel
theorem dX6_saysTo_145 : decode cX6_saysTo 145 = .ok (.goto 5, 3) := by decide +kernel
theorem dX6_saysTo_148 : decode cX6_saysTo 148 = .ok (.iload 4, 2) := by decide +kernel
theorem dX6_saysTo_150 : decode cX6_saysTo 150 = .ok (.ireturn, 1) := by decide +kernel
theorem dX6_saysTo_151 : decode cX6_saysTo 151 = .ok (.iload_n 2, 1) := by decide +kernel
theorem dX6_saysTo_152 : decode cX6_saysTo 152 = .ok (.bipush 7, 2) := by decide +kernel
theorem dX6_saysTo_154 : decode cX6_saysTo 154 = .ok (.if_icmp .ne 7, 3) := by decide +kernel
theorem dX6_saysTo_157 : decode cX6_saysTo 157 = .ok (.iconst 1, 1) := by decide +kernel
theorem dX6_saysTo_158 : decode cX6_saysTo 158 = .ok (.goto 5, 3) := by decide +kernel
theorem dX6_saysTo_161 : decode cX6_saysTo 161 = .ok (.iload 5, 2) := by decide +kernel
theorem dX6_saysTo_163 : decode cX6_saysTo 163 = .ok (.ireturn, 1) := by decide +kernel
theorem dX6_saysTo_164 : decode cX6_saysTo 164 = .ok (.iload_n 3, 1) := by decide +kernel
theorem dX6_saysTo_165 : decode cX6_saysTo 165 = .ok (.ireturn, 1) := by decide +kernel
theorem dX6_weighs_0 : decode cX6_weighs 0 = .ok (.iconst 1, 1) := by decide +kernel
theorem dX6_weighs_1 : decode cX6_weighs 1 = .ok (.aload_n 0, 1) := by decide +kernel
theorem dX6_weighs_2 : decode cX6_weighs 2 = .ok (.iload_n 1, 1) := by decide +kernel
theorem dX6_weighs_3 : decode cX6_weighs 3 = .ok (.iconst 4, 1) := by decide +kernel
theorem dX6_weighs_4 : decode cX6_weighs 4 = .ok (.invokevirtual 48, 3) := by decide +kernel
theorem dX6_weighs_7 : decode cX6_weighs 7 = .ok (.bipush 50, 2) := by decide +kernel
theorem dX6_weighs_9 : decode cX6_weighs 9 = .ok (.idiv, 1) := by decide +kernel
theorem dX6_weighs_10 : decode cX6_weighs 10 = .ok (.iadd, 1) := by decide +kernel
theorem dX6_weighs_11 : decode cX6_weighs 11 = .ok (.istore_n 2, 1) := by decide +kernel
theorem dX6_weighs_12 : decode cX6_weighs 12 = .ok (.aload_n 0, 1) := by decide +kernel
theorem dX6_weighs_13 : decode cX6_weighs 13 = .ok (.iload_n 1, 1) := by decide +kernel
theorem dX6_weighs_14 : decode cX6_weighs 14 = .ok (.iconst 0, 1) := by decide +kernel
theorem dX6_weighs_15 : decode cX6_weighs 15 = .ok (.invokevirtual 48, 3) := by decide +kernel
theorem dX6_weighs_18 : decode cX6_weighs 18 = .ok (.tableswitch 59 1 5 #[34, 59, 36, 38, 42], 34) := by decide +kernel
theorem dX6_weighs_52 : decode cX6_weighs 52 = .ok (.iload_n 2, 1) := by decide +kernel
theorem dX6_weighs_53 : decode cX6_weighs 53 = .ok (.ireturn, 1) := by decide +kernel
theorem dX6_weighs_54 : decode cX6_weighs 54 = .ok (.iconst 3, 1) := by decide +kernel
theorem dX6_weighs_55 : decode cX6_weighs 55 = .ok (.ireturn, 1) := by decide +kernel
theorem dX6_weighs_56 : decode cX6_weighs 56 = .ok (.iconst 2, 1) := by decide +kernel
theorem dX6_weighs_57 : decode cX6_weighs 57 = .ok (.iload_n 2, 1) := by decide +kernel
theorem dX6_weighs_58 : decode cX6_weighs 58 = .ok (.imul, 1) := by decide +kernel
theorem dX6_weighs_59 : decode cX6_weighs 59 = .ok (.ireturn, 1) := by decide +kernel
theorem dX6_weighs_60 : decode cX6_weighs 60 = .ok (.aload_n 0, 1) := by decide +kernel
theorem dX6_weighs_61 : decode cX6_weighs 61 = .ok (.getfield 9, 3) := by decide +kernel
theorem dX6_weighs_64 : decode cX6_weighs 64 = .ok (.iconst 0, 1) := by decide +kernel
theorem dX6_weighs_65 : decode cX6_weighs 65 = .ok (.iaload, 1) := by decide +kernel
theorem dX6_weighs_66 : decode cX6_weighs 66 = .ok (.iconst 3, 1) := by decide +kernel
theorem dX6_weighs_67 : decode cX6_weighs 67 = .ok (.irem, 1) := by decide +kernel
theorem dX6_weighs_68 : decode cX6_weighs 68 = .ok (.ifCond .ne 7, 3) := by decide +kernel
theorem dX6_weighs_71 : decode cX6_weighs 71 = .ok (.iconst 2, 1) := by decide +kernel
theorem dX6_weighs_72 : decode cX6_weighs 72 = .ok (.goto 4, 3) := by decide +kernel
theorem dX6_weighs_75 : decode cX6_weighs 75 = .ok (.iconst 1, 1) := by decide +kernel
theorem dX6_weighs_76 : decode cX6_weighs 76 = .ok (.ireturn, 1) := by decide +kernel
theorem dX6_weighs_77 : decode cX6_weighs 77 = .ok (.iconst 1, 1) := by decide +kernel
theorem dX6_weighs_78 : decode cX6_weighs 78 = .ok (.ireturn, 1) := by decide +kernel
theorem dX6_doesLearn_0 : decode cX6_doesLearn 0 = .ok (.aload_n 0, 1) := by decide +kernel
theorem dX6_doesLearn_1 : decode cX6_doesLearn 1 = .ok (.iload_n 1, 1) := by decide +kernel
theorem dX6_doesLearn_2 : decode cX6_doesLearn 2 = .ok (.iconst 0, 1) := by decide +kernel
theorem dX6_doesLearn_3 : decode cX6_doesLearn 3 = .ok (.invokevirtual 48, 3) := by decide +kernel
theorem dX6_doesLearn_6 : decode cX6_doesLearn 6 = .ok (.tableswitch 51 1 4 #[30, 51, 32, 34], 30) := by decide +kernel
theorem dX6_doesLearn_36 : decode cX6_doesLearn 36 = .ok (.iconst 1, 1) := by decide +kernel
theorem dX6_doesLearn_37 : decode cX6_doesLearn 37 = .ok (.ireturn, 1) := by decide +kernel
theorem dX6_doesLearn_38 : decode cX6_doesLearn 38 = .ok (.iconst 0, 1) := by decide +kernel
theorem dX6_doesLearn_39 : decode cX6_doesLearn 39 = .ok (.ireturn, 1) := by decide +kernel
theorem dX6_doesLearn_40 : decode cX6_doesLearn 40 = .ok (.aload_n 0, 1) := by decide +kernel
theorem dX6_doesLearn_41 : decode cX6_doesLearn 41 = .ok (.getfield 9, 3) := by decide +kernel
theorem dX6_doesLearn_44 : decode cX6_doesLearn 44 = .ok (.iconst 0, 1) := by decide +kernel
theorem dX6_doesLearn_45 : decode cX6_doesLearn 45 = .ok (.iaload, 1) := by decide +kernel
theorem dX6_doesLearn_46 : decode cX6_doesLearn 46 = .ok (.iconst 2, 1) := by decide +kernel
theorem dX6_doesLearn_47 : decode cX6_doesLearn 47 = .ok (.irem, 1) := by decide +kernel
theorem dX6_doesLearn_48 : decode cX6_doesLearn 48 = .ok (.ifCond .ne 7, 3) := by decide +kernel
theorem dX6_doesLearn_51 : decode cX6_doesLearn 51 = .ok (.iconst 1, 1) := by decide +kernel
theorem dX6_doesLearn_52 : decode cX6_doesLearn 52 = .ok (.goto 4, 3) := by decide +kernel
theorem dX6_doesLearn_55 : decode cX6_doesLearn 55 = .ok (.iconst 0, 1) := by decide +kernel
theorem dX6_doesLearn_56 : decode cX6_doesLearn 56 = .ok (.ireturn, 1) := by decide +kernel
theorem dX6_doesLearn_57 : decode cX6_doesLearn 57 = .ok (.aload_n 0, 1) := by decide +kernel
theorem dX6_doesLearn_58 : decode cX6_doesLearn 58 = .ok (.iload_n 1, 1) := by decide +kernel
theorem dX6_doesLearn_59 : decode cX6_doesLearn 59 = .ok (.iconst 4, 1) := by decide +kernel
theorem dX6_doesLearn_60 : decode cX6_doesLearn 60 = .ok (.invokevirtual 48, 3) := by decide +kernel
theorem dX6_doesLearn_63 : decode cX6_doesLearn 63 = .ok (.bipush 50, 2) := by decide +kernel
theorem dX6_doesLearn_65 : decode cX6_doesLearn 65 = .ok (.if_icmp .lt 7, 3) := by decide +kernel
theorem dX6_doesLearn_68 : decode cX6_doesLearn 68 = .ok (.iconst 1, 1) := by decide +kernel
theorem dX6_doesLearn_69 : decode cX6_doesLearn 69 = .ok (.goto 4, 3) := by decide +kernel
theorem dX6_doesLearn_72 : decode cX6_doesLearn 72 = .ok (.iconst 0, 1) := by decide +kernel
theorem dX6_doesLearn_73 : decode cX6_doesLearn 73 = .ok (.ireturn, 1) := by decide +kernel
theorem dX6_stirs_0 : decode cX6_stirs 0 = .ok (.aload_n 0, 1) := by decide +kernel
theorem dX6_stirs_1 : decode cX6_stirs 1 = .ok (.iload_n 1, 1) := by decide +kernel
theorem dX6_stirs_2 : decode cX6_stirs 2 = .ok (.iconst 0, 1) := by decide +kernel
theorem dX6_stirs_3 : decode cX6_stirs 3 = .ok (.invokevirtual 48, 3) := by decide +kernel
theorem dX6_stirs_6 : decode cX6_stirs 6 = .ok (.tableswitch 41 1 5 #[34, 36, 39, 34, 34], 34) := by decide +kernel
theorem dX6_stirs_40 : decode cX6_stirs 40 = .ok (.iconst 3, 1) := by decide +kernel
theorem dX6_stirs_41 : decode cX6_stirs 41 = .ok (.ireturn, 1) := by decide +kernel
theorem dX6_stirs_42 : decode cX6_stirs 42 = .ok (.bipush 10, 2) := by decide +kernel
theorem dX6_stirs_44 : decode cX6_stirs 44 = .ok (.ireturn, 1) := by decide +kernel
theorem dX6_stirs_45 : decode cX6_stirs 45 = .ok (.iconst 1, 1) := by decide +kernel
theorem dX6_stirs_46 : decode cX6_stirs 46 = .ok (.ireturn, 1) := by decide +kernel
theorem dX6_stirs_47 : decode cX6_stirs 47 = .ok (.iconst 5, 1) := by decide +kernel
theorem dX6_stirs_48 : decode cX6_stirs 48 = .ok (.ireturn, 1) := by decide +kernel
theorem dX6_holds_0 : decode cX6_holds 0 = .ok (.iload_n 1, 1) := by decide +kernel
theorem dX6_holds_1 : decode cX6_holds 1 = .ok (.i2l, 1) := by decide +kernel
theorem dX6_holds_2 : decode cX6_holds 2 = .ok (.iconst 0, 1) := by decide +kernel
theorem dX6_holds_3 : decode cX6_holds 3 = .ok (.iconst 1, 1) := by decide +kernel
theorem dX6_holds_4 : decode cX6_holds 4 = .ok (.invokestatic 44, 3) := by decide +kernel
theorem dX6_holds_7 : decode cX6_holds 7 = .ok (.ifCond .eq 26, 3) := by decide +kernel
theorem dX6_holds_10 : decode cX6_holds 10 = .ok (.iload_n 2, 1) := by decide +kernel
theorem dX6_holds_11 : decode cX6_holds 11 = .ok (.i2l, 1) := by decide +kernel
theorem dX6_holds_12 : decode cX6_holds 12 = .ok (.iconst 0, 1) := by decide +kernel
theorem dX6_holds_13 : decode cX6_holds 13 = .ok (.sipush 255, 3) := by decide +kernel
theorem dX6_holds_16 : decode cX6_holds 16 = .ok (.invokestatic 44, 3) := by decide +kernel
theorem dX6_holds_19 : decode cX6_holds 19 = .ok (.ifCond .eq 14, 3) := by decide +kernel
theorem dX6_holds_22 : decode cX6_holds 22 = .ok (.aload_n 0, 1) := by decide +kernel
theorem dX6_holds_23 : decode cX6_holds 23 = .ok (.iconst 1, 1) := by decide +kernel
theorem dX6_holds_24 : decode cX6_holds 24 = .ok (.iload_n 1, 1) := by decide +kernel
theorem dX6_holds_25 : decode cX6_holds 25 = .ok (.iadd, 1) := by decide +kernel
theorem dX6_holds_26 : decode cX6_holds 26 = .ok (.iload_n 2, 1) := by decide +kernel
theorem dX6_holds_27 : decode cX6_holds 27 = .ok (.invokevirtual 52, 3) := by decide +kernel
theorem dX6_holds_30 : decode cX6_holds 30 = .ok (.goto 9, 3) := by decide +kernel
theorem dX6_holds_33 : decode cX6_holds 33 = .ok (.aload_n 0, 1) := by decide +kernel
theorem dX6_holds_34 : decode cX6_holds 34 = .ok (.ldc 38, 2) := by decide +kernel
theorem dX6_holds_36 : decode cX6_holds 36 = .ok (.invokevirtual 40, 3) := by decide +kernel
theorem dX6_holds_39 : decode cX6_holds 39 = .ok (.ireturn, 1) := by decide +kernel
theorem dX6_weight_0 : decode cX6_weight 0 = .ok (.iconst 0, 1) := by decide +kernel
theorem dX6_weight_1 : decode cX6_weight 1 = .ok (.istore_n 3, 1) := by decide +kernel
theorem dX6_weight_2 : decode cX6_weight 2 = .ok (.iconst 0, 1) := by decide +kernel
theorem dX6_weight_3 : decode cX6_weight 3 = .ok (.istore 4, 2) := by decide +kernel
theorem dX6_weight_5 : decode cX6_weight 5 = .ok (.iload 4, 2) := by decide +kernel
theorem dX6_weight_7 : decode cX6_weight 7 = .ok (.aload_n 0, 1) := by decide +kernel
theorem dX6_weight_8 : decode cX6_weight 8 = .ok (.getfield 9, 3) := by decide +kernel
theorem dX6_weight_11 : decode cX6_weight 11 = .ok (.iconst 3, 1) := by decide +kernel
theorem dX6_weight_12 : decode cX6_weight 12 = .ok (.iaload, 1) := by decide +kernel
theorem dX6_weight_13 : decode cX6_weight 13 = .ok (.if_icmp .ge 44, 3) := by decide +kernel
theorem dX6_weight_16 : decode cX6_weight 16 = .ok (.iload_n 3, 1) := by decide +kernel
theorem dX6_weight_17 : decode cX6_weight 17 = .ok (.aload_n 0, 1) := by decide +kernel
theorem dX6_weight_18 : decode cX6_weight 18 = .ok (.iload 4, 2) := by decide +kernel
theorem dX6_weight_20 : decode cX6_weight 20 = .ok (.iconst 5, 1) := by decide +kernel
theorem dX6_weight_21 : decode cX6_weight 21 = .ok (.invokevirtual 48, 3) := by decide +kernel
theorem dX6_weight_24 : decode cX6_weight 24 = .ok (.iconst 1, 1) := by decide +kernel
theorem dX6_weight_25 : decode cX6_weight 25 = .ok (.if_icmp .ne 23, 3) := by decide +kernel
theorem dX6_weight_28 : decode cX6_weight 28 = .ok (.aload_n 0, 1) := by decide +kernel
theorem dX6_weight_29 : decode cX6_weight 29 = .ok (.iload 4, 2) := by decide +kernel
theorem dX6_weight_31 : decode cX6_weight 31 = .ok (.iload_n 1, 1) := by decide +kernel
theorem dX6_weight_32 : decode cX6_weight 32 = .ok (.invokevirtual 55, 3) := by decide +kernel
theorem dX6_weight_35 : decode cX6_weight 35 = .ok (.iload_n 2, 1) := by decide +kernel
theorem dX6_weight_36 : decode cX6_weight 36 = .ok (.if_icmp .ne 12, 3) := by decide +kernel
theorem dX6_weight_39 : decode cX6_weight 39 = .ok (.aload_n 0, 1) := by decide +kernel
theorem dX6_weight_40 : decode cX6_weight 40 = .ok (.iload 4, 2) := by decide +kernel
theorem dX6_weight_42 : decode cX6_weight 42 = .ok (.invokevirtual 58, 3) := by decide +kernel
theorem dX6_weight_45 : decode cX6_weight 45 = .ok (.goto 4, 3) := by decide +kernel
theorem dX6_weight_48 : decode cX6_weight 48 = .ok (.iconst 0, 1) := by decide +kernel
theorem dX6_weight_49 : decode cX6_weight 49 = .ok (.iadd, 1) := by decide +kernel
theorem dX6_weight_50 : decode cX6_weight 50 = .ok (.istore_n 3, 1) := by decide +kernel
theorem dX6_weight_51 : decode cX6_weight 51 = .ok (.iinc 4 1, 3) := by decide +kernel
theorem dX6_weight_54 : decode cX6_weight 54 = .ok (.goto (-49), 3) := by decide +kernel
theorem dX6_weight_57 : decode cX6_weight 57 = .ok (.iload_n 3, 1) := by decide +kernel
theorem dX6_weight_58 : decode cX6_weight 58 = .ok (.ireturn, 1) := by decide +kernel
theorem dX6_onTable_0 : decode cX6_onTable 0 = .ok (.iconst 0, 1) := by decide +kernel
theorem dX6_onTable_1 : decode cX6_onTable 1 = .ok (.istore_n 1, 1) := by decide +kernel
theorem dX6_onTable_2 : decode cX6_onTable 2 = .ok (.iconst 0, 1) := by decide +kernel
theorem dX6_onTable_3 : decode cX6_onTable 3 = .ok (.istore_n 2, 1) := by decide +kernel
theorem dX6_onTable_4 : decode cX6_onTable 4 = .ok (.iload_n 2, 1) := by decide +kernel
theorem dX6_onTable_5 : decode cX6_onTable 5 = .ok (.aload_n 0, 1) := by decide +kernel
theorem dX6_onTable_6 : decode cX6_onTable 6 = .ok (.getfield 9, 3) := by decide +kernel
theorem dX6_onTable_9 : decode cX6_onTable 9 = .ok (.iconst 3, 1) := by decide +kernel
theorem dX6_onTable_10 : decode cX6_onTable 10 = .ok (.iaload, 1) := by decide +kernel
theorem dX6_onTable_11 : decode cX6_onTable 11 = .ok (.if_icmp .ge 20, 3) := by decide +kernel
theorem dX6_onTable_14 : decode cX6_onTable 14 = .ok (.iload_n 1, 1) := by decide +kernel
theorem dX6_onTable_15 : decode cX6_onTable 15 = .ok (.aload_n 0, 1) := by decide +kernel
theorem dX6_onTable_16 : decode cX6_onTable 16 = .ok (.iload_n 2, 1) := by decide +kernel
theorem dX6_onTable_17 : decode cX6_onTable 17 = .ok (.iconst 5, 1) := by decide +kernel
theorem dX6_onTable_18 : decode cX6_onTable 18 = .ok (.invokevirtual 48, 3) := by decide +kernel
theorem dX6_onTable_21 : decode cX6_onTable 21 = .ok (.iload_n 2, 1) := by decide +kernel
theorem dX6_onTable_22 : decode cX6_onTable 22 = .ok (.ishl, 1) := by decide +kernel
theorem dX6_onTable_23 : decode cX6_onTable 23 = .ok (.ior, 1) := by decide +kernel
theorem dX6_onTable_24 : decode cX6_onTable 24 = .ok (.istore_n 1, 1) := by decide +kernel
theorem dX6_onTable_25 : decode cX6_onTable 25 = .ok (.iinc 2 1, 3) := by decide +kernel
theorem dX6_onTable_28 : decode cX6_onTable 28 = .ok (.goto (-24), 3) := by decide +kernel
theorem dX6_onTable_31 : decode cX6_onTable 31 = .ok (.iload_n 1, 1) := by decide +kernel
theorem dX6_onTable_32 : decode cX6_onTable 32 = .ok (.ireturn, 1) := by decide +kernel
theorem dX6_trueOnes_0 : decode cX6_trueOnes 0 = .ok (.sipush 255, 3) := by decide +kernel
theorem dX6_trueOnes_3 : decode cX6_trueOnes 3 = .ok (.aload_n 0, 1) := by decide +kernel
theorem dX6_trueOnes_4 : decode cX6_trueOnes 4 = .ok (.getfield 9, 3) := by decide +kernel
theorem dX6_trueOnes_7 : decode cX6_trueOnes 7 = .ok (.iconst 1, 1) := by decide +kernel
theorem dX6_trueOnes_8 : decode cX6_trueOnes 8 = .ok (.iaload, 1) := by decide +kernel
theorem dX6_trueOnes_9 : decode cX6_trueOnes 9 = .ok (.aload_n 0, 1) := by decide +kernel
theorem dX6_trueOnes_10 : decode cX6_trueOnes 10 = .ok (.getfield 9, 3) := by decide +kernel
theorem dX6_trueOnes_13 : decode cX6_trueOnes 13 = .ok (.iconst 2, 1) := by decide +kernel
theorem dX6_trueOnes_14 : decode cX6_trueOnes 14 = .ok (.iaload, 1) := by decide +kernel
theorem dX6_trueOnes_15 : decode cX6_trueOnes 15 = .ok (.ixor, 1) := by decide +kernel
theorem dX6_trueOnes_16 : decode cX6_trueOnes 16 = .ok (.iconst (-1), 1) := by decide +kernel
theorem dX6_trueOnes_17 : decode cX6_trueOnes 17 = .ok (.ixor, 1) := by decide +kernel
theorem dX6_trueOnes_18 : decode cX6_trueOnes 18 = .ok (.iand, 1) := by decide +kernel
theorem dX6_trueOnes_19 : decode cX6_trueOnes 19 = .ok (.ireturn, 1) := by decide +kernel
theorem dX6_now_0 : decode cX6_now 0 = .ok (.iload_n 1, 1) := by decide +kernel
theorem dX6_now_1 : decode cX6_now 1 = .ok (.tableswitch 100 0 7 #[47, 54, 59, 59, 70, 80, 90, 95], 47) := by decide +kernel
theorem dX6_now_48 : decode cX6_now 48 = .ok (.aload_n 0, 1) := by decide +kernel
theorem dX6_now_49 : decode cX6_now 49 = .ok (.getfield 9, 3) := by decide +kernel
theorem dX6_now_52 : decode cX6_now 52 = .ok (.iconst 0, 1) := by decide +kernel
theorem dX6_now_53 : decode cX6_now 53 = .ok (.iaload, 1) := by decide +kernel
theorem dX6_now_54 : decode cX6_now 54 = .ok (.ireturn, 1) := by decide +kernel
theorem dX6_now_55 : decode cX6_now 55 = .ok (.aload_n 0, 1) := by decide +kernel
theorem dX6_now_56 : decode cX6_now 56 = .ok (.invokevirtual 61, 3) := by decide +kernel
theorem dX6_now_59 : decode cX6_now 59 = .ok (.ireturn, 1) := by decide +kernel
theorem dX6_now_60 : decode cX6_now 60 = .ok (.aload_n 0, 1) := by decide +kernel
theorem dX6_now_61 : decode cX6_now 61 = .ok (.getfield 9, 3) := by decide +kernel
theorem dX6_now_64 : decode cX6_now 64 = .ok (.iconst 1, 1) := by decide +kernel
theorem dX6_now_65 : decode cX6_now 65 = .ok (.iload_n 1, 1) := by decide +kernel
theorem dX6_now_66 : decode cX6_now 66 = .ok (.iadd, 1) := by decide +kernel
theorem dX6_now_67 : decode cX6_now 67 = .ok (.iconst 2, 1) := by decide +kernel
theorem dX6_now_68 : decode cX6_now 68 = .ok (.isub, 1) := by decide +kernel
theorem dX6_now_69 : decode cX6_now 69 = .ok (.iaload, 1) := by decide +kernel
theorem dX6_now_70 : decode cX6_now 70 = .ok (.ireturn, 1) := by decide +kernel
theorem dX6_now_71 : decode cX6_now 71 = .ok (.aload_n 0, 1) := by decide +kernel
theorem dX6_now_72 : decode cX6_now 72 = .ok (.aload_n 0, 1) := by decide +kernel
theorem dX6_now_73 : decode cX6_now 73 = .ok (.invokevirtual 61, 3) := by decide +kernel
theorem dX6_now_76 : decode cX6_now 76 = .ok (.iconst 1, 1) := by decide +kernel
theorem dX6_now_77 : decode cX6_now 77 = .ok (.invokevirtual 65, 3) := by decide +kernel
theorem dX6_now_80 : decode cX6_now 80 = .ok (.ireturn, 1) := by decide +kernel
theorem dX6_now_81 : decode cX6_now 81 = .ok (.aload_n 0, 1) := by decide +kernel
theorem dX6_now_82 : decode cX6_now 82 = .ok (.aload_n 0, 1) := by decide +kernel
theorem dX6_now_83 : decode cX6_now 83 = .ok (.invokevirtual 61, 3) := by decide +kernel
theorem dX6_now_86 : decode cX6_now 86 = .ok (.iconst 0, 1) := by decide +kernel
theorem dX6_now_87 : decode cX6_now 87 = .ok (.invokevirtual 65, 3) := by decide +kernel
theorem dX6_now_90 : decode cX6_now 90 = .ok (.ireturn, 1) := by decide +kernel
theorem dX6_now_91 : decode cX6_now 91 = .ok (.aload_n 0, 1) := by decide +kernel
theorem dX6_now_92 : decode cX6_now 92 = .ok (.invokevirtual 68, 3) := by decide +kernel
theorem dX6_now_95 : decode cX6_now 95 = .ok (.ireturn, 1) := by decide +kernel
theorem dX6_now_96 : decode cX6_now 96 = .ok (.aload_n 0, 1) := by decide +kernel
theorem dX6_now_97 : decode cX6_now 97 = .ok (.invokevirtual 71, 3) := by decide +kernel
theorem dX6_now_100 : decode cX6_now 100 = .ok (.ireturn, 1) := by decide +kernel
theorem dX6_now_101 : decode cX6_now 101 = .ok (.aload_n 0, 1) := by decide +kernel
theorem dX6_now_102 : decode cX6_now 102 = .ok (.ldc 38, 2) := by decide +kernel
theorem dX6_now_104 : decode cX6_now 104 = .ok (.invokevirtual 40, 3) := by decide +kernel
theorem dX6_now_107 : decode cX6_now 107 = .ok (.ireturn, 1) := by decide +kernel
theorem dX6_comesAs_0 : decode cX6_comesAs 0 = .ok (.aload_n 0, 1) := by decide +kernel
theorem dX6_comesAs_1 : decode cX6_comesAs 1 = .ok (.getfield 9, 3) := by decide +kernel
theorem dX6_comesAs_4 : decode cX6_comesAs 4 = .ok (.iconst 3, 1) := by decide +kernel
theorem dX6_comesAs_5 : decode cX6_comesAs 5 = .ok (.iaload, 1) := by decide +kernel
theorem dX6_comesAs_6 : decode cX6_comesAs 6 = .ok (.istore 5, 2) := by decide +kernel
theorem dX6_comesAs_8 : decode cX6_comesAs 8 = .ok (.aload_n 0, 1) := by decide +kernel
theorem dX6_comesAs_9 : decode cX6_comesAs 9 = .ok (.getfield 9, 3) := by decide +kernel
theorem dX6_comesAs_12 : decode cX6_comesAs 12 = .ok (.iconst 3, 1) := by decide +kernel
theorem dX6_comesAs_13 : decode cX6_comesAs 13 = .ok (.dup2, 1) := by decide +kernel
theorem dX6_comesAs_14 : decode cX6_comesAs 14 = .ok (.iaload, 1) := by decide +kernel
theorem dX6_comesAs_15 : decode cX6_comesAs 15 = .ok (.iconst 1, 1) := by decide +kernel
theorem dX6_comesAs_16 : decode cX6_comesAs 16 = .ok (.iadd, 1) := by decide +kernel
theorem dX6_comesAs_17 : decode cX6_comesAs 17 = .ok (.iastore, 1) := by decide +kernel
theorem dX6_comesAs_18 : decode cX6_comesAs 18 = .ok (.aload_n 0, 1) := by decide +kernel
theorem dX6_comesAs_19 : decode cX6_comesAs 19 = .ok (.iload 5, 2) := by decide +kernel
theorem dX6_comesAs_21 : decode cX6_comesAs 21 = .ok (.iconst 0, 1) := by decide +kernel
theorem dX6_comesAs_22 : decode cX6_comesAs 22 = .ok (.iload_n 1, 1) := by decide +kernel
theorem dX6_comesAs_23 : decode cX6_comesAs 23 = .ok (.invokevirtual 74, 3) := by decide +kernel
theorem dX6_comesAs_26 : decode cX6_comesAs 26 = .ok (.aload_n 0, 1) := by decide +kernel
theorem dX6_comesAs_27 : decode cX6_comesAs 27 = .ok (.iload 5, 2) := by decide +kernel
theorem dX6_comesAs_29 : decode cX6_comesAs 29 = .ok (.iconst 1, 1) := by decide +kernel
theorem dX6_comesAs_30 : decode cX6_comesAs 30 = .ok (.iload_n 2, 1) := by decide +kernel
theorem dX6_comesAs_31 : decode cX6_comesAs 31 = .ok (.invokevirtual 74, 3) := by decide +kernel
theorem dX6_comesAs_34 : decode cX6_comesAs 34 = .ok (.aload_n 0, 1) := by decide +kernel
theorem dX6_comesAs_35 : decode cX6_comesAs 35 = .ok (.iload 5, 2) := by decide +kernel
theorem dX6_comesAs_37 : decode cX6_comesAs 37 = .ok (.iconst 2, 1) := by decide +kernel
theorem dX6_comesAs_38 : decode cX6_comesAs 38 = .ok (.iconst 0, 1) := by decide +kernel
theorem dX6_comesAs_39 : decode cX6_comesAs 39 = .ok (.invokevirtual 74, 3) := by decide +kernel
theorem dX6_comesAs_42 : decode cX6_comesAs 42 = .ok (.aload_n 0, 1) := by decide +kernel
theorem dX6_comesAs_43 : decode cX6_comesAs 43 = .ok (.iload 5, 2) := by decide +kernel
theorem dX6_comesAs_45 : decode cX6_comesAs 45 = .ok (.iconst 3, 1) := by decide +kernel
theorem dX6_comesAs_46 : decode cX6_comesAs 46 = .ok (.iconst 0, 1) := by decide +kernel
theorem dX6_comesAs_47 : decode cX6_comesAs 47 = .ok (.invokevirtual 74, 3) := by decide +kernel
theorem dX6_comesAs_50 : decode cX6_comesAs 50 = .ok (.aload_n 0, 1) := by decide +kernel
theorem dX6_comesAs_51 : decode cX6_comesAs 51 = .ok (.iload 5, 2) := by decide +kernel
theorem dX6_comesAs_53 : decode cX6_comesAs 53 = .ok (.iconst 4, 1) := by decide +kernel
theorem dX6_comesAs_54 : decode cX6_comesAs 54 = .ok (.iload_n 3, 1) := by decide +kernel
theorem dX6_comesAs_55 : decode cX6_comesAs 55 = .ok (.invokevirtual 74, 3) := by decide +kernel
theorem dX6_comesAs_58 : decode cX6_comesAs 58 = .ok (.aload_n 0, 1) := by decide +kernel
theorem dX6_comesAs_59 : decode cX6_comesAs 59 = .ok (.iload 5, 2) := by decide +kernel
theorem dX6_comesAs_61 : decode cX6_comesAs 61 = .ok (.iconst 5, 1) := by decide +kernel
theorem dX6_comesAs_62 : decode cX6_comesAs 62 = .ok (.iload 4, 2) := by decide +kernel
theorem dX6_comesAs_64 : decode cX6_comesAs 64 = .ok (.invokevirtual 74, 3) := by decide +kernel
theorem dX6_comesAs_67 : decode cX6_comesAs 67 = .ok (.iload 5, 2) := by decide +kernel
theorem dX6_comesAs_69 : decode cX6_comesAs 69 = .ok (.ireturn, 1) := by decide +kernel
theorem dX6_hat_0 : decode cX6_hat 0 = .ok (.iload_n 1, 1) := by decide +kernel
theorem dX6_hat_1 : decode cX6_hat 1 = .ok (.i2l, 1) := by decide +kernel
theorem dX6_hat_2 : decode cX6_hat 2 = .ok (.iconst 0, 1) := by decide +kernel
theorem dX6_hat_3 : decode cX6_hat 3 = .ok (.iconst 5, 1) := by decide +kernel
theorem dX6_hat_4 : decode cX6_hat 4 = .ok (.invokestatic 44, 3) := by decide +kernel
theorem dX6_hat_7 : decode cX6_hat 7 = .ok (.ifCond .eq 15, 3) := by decide +kernel
theorem dX6_hat_10 : decode cX6_hat 10 = .ok (.iload_n 2, 1) := by decide +kernel
theorem dX6_hat_11 : decode cX6_hat 11 = .ok (.i2l, 1) := by decide +kernel
theorem dX6_hat_12 : decode cX6_hat 12 = .ok (.iconst 0, 1) := by decide +kernel
theorem dX6_hat_13 : decode cX6_hat 13 = .ok (.sipush 255, 3) := by decide +kernel
theorem dX6_hat_16 : decode cX6_hat 16 = .ok (.invokestatic 44, 3) := by decide +kernel
theorem dX6_hat_19 : decode cX6_hat 19 = .ok (.ifCond .ne 10, 3) := by decide +kernel
theorem dX6_hat_22 : decode cX6_hat 22 = .ok (.aload_n 0, 1) := by decide +kernel
theorem dX6_hat_23 : decode cX6_hat 23 = .ok (.ldc 38, 2) := by decide +kernel
theorem dX6_hat_25 : decode cX6_hat 25 = .ok (.invokevirtual 40, 3) := by decide +kernel
theorem dX6_hat_28 : decode cX6_hat 28 = .ok (.ireturn, 1) := by decide +kernel
theorem dX6_hat_29 : decode cX6_hat 29 = .ok (.aload_n 0, 1) := by decide +kernel
theorem dX6_hat_30 : decode cX6_hat 30 = .ok (.getfield 9, 3) := by decide +kernel
theorem dX6_hat_33 : decode cX6_hat 33 = .ok (.iconst 3, 1) := by decide +kernel
theorem dX6_hat_34 : decode cX6_hat 34 = .ok (.iaload, 1) := by decide +kernel
theorem dX6_hat_35 : decode cX6_hat 35 = .ok (.bipush 10, 2) := by decide +kernel
theorem dX6_hat_37 : decode cX6_hat 37 = .ok (.if_icmp .ne 12, 3) := by decide +kernel
theorem dX6_hat_40 : decode cX6_hat 40 = .ok (.aload_n 0, 1) := by decide +kernel
theorem dX6_hat_41 : decode cX6_hat 41 = .ok (.ldc 78, 2) := by decide +kernel
theorem dX6_hat_43 : decode cX6_hat 43 = .ok (.invokevirtual 40, 3) := by decide +kernel
theorem dX6_hat_46 : decode cX6_hat 46 = .ok (.goto 12, 3) := by decide +kernel
theorem dX6_hat_49 : decode cX6_hat 49 = .ok (.aload_n 0, 1) := by decide +kernel
theorem dX6_hat_50 : decode cX6_hat 50 = .ok (.iload_n 1, 1) := by decide +kernel
theorem dX6_hat_51 : decode cX6_hat 51 = .ok (.iload_n 2, 1) := by decide +kernel
theorem dX6_hat_52 : decode cX6_hat 52 = .ok (.bipush 50, 2) := by decide +kernel
theorem dX6_hat_54 : decode cX6_hat 54 = .ok (.iconst 1, 1) := by decide +kernel
theorem dX6_hat_55 : decode cX6_hat 55 = .ok (.invokevirtual 79, 3) := by decide +kernel
theorem dX6_hat_58 : decode cX6_hat 58 = .ok (.ireturn, 1) := by decide +kernel
theorem dX6_of_0 : decode cX6_of 0 = .ok (.aload_n 0, 1) := by decide +kernel
theorem dX6_of_1 : decode cX6_of 1 = .ok (.iload_n 1, 1) := by decide +kernel
theorem dX6_of_2 : decode cX6_of 2 = .ok (.invokevirtual 83, 3) := by decide +kernel
theorem dX6_of_5 : decode cX6_of 5 = .ok (.ifCond .eq 14, 3) := by decide +kernel
theorem dX6_of_8 : decode cX6_of 8 = .ok (.iload_n 2, 1) := by decide +kernel
theorem dX6_of_9 : decode cX6_of 9 = .ok (.i2l, 1) := by decide +kernel
theorem dX6_of_10 : decode cX6_of 10 = .ok (.iconst 0, 1) := by decide +kernel
theorem dX6_of_11 : decode cX6_of 11 = .ok (.bipush 8, 2) := by decide +kernel
theorem dX6_of_13 : decode cX6_of 13 = .ok (.invokestatic 44, 3) := by decide +kernel
theorem dX6_of_16 : decode cX6_of 16 = .ok (.ifCond .ne 10, 3) := by decide +kernel
theorem dX6_of_19 : decode cX6_of 19 = .ok (.aload_n 0, 1) := by decide +kernel
theorem dX6_of_20 : decode cX6_of 20 = .ok (.ldc 38, 2) := by decide +kernel
theorem dX6_of_22 : decode cX6_of 22 = .ok (.invokevirtual 40, 3) := by decide +kernel
theorem dX6_of_25 : decode cX6_of 25 = .ok (.ireturn, 1) := by decide +kernel
theorem dX6_of_26 : decode cX6_of 26 = .ok (.iload_n 2, 1) := by decide +kernel
theorem dX6_of_27 : decode cX6_of 27 = .ok (.tableswitch 51 6 8 #[25, 31, 45], 25) := by decide +kernel
theorem dX6_of_52 : decode cX6_of 52 = .ok (.aload_n 0, 1) := by decide +kernel
theorem dX6_of_53 : decode cX6_of 53 = .ok (.iload_n 1, 1) := by decide +kernel
theorem dX6_of_54 : decode cX6_of 54 = .ok (.invokevirtual 58, 3) := by decide +kernel
theorem dX6_of_57 : decode cX6_of 57 = .ok (.ireturn, 1) := by decide +kernel
theorem dX6_of_58 : decode cX6_of 58 = .ok (.aload_n 0, 1) := by decide +kernel
theorem dX6_of_59 : decode cX6_of 59 = .ok (.iload_n 1, 1) := by decide +kernel
theorem dX6_of_60 : decode cX6_of 60 = .ok (.invokevirtual 87, 3) := by decide +kernel
theorem dX6_of_63 : decode cX6_of 63 = .ok (.ifCond .eq 7, 3) := by decide +kernel
theorem dX6_of_66 : decode cX6_of 66 = .ok (.iconst 1, 1) := by decide +kernel
theorem dX6_of_67 : decode cX6_of 67 = .ok (.goto 4, 3) := by decide +kernel
theorem dX6_of_70 : decode cX6_of 70 = .ok (.iconst 0, 1) := by decide +kernel
theorem dX6_of_71 : decode cX6_of 71 = .ok (.ireturn, 1) := by decide +kernel
theorem dX6_of_72 : decode cX6_of 72 = .ok (.aload_n 0, 1) := by decide +kernel
theorem dX6_of_73 : decode cX6_of 73 = .ok (.iload_n 1, 1) := by decide +kernel
theorem dX6_of_74 : decode cX6_of 74 = .ok (.invokevirtual 90, 3) := by decide +kernel
theorem dX6_of_77 : decode cX6_of 77 = .ok (.ireturn, 1) := by decide +kernel
theorem dX6_of_78 : decode cX6_of 78 = .ok (.aload_n 0, 1) := by decide +kernel
theorem dX6_of_79 : decode cX6_of 79 = .ok (.iload_n 1, 1) := by decide +kernel
theorem dX6_of_80 : decode cX6_of 80 = .ok (.iload_n 2, 1) := by decide +kernel
theorem dX6_of_81 : decode cX6_of 81 = .ok (.invokevirtual 48, 3) := by decide +kernel
theorem dX6_of_84 : decode cX6_of 84 = .ok (.ireturn, 1) := by decide +kernel
theorem dX6_says_0 : decode cX6_says 0 = .ok (.aload_n 0, 1) := by decide +kernel
theorem dX6_says_1 : decode cX6_says 1 = .ok (.iload_n 1, 1) := by decide +kernel
theorem dX6_says_2 : decode cX6_says 2 = .ok (.invokevirtual 83, 3) := by decide +kernel
theorem dX6_says_5 : decode cX6_says 5 = .ok (.ifCond .eq 23, 3) := by decide +kernel
theorem dX6_says_8 : decode cX6_says 8 = .ok (.iload_n 2, 1) := by decide +kernel
theorem dX6_says_9 : decode cX6_says 9 = .ok (.i2l, 1) := by decide +kernel
theorem dX6_says_10 : decode cX6_says 10 = .ok (.iconst 0, 1) := by decide +kernel
theorem dX6_says_11 : decode cX6_says 11 = .ok (.bipush 7, 2) := by decide +kernel
theorem dX6_says_13 : decode cX6_says 13 = .ok (.invokestatic 44, 3) := by decide +kernel
theorem dX6_says_16 : decode cX6_says 16 = .ok (.ifCond .eq 12, 3) := by decide +kernel
theorem dX6_says_19 : decode cX6_says 19 = .ok (.aload_n 0, 1) := by decide +kernel
theorem dX6_says_20 : decode cX6_says 20 = .ok (.iload_n 1, 1) := by decide +kernel
theorem dX6_says_21 : decode cX6_says 21 = .ok (.iload_n 2, 1) := by decide +kernel
theorem dX6_says_22 : decode cX6_says 22 = .ok (.invokevirtual 55, 3) := by decide +kernel
theorem dX6_says_25 : decode cX6_says 25 = .ok (.goto 9, 3) := by decide +kernel
theorem dX6_says_28 : decode cX6_says 28 = .ok (.aload_n 0, 1) := by decide +kernel
theorem dX6_says_29 : decode cX6_says 29 = .ok (.ldc 38, 2) := by decide +kernel
theorem dX6_says_31 : decode cX6_says 31 = .ok (.invokevirtual 40, 3) := by decide +kernel
theorem dX6_says_34 : decode cX6_says 34 = .ok (.ireturn, 1) := by decide +kernel
theorem dX6_mostOf_0 : decode cX6_mostOf 0 = .ok (.iload_n 0, 1) := by decide +kernel
theorem dX6_mostOf_1 : decode cX6_mostOf 1 = .ok (.iconst 1, 1) := by decide +kernel
theorem dX6_mostOf_2 : decode cX6_mostOf 2 = .ok (.if_icmp .ne 9, 3) := by decide +kernel
theorem dX6_mostOf_5 : decode cX6_mostOf 5 = .ok (.sipush 255, 3) := by decide +kernel
theorem dX6_mostOf_8 : decode cX6_mostOf 8 = .ok (.goto 25, 3) := by decide +kernel
theorem dX6_mostOf_11 : decode cX6_mostOf 11 = .ok (.iload_n 0, 1) := by decide +kernel
theorem dX6_mostOf_12 : decode cX6_mostOf 12 = .ok (.iconst 4, 1) := by decide +kernel
theorem dX6_mostOf_13 : decode cX6_mostOf 13 = .ok (.if_icmp .ne 8, 3) := by decide +kernel
theorem dX6_mostOf_16 : decode cX6_mostOf 16 = .ok (.bipush 99, 2) := by decide +kernel
theorem dX6_mostOf_18 : decode cX6_mostOf 18 = .ok (.goto 15, 3) := by decide +kernel
theorem dX6_mostOf_21 : decode cX6_mostOf 21 = .ok (.iload_n 0, 1) := by decide +kernel
theorem dX6_mostOf_22 : decode cX6_mostOf 22 = .ok (.iconst 5, 1) := by decide +kernel
theorem dX6_mostOf_23 : decode cX6_mostOf 23 = .ok (.if_icmp .ne 7, 3) := by decide +kernel
theorem dX6_mostOf_26 : decode cX6_mostOf 26 = .ok (.iconst 1, 1) := by decide +kernel
theorem dX6_mostOf_27 : decode cX6_mostOf 27 = .ok (.goto 6, 3) := by decide +kernel
theorem dX6_mostOf_30 : decode cX6_mostOf 30 = .ok (.sipush 9999, 3) := by decide +kernel
theorem dX6_mostOf_33 : decode cX6_mostOf 33 = .ok (.ireturn, 1) := by decide +kernel
theorem dX6_set_0 : decode cX6_set 0 = .ok (.aload_n 0, 1) := by decide +kernel
theorem dX6_set_1 : decode cX6_set 1 = .ok (.iload_n 1, 1) := by decide +kernel
theorem dX6_set_2 : decode cX6_set 2 = .ok (.invokevirtual 83, 3) := by decide +kernel
theorem dX6_set_5 : decode cX6_set 5 = .ok (.ifCond .eq 30, 3) := by decide +kernel
theorem dX6_set_8 : decode cX6_set 8 = .ok (.iload_n 2, 1) := by decide +kernel
theorem dX6_set_9 : decode cX6_set 9 = .ok (.i2l, 1) := by decide +kernel
theorem dX6_set_10 : decode cX6_set 10 = .ok (.iconst 1, 1) := by decide +kernel
theorem dX6_set_11 : decode cX6_set 11 = .ok (.iconst 5, 1) := by decide +kernel
theorem dX6_set_12 : decode cX6_set 12 = .ok (.invokestatic 44, 3) := by decide +kernel
theorem dX6_set_15 : decode cX6_set 15 = .ok (.ifCond .eq 20, 3) := by decide +kernel
theorem dX6_set_18 : decode cX6_set 18 = .ok (.iload_n 3, 1) := by decide +kernel
theorem dX6_set_19 : decode cX6_set 19 = .ok (.i2l, 1) := by decide +kernel
theorem dX6_set_20 : decode cX6_set 20 = .ok (.iconst 0, 1) := by decide +kernel
theorem dX6_set_21 : decode cX6_set 21 = .ok (.iload_n 2, 1) := by decide +kernel
theorem dX6_set_22 : decode cX6_set 22 = .ok (.invokestatic 93, 3) := by decide +kernel
theorem dX6_set_25 : decode cX6_set 25 = .ok (.invokestatic 44, 3) := by decide +kernel
theorem dX6_set_28 : decode cX6_set 28 = .ok (.ifCond .eq 7, 3) := by decide +kernel
theorem dX6_set_31 : decode cX6_set 31 = .ok (.iconst 1, 1) := by decide +kernel
theorem dX6_set_32 : decode cX6_set 32 = .ok (.goto 4, 3) := by decide +kernel
theorem dX6_set_35 : decode cX6_set 35 = .ok (.iconst 0, 1) := by decide +kernel
theorem dX6_set_36 : decode cX6_set 36 = .ok (.istore 4, 2) := by decide +kernel
theorem dX6_set_38 : decode cX6_set 38 = .ok (.iload 4, 2) := by decide +kernel
theorem dX6_set_40 : decode cX6_set 40 = .ok (.ifCond .eq 19, 3) := by decide +kernel
theorem dX6_set_43 : decode cX6_set 43 = .ok (.aload_n 0, 1) := by decide +kernel
theorem dX6_set_44 : decode cX6_set 44 = .ok (.iconst 4, 1) := by decide +kernel
theorem dX6_set_45 : decode cX6_set 45 = .ok (.bipush 6, 2) := by decide +kernel
theorem dX6_set_47 : decode cX6_set 47 = .ok (.iload_n 1, 1) := by decide +kernel
theorem dX6_set_48 : decode cX6_set 48 = .ok (.imul, 1) := by decide +kernel
theorem dX6_set_49 : decode cX6_set 49 = .ok (.iadd, 1) := by decide +kernel
theorem dX6_set_50 : decode cX6_set 50 = .ok (.iload_n 2, 1) := by decide +kernel
theorem dX6_set_51 : decode cX6_set 51 = .ok (.iadd, 1) := by decide +kernel
theorem dX6_set_52 : decode cX6_set 52 = .ok (.iload_n 3, 1) := by decide +kernel
theorem dX6_set_53 : decode cX6_set 53 = .ok (.invokevirtual 52, 3) := by decide +kernel
theorem dX6_set_56 : decode cX6_set 56 = .ok (.goto 9, 3) := by decide +kernel
theorem dX6_set_59 : decode cX6_set 59 = .ok (.aload_n 0, 1) := by decide +kernel
theorem dX6_set_60 : decode cX6_set 60 = .ok (.ldc 38, 2) := by decide +kernel
theorem dX6_set_62 : decode cX6_set 62 = .ok (.invokevirtual 40, 3) := by decide +kernel
theorem dX6_set_65 : decode cX6_set 65 = .ok (.ireturn, 1) := by decide +kernel
theorem dX6_turn_0 : decode cX6_turn 0 = .ok (.aload_n 0, 1) := by decide +kernel
theorem dX6_turn_1 : decode cX6_turn 1 = .ok (.iload_n 1, 1) := by decide +kernel
theorem dX6_turn_2 : decode cX6_turn 2 = .ok (.invokevirtual 83, 3) := by decide +kernel
theorem dX6_turn_5 : decode cX6_turn 5 = .ok (.ifCond .eq 27, 3) := by decide +kernel
theorem dX6_turn_8 : decode cX6_turn 8 = .ok (.iload_n 2, 1) := by decide +kernel
theorem dX6_turn_9 : decode cX6_turn 9 = .ok (.i2l, 1) := by decide +kernel
theorem dX6_turn_10 : decode cX6_turn 10 = .ok (.iconst 0, 1) := by decide +kernel
theorem dX6_turn_11 : decode cX6_turn 11 = .ok (.iconst 5, 1) := by decide +kernel
theorem dX6_turn_12 : decode cX6_turn 12 = .ok (.invokestatic 44, 3) := by decide +kernel
theorem dX6_turn_15 : decode cX6_turn 15 = .ok (.ifCond .eq 17, 3) := by decide +kernel
theorem dX6_turn_18 : decode cX6_turn 18 = .ok (.aload_n 0, 1) := by decide +kernel
theorem dX6_turn_19 : decode cX6_turn 19 = .ok (.iconst 4, 1) := by decide +kernel
theorem dX6_turn_20 : decode cX6_turn 20 = .ok (.bipush 6, 2) := by decide +kernel
theorem dX6_turn_22 : decode cX6_turn 22 = .ok (.iload_n 1, 1) := by decide +kernel
theorem dX6_turn_23 : decode cX6_turn 23 = .ok (.imul, 1) := by decide +kernel
theorem dX6_turn_24 : decode cX6_turn 24 = .ok (.iadd, 1) := by decide +kernel
theorem dX6_turn_25 : decode cX6_turn 25 = .ok (.iload_n 2, 1) := by decide +kernel
theorem dX6_turn_26 : decode cX6_turn 26 = .ok (.invokevirtual 52, 3) := by decide +kernel
theorem dX6_turn_29 : decode cX6_turn 29 = .ok (.goto 9, 3) := by decide +kernel
theorem dX6_turn_32 : decode cX6_turn 32 = .ok (.aload_n 0, 1) := by decide +kernel
theorem dX6_turn_33 : decode cX6_turn 33 = .ok (.ldc 38, 2) := by decide +kernel
theorem dX6_turn_35 : decode cX6_turn 35 = .ok (.invokevirtual 40, 3) := by decide +kernel
theorem dX6_turn_38 : decode cX6_turn 38 = .ok (.ireturn, 1) := by decide +kernel
theorem dX6_as_0 : decode cX6_as 0 = .ok (.aload_n 0, 1) := by decide +kernel
theorem dX6_as_1 : decode cX6_as 1 = .ok (.iload_n 1, 1) := by decide +kernel
theorem dX6_as_2 : decode cX6_as 2 = .ok (.invokevirtual 83, 3) := by decide +kernel
theorem dX6_as_5 : decode cX6_as 5 = .ok (.ifCond .eq 13, 3) := by decide +kernel
theorem dX6_as_8 : decode cX6_as 8 = .ok (.iload_n 2, 1) := by decide +kernel
theorem dX6_as_9 : decode cX6_as 9 = .ok (.i2l, 1) := by decide +kernel
theorem dX6_as_10 : decode cX6_as 10 = .ok (.iconst 0, 1) := by decide +kernel
theorem dX6_as_11 : decode cX6_as 11 = .ok (.iconst 5, 1) := by decide +kernel
theorem dX6_as_12 : decode cX6_as 12 = .ok (.invokestatic 44, 3) := by decide +kernel
theorem dX6_as_15 : decode cX6_as 15 = .ok (.ifCond .ne 10, 3) := by decide +kernel
theorem dX6_as_18 : decode cX6_as 18 = .ok (.aload_n 0, 1) := by decide +kernel
theorem dX6_as_19 : decode cX6_as 19 = .ok (.ldc 38, 2) := by decide +kernel
theorem dX6_as_21 : decode cX6_as 21 = .ok (.invokevirtual 40, 3) := by decide +kernel
theorem dX6_as_24 : decode cX6_as 24 = .ok (.ireturn, 1) := by decide +kernel
theorem dX6_as_25 : decode cX6_as 25 = .ok (.aload_n 0, 1) := by decide +kernel
theorem dX6_as_26 : decode cX6_as 26 = .ok (.iload_n 1, 1) := by decide +kernel
theorem dX6_as_27 : decode cX6_as 27 = .ok (.iconst 0, 1) := by decide +kernel
theorem dX6_as_28 : decode cX6_as 28 = .ok (.invokevirtual 48, 3) := by decide +kernel
theorem dX6_as_31 : decode cX6_as 31 = .ok (.istore_n 3, 1) := by decide +kernel
theorem dX6_as_32 : decode cX6_as 32 = .ok (.iload_n 2, 1) := by decide +kernel
theorem dX6_as_33 : decode cX6_as 33 = .ok (.ifCond .eq 28, 3) := by decide +kernel
theorem dX6_as_36 : decode cX6_as 36 = .ok (.iload_n 2, 1) := by decide +kernel
theorem dX6_as_37 : decode cX6_as 37 = .ok (.iload_n 3, 1) := by decide +kernel
theorem dX6_as_38 : decode cX6_as 38 = .ok (.if_icmp .eq 23, 3) := by decide +kernel
theorem dX6_as_41 : decode cX6_as 41 = .ok (.iload_n 2, 1) := by decide +kernel
theorem dX6_as_42 : decode cX6_as 42 = .ok (.iconst 1, 1) := by decide +kernel
theorem dX6_as_43 : decode cX6_as 43 = .ok (.if_icmp .ne 8, 3) := by decide +kernel
theorem dX6_as_46 : decode cX6_as 46 = .ok (.iload_n 3, 1) := by decide +kernel
theorem dX6_as_47 : decode cX6_as 47 = .ok (.iconst 4, 1) := by decide +kernel
theorem dX6_as_48 : decode cX6_as 48 = .ok (.if_icmp .eq 13, 3) := by decide +kernel
theorem dX6_as_51 : decode cX6_as 51 = .ok (.iload_n 2, 1) := by decide +kernel
theorem dX6_as_52 : decode cX6_as 52 = .ok (.iconst 2, 1) := by decide +kernel
theorem dX6_as_53 : decode cX6_as 53 = .ok (.if_icmp .ne 12, 3) := by decide +kernel
theorem dX6_as_56 : decode cX6_as 56 = .ok (.iload_n 3, 1) := by decide +kernel
theorem dX6_as_57 : decode cX6_as 57 = .ok (.iconst 5, 1) := by decide +kernel
theorem dX6_as_58 : decode cX6_as 58 = .ok (.if_icmp .ne 7, 3) := by decide +kernel
theorem dX6_as_61 : decode cX6_as 61 = .ok (.iconst 1, 1) := by decide +kernel
theorem dX6_as_62 : decode cX6_as 62 = .ok (.goto 4, 3) := by decide +kernel
theorem dX6_as_65 : decode cX6_as 65 = .ok (.iconst 0, 1) := by decide +kernel
theorem dX6_as_66 : decode cX6_as 66 = .ok (.istore 4, 2) := by decide +kernel
theorem dX6_as_68 : decode cX6_as 68 = .ok (.iload 4, 2) := by decide +kernel
theorem dX6_as_70 : decode cX6_as 70 = .ok (.ifCond .eq 12, 3) := by decide +kernel
theorem dX6_as_73 : decode cX6_as 73 = .ok (.aload_n 0, 1) := by decide +kernel
theorem dX6_as_74 : decode cX6_as 74 = .ok (.iload_n 1, 1) := by decide +kernel
theorem dX6_as_75 : decode cX6_as 75 = .ok (.iconst 1, 1) := by decide +kernel
theorem dX6_as_76 : decode cX6_as 76 = .ok (.invokevirtual 48, 3) := by decide +kernel
theorem dX6_as_79 : decode cX6_as 79 = .ok (.goto 9, 3) := by decide +kernel
theorem dX6_as_82 : decode cX6_as 82 = .ok (.aload_n 0, 1) := by decide +kernel
theorem dX6_as_83 : decode cX6_as 83 = .ok (.ldc 96, 2) := by decide +kernel
theorem dX6_as_85 : decode cX6_as 85 = .ok (.invokevirtual 40, 3) := by decide +kernel
theorem dX6_as_88 : decode cX6_as 88 = .ok (.ireturn, 1) := by decide +kernel
theorem dX6_withBit_0 : decode cX6_withBit 0 = .ok (.iload_n 2, 1) := by decide +kernel
theorem dX6_withBit_1 : decode cX6_withBit 1 = .ok (.iconst 1, 1) := by decide +kernel
theorem dX6_withBit_2 : decode cX6_withBit 2 = .ok (.if_icmp .ne 11, 3) := by decide +kernel
theorem dX6_withBit_5 : decode cX6_withBit 5 = .ok (.iload_n 0, 1) := by decide +kernel
theorem dX6_withBit_6 : decode cX6_withBit 6 = .ok (.iconst 1, 1) := by decide +kernel
theorem dX6_withBit_7 : decode cX6_withBit 7 = .ok (.iload_n 1, 1) := by decide +kernel
theorem dX6_withBit_8 : decode cX6_withBit 8 = .ok (.ishl, 1) := by decide +kernel
theorem dX6_withBit_9 : decode cX6_withBit 9 = .ok (.ior, 1) := by decide +kernel
theorem dX6_withBit_10 : decode cX6_withBit 10 = .ok (.goto 10, 3) := by decide +kernel
theorem dX6_withBit_13 : decode cX6_withBit 13 = .ok (.iload_n 0, 1) := by decide +kernel
theorem dX6_withBit_14 : decode cX6_withBit 14 = .ok (.iconst 1, 1) := by decide +kernel
theorem dX6_withBit_15 : decode cX6_withBit 15 = .ok (.iload_n 1, 1) := by decide +kernel
theorem dX6_withBit_16 : decode cX6_withBit 16 = .ok (.ishl, 1) := by decide +kernel
theorem dX6_withBit_17 : decode cX6_withBit 17 = .ok (.iconst (-1), 1) := by decide +kernel
theorem dX6_withBit_18 : decode cX6_withBit 18 = .ok (.ixor, 1) := by decide +kernel
theorem dX6_withBit_19 : decode cX6_withBit 19 = .ok (.iand, 1) := by decide +kernel
theorem dX6_withBit_20 : decode cX6_withBit 20 = .ok (.ireturn, 1) := by decide +kernel
theorem dX6_isJudged_0 : decode cX6_isJudged 0 = .ok (.aload_n 0, 1) := by decide +kernel
theorem dX6_isJudged_1 : decode cX6_isJudged 1 = .ok (.getfield 22, 3) := by decide +kernel
theorem dX6_isJudged_4 : decode cX6_isJudged 4 = .ok (.iload_n 1, 1) := by decide +kernel
theorem dX6_isJudged_5 : decode cX6_isJudged 5 = .ok (.iaload, 1) := by decide +kernel
theorem dX6_isJudged_6 : decode cX6_isJudged 6 = .ok (.iload_n 3, 1) := by decide +kernel
theorem dX6_isJudged_7 : decode cX6_isJudged 7 = .ok (.if_icmp .ne 51, 3) := by decide +kernel
theorem dX6_isJudged_10 : decode cX6_isJudged 10 = .ok (.aload_n 0, 1) := by decide +kernel
theorem dX6_isJudged_11 : decode cX6_isJudged 11 = .ok (.iload_n 1, 1) := by decide +kernel
theorem dX6_isJudged_12 : decode cX6_isJudged 12 = .ok (.iconst 2, 1) := by decide +kernel
theorem dX6_isJudged_13 : decode cX6_isJudged 13 = .ok (.aload_n 0, 1) := by decide +kernel
theorem dX6_isJudged_14 : decode cX6_isJudged 14 = .ok (.iload_n 1, 1) := by decide +kernel
theorem dX6_isJudged_15 : decode cX6_isJudged 15 = .ok (.iconst 2, 1) := by decide +kernel
theorem dX6_isJudged_16 : decode cX6_isJudged 16 = .ok (.invokevirtual 48, 3) := by decide +kernel
theorem dX6_isJudged_19 : decode cX6_isJudged 19 = .ok (.iconst 1, 1) := by decide +kernel
theorem dX6_isJudged_20 : decode cX6_isJudged 20 = .ok (.iadd, 1) := by decide +kernel
theorem dX6_isJudged_21 : decode cX6_isJudged 21 = .ok (.iconst 0, 1) := by decide +kernel
theorem dX6_isJudged_22 : decode cX6_isJudged 22 = .ok (.sipush 9999, 3) := by decide +kernel
theorem dX6_isJudged_25 : decode cX6_isJudged 25 = .ok (.invokestatic 97, 3) := by decide +kernel
theorem dX6_isJudged_28 : decode cX6_isJudged 28 = .ok (.invokevirtual 74, 3) := by decide +kernel
theorem dX6_isJudged_31 : decode cX6_isJudged 31 = .ok (.aload_n 0, 1) := by decide +kernel
theorem dX6_isJudged_32 : decode cX6_isJudged 32 = .ok (.iload_n 1, 1) := by decide +kernel
theorem dX6_isJudged_33 : decode cX6_isJudged 33 = .ok (.iconst 4, 1) := by decide +kernel
theorem dX6_isJudged_34 : decode cX6_isJudged 34 = .ok (.aload_n 0, 1) := by decide +kernel
theorem dX6_isJudged_35 : decode cX6_isJudged 35 = .ok (.iload_n 1, 1) := by decide +kernel
theorem dX6_isJudged_36 : decode cX6_isJudged 36 = .ok (.iconst 4, 1) := by decide +kernel
theorem dX6_isJudged_37 : decode cX6_isJudged 37 = .ok (.invokevirtual 48, 3) := by decide +kernel
theorem dX6_isJudged_40 : decode cX6_isJudged 40 = .ok (.aload_n 0, 1) := by decide +kernel
theorem dX6_isJudged_41 : decode cX6_isJudged 41 = .ok (.iload_n 1, 1) := by decide +kernel
theorem dX6_isJudged_42 : decode cX6_isJudged 42 = .ok (.invokevirtual 90, 3) := by decide +kernel
theorem dX6_isJudged_45 : decode cX6_isJudged 45 = .ok (.iadd, 1) := by decide +kernel
theorem dX6_isJudged_46 : decode cX6_isJudged 46 = .ok (.iconst 0, 1) := by decide +kernel
theorem dX6_isJudged_47 : decode cX6_isJudged 47 = .ok (.bipush 99, 2) := by decide +kernel
theorem dX6_isJudged_49 : decode cX6_isJudged 49 = .ok (.invokestatic 97, 3) := by decide +kernel
theorem dX6_isJudged_52 : decode cX6_isJudged 52 = .ok (.invokevirtual 74, 3) := by decide +kernel
theorem dX6_isJudged_55 : decode cX6_isJudged 55 = .ok (.goto 82, 3) := by decide +kernel
theorem dX6_isJudged_58 : decode cX6_isJudged 58 = .ok (.aload_n 0, 1) := by decide +kernel
theorem dX6_isJudged_59 : decode cX6_isJudged 59 = .ok (.iload_n 1, 1) := by decide +kernel
theorem dX6_isJudged_60 : decode cX6_isJudged 60 = .ok (.iconst 1, 1) := by decide +kernel
theorem dX6_isJudged_61 : decode cX6_isJudged 61 = .ok (.aload_n 0, 1) := by decide +kernel
theorem dX6_isJudged_62 : decode cX6_isJudged 62 = .ok (.iload_n 1, 1) := by decide +kernel
theorem dX6_isJudged_63 : decode cX6_isJudged 63 = .ok (.invokevirtual 87, 3) := by decide +kernel
theorem dX6_isJudged_66 : decode cX6_isJudged 66 = .ok (.ifCond .eq 17, 3) := by decide +kernel
theorem dX6_isJudged_69 : decode cX6_isJudged 69 = .ok (.aload_n 0, 1) := by decide +kernel
theorem dX6_isJudged_70 : decode cX6_isJudged 70 = .ok (.iload_n 1, 1) := by decide +kernel
theorem dX6_isJudged_71 : decode cX6_isJudged 71 = .ok (.iconst 1, 1) := by decide +kernel
theorem dX6_isJudged_72 : decode cX6_isJudged 72 = .ok (.invokevirtual 48, 3) := by decide +kernel
theorem dX6_isJudged_75 : decode cX6_isJudged 75 = .ok (.iload_n 2, 1) := by decide +kernel
theorem dX6_isJudged_76 : decode cX6_isJudged 76 = .ok (.iload_n 3, 1) := by decide +kernel
theorem dX6_isJudged_77 : decode cX6_isJudged 77 = .ok (.invokestatic 101, 3) := by decide +kernel
theorem dX6_isJudged_80 : decode cX6_isJudged 80 = .ok (.goto 9, 3) := by decide +kernel
theorem dX6_isJudged_83 : decode cX6_isJudged 83 = .ok (.aload_n 0, 1) := by decide +kernel
theorem dX6_isJudged_84 : decode cX6_isJudged 84 = .ok (.iload_n 1, 1) := by decide +kernel
theorem dX6_isJudged_85 : decode cX6_isJudged 85 = .ok (.iconst 1, 1) := by decide +kernel
theorem dX6_isJudged_86 : decode cX6_isJudged 86 = .ok (.invokevirtual 48, 3) := by decide +kernel
theorem dX6_isJudged_89 : decode cX6_isJudged 89 = .ok (.invokevirtual 74, 3) := by decide +kernel
theorem dX6_isJudged_92 : decode cX6_isJudged 92 = .ok (.aload_n 0, 1) := by decide +kernel
theorem dX6_isJudged_93 : decode cX6_isJudged 93 = .ok (.iload_n 1, 1) := by decide +kernel
theorem dX6_isJudged_94 : decode cX6_isJudged 94 = .ok (.iconst 3, 1) := by decide +kernel
theorem dX6_isJudged_95 : decode cX6_isJudged 95 = .ok (.aload_n 0, 1) := by decide +kernel
theorem dX6_isJudged_96 : decode cX6_isJudged 96 = .ok (.iload_n 1, 1) := by decide +kernel
theorem dX6_isJudged_97 : decode cX6_isJudged 97 = .ok (.iconst 3, 1) := by decide +kernel
theorem dX6_isJudged_98 : decode cX6_isJudged 98 = .ok (.invokevirtual 48, 3) := by decide +kernel
theorem dX6_isJudged_101 : decode cX6_isJudged 101 = .ok (.iconst 1, 1) := by decide +kernel
theorem dX6_isJudged_102 : decode cX6_isJudged 102 = .ok (.iadd, 1) := by decide +kernel
theorem dX6_isJudged_103 : decode cX6_isJudged 103 = .ok (.iconst 0, 1) := by decide +kernel
theorem dX6_isJudged_104 : decode cX6_isJudged 104 = .ok (.sipush 9999, 3) := by decide +kernel
theorem dX6_isJudged_107 : decode cX6_isJudged 107 = .ok (.invokestatic 97, 3) := by decide +kernel
theorem dX6_isJudged_110 : decode cX6_isJudged 110 = .ok (.invokevirtual 74, 3) := by decide +kernel
theorem dX6_isJudged_113 : decode cX6_isJudged 113 = .ok (.aload_n 0, 1) := by decide +kernel
theorem dX6_isJudged_114 : decode cX6_isJudged 114 = .ok (.iload_n 1, 1) := by decide +kernel
theorem dX6_isJudged_115 : decode cX6_isJudged 115 = .ok (.iconst 4, 1) := by decide +kernel
theorem dX6_isJudged_116 : decode cX6_isJudged 116 = .ok (.aload_n 0, 1) := by decide +kernel
theorem dX6_isJudged_117 : decode cX6_isJudged 117 = .ok (.iload_n 1, 1) := by decide +kernel
theorem dX6_isJudged_118 : decode cX6_isJudged 118 = .ok (.iconst 4, 1) := by decide +kernel
theorem dX6_isJudged_119 : decode cX6_isJudged 119 = .ok (.invokevirtual 48, 3) := by decide +kernel
theorem dX6_isJudged_122 : decode cX6_isJudged 122 = .ok (.aload_n 0, 1) := by decide +kernel
theorem dX6_isJudged_123 : decode cX6_isJudged 123 = .ok (.iload_n 1, 1) := by decide +kernel
theorem dX6_isJudged_124 : decode cX6_isJudged 124 = .ok (.invokevirtual 90, 3) := by decide +kernel
theorem dX6_isJudged_127 : decode cX6_isJudged 127 = .ok (.isub, 1) := by decide +kernel
theorem dX6_isJudged_128 : decode cX6_isJudged 128 = .ok (.iconst 0, 1) := by decide +kernel
theorem dX6_isJudged_129 : decode cX6_isJudged 129 = .ok (.bipush 99, 2) := by decide +kernel
theorem dX6_isJudged_131 : decode cX6_isJudged 131 = .ok (.invokestatic 97, 3) := by decide +kernel
theorem dX6_isJudged_134 : decode cX6_isJudged 134 = .ok (.invokevirtual 74, 3) := by decide +kernel
theorem dX6_isJudged_137 : decode cX6_isJudged 137 = .ok (.return_, 1) := by decide +kernel
theorem dX6_goes_0 : decode cX6_goes 0 = .ok (.aload_n 0, 1) := by decide +kernel
theorem dX6_goes_1 : decode cX6_goes 1 = .ok (.invokevirtual 61, 3) := by decide +kernel
theorem dX6_goes_4 : decode cX6_goes 4 = .ok (.istore_n 1, 1) := by decide +kernel
theorem dX6_goes_5 : decode cX6_goes 5 = .ok (.aload_n 0, 1) := by decide +kernel
theorem dX6_goes_6 : decode cX6_goes 6 = .ok (.iload_n 1, 1) := by decide +kernel
theorem dX6_goes_7 : decode cX6_goes 7 = .ok (.iconst 1, 1) := by decide +kernel
theorem dX6_goes_8 : decode cX6_goes 8 = .ok (.invokevirtual 65, 3) := by decide +kernel
theorem dX6_goes_11 : decode cX6_goes 11 = .ok (.istore_n 2, 1) := by decide +kernel
theorem dX6_goes_12 : decode cX6_goes 12 = .ok (.aload_n 0, 1) := by decide +kernel
theorem dX6_goes_13 : decode cX6_goes 13 = .ok (.iload_n 1, 1) := by decide +kernel
theorem dX6_goes_14 : decode cX6_goes 14 = .ok (.iconst 0, 1) := by decide +kernel
theorem dX6_goes_15 : decode cX6_goes 15 = .ok (.invokevirtual 65, 3) := by decide +kernel
theorem dX6_goes_18 : decode cX6_goes 18 = .ok (.istore_n 3, 1) := by decide +kernel
theorem dX6_goes_19 : decode cX6_goes 19 = .ok (.iconst 0, 1) := by decide +kernel
theorem dX6_goes_20 : decode cX6_goes 20 = .ok (.istore 4, 2) := by decide +kernel
theorem dX6_goes_22 : decode cX6_goes 22 = .ok (.iload 4, 2) := by decide +kernel
theorem dX6_goes_24 : decode cX6_goes 24 = .ok (.aload_n 0, 1) := by decide +kernel
theorem dX6_goes_25 : decode cX6_goes 25 = .ok (.getfield 9, 3) := by decide +kernel
theorem dX6_goes_28 : decode cX6_goes 28 = .ok (.iconst 3, 1) := by decide +kernel
theorem dX6_goes_29 : decode cX6_goes 29 = .ok (.iaload, 1) := by decide +kernel
theorem dX6_goes_30 : decode cX6_goes 30 = .ok (.if_icmp .ge 38, 3) := by decide +kernel
theorem dX6_goes_33 : decode cX6_goes 33 = .ok (.aload_n 0, 1) := by decide +kernel
theorem dX6_goes_34 : decode cX6_goes 34 = .ok (.getfield 22, 3) := by decide +kernel
theorem dX6_goes_37 : decode cX6_goes 37 = .ok (.iload 4, 2) := by decide +kernel
theorem dX6_goes_39 : decode cX6_goes 39 = .ok (.aload_n 0, 1) := by decide +kernel
theorem dX6_goes_40 : decode cX6_goes 40 = .ok (.iload 4, 2) := by decide +kernel
theorem dX6_goes_42 : decode cX6_goes 42 = .ok (.iconst 5, 1) := by decide +kernel
theorem dX6_goes_43 : decode cX6_goes 43 = .ok (.invokevirtual 48, 3) := by decide +kernel
theorem dX6_goes_46 : decode cX6_goes 46 = .ok (.iconst 1, 1) := by decide +kernel
theorem dX6_goes_47 : decode cX6_goes 47 = .ok (.if_icmp .ne 13, 3) := by decide +kernel
theorem dX6_goes_50 : decode cX6_goes 50 = .ok (.aload_n 0, 1) := by decide +kernel
theorem dX6_goes_51 : decode cX6_goes 51 = .ok (.iload 4, 2) := by decide +kernel
theorem dX6_goes_53 : decode cX6_goes 53 = .ok (.iload_n 1, 1) := by decide +kernel
theorem dX6_goes_54 : decode cX6_goes 54 = .ok (.invokevirtual 55, 3) := by decide +kernel
theorem dX6_goes_57 : decode cX6_goes 57 = .ok (.goto 4, 3) := by decide +kernel
theorem dX6_goes_60 : decode cX6_goes 60 = .ok (.iconst (-1), 1) := by decide +kernel
theorem dX6_goes_61 : decode cX6_goes 61 = .ok (.iastore, 1) := by decide +kernel
theorem dX6_goes_62 : decode cX6_goes 62 = .ok (.iinc 4 1, 3) := by decide +kernel
theorem dX6_goes_65 : decode cX6_goes 65 = .ok (.goto (-43), 3) := by decide +kernel
theorem dX6_goes_68 : decode cX6_goes 68 = .ok (.aload_n 0, 1) := by decide +kernel
theorem dX6_goes_69 : decode cX6_goes 69 = .ok (.getfield 9, 3) := by decide +kernel
theorem dX6_goes_72 : decode cX6_goes 72 = .ok (.iconst 2, 1) := by decide +kernel
theorem dX6_goes_73 : decode cX6_goes 73 = .ok (.iload_n 2, 1) := by decide +kernel
theorem dX6_goes_74 : decode cX6_goes 74 = .ok (.iload_n 3, 1) := by decide +kernel
theorem dX6_goes_75 : decode cX6_goes 75 = .ok (.if_icmp .ne 12, 3) := by decide +kernel
theorem dX6_goes_78 : decode cX6_goes 78 = .ok (.aload_n 0, 1) := by decide +kernel
theorem dX6_goes_79 : decode cX6_goes 79 = .ok (.getfield 9, 3) := by decide +kernel
theorem dX6_goes_82 : decode cX6_goes 82 = .ok (.iconst 2, 1) := by decide +kernel
theorem dX6_goes_83 : decode cX6_goes 83 = .ok (.iaload, 1) := by decide +kernel
theorem dX6_goes_84 : decode cX6_goes 84 = .ok (.goto 23, 3) := by decide +kernel
theorem dX6_goes_87 : decode cX6_goes 87 = .ok (.aload_n 0, 1) := by decide +kernel
theorem dX6_goes_88 : decode cX6_goes 88 = .ok (.getfield 9, 3) := by decide +kernel
theorem dX6_goes_91 : decode cX6_goes 91 = .ok (.iconst 2, 1) := by decide +kernel
theorem dX6_goes_92 : decode cX6_goes 92 = .ok (.iaload, 1) := by decide +kernel
theorem dX6_goes_93 : decode cX6_goes 93 = .ok (.iload_n 1, 1) := by decide +kernel
theorem dX6_goes_94 : decode cX6_goes 94 = .ok (.iload_n 2, 1) := by decide +kernel
theorem dX6_goes_95 : decode cX6_goes 95 = .ok (.iload_n 3, 1) := by decide +kernel
theorem dX6_goes_96 : decode cX6_goes 96 = .ok (.if_icmp .le 7, 3) := by decide +kernel
theorem dX6_goes_99 : decode cX6_goes 99 = .ok (.iconst 1, 1) := by decide +kernel
theorem dX6_goes_100 : decode cX6_goes 100 = .ok (.goto 4, 3) := by decide +kernel
theorem dX6_goes_103 : decode cX6_goes 103 = .ok (.iconst 0, 1) := by decide +kernel
theorem dX6_goes_104 : decode cX6_goes 104 = .ok (.invokestatic 101, 3) := by decide +kernel
theorem dX6_goes_107 : decode cX6_goes 107 = .ok (.iastore, 1) := by decide +kernel
theorem dX6_goes_108 : decode cX6_goes 108 = .ok (.iconst 0, 1) := by decide +kernel
theorem dX6_goes_109 : decode cX6_goes 109 = .ok (.istore 4, 2) := by decide +kernel
theorem dX6_goes_111 : decode cX6_goes 111 = .ok (.iload 4, 2) := by decide +kernel
theorem dX6_goes_113 : decode cX6_goes 113 = .ok (.aload_n 0, 1) := by decide +kernel
theorem dX6_goes_114 : decode cX6_goes 114 = .ok (.getfield 9, 3) := by decide +kernel
theorem dX6_goes_117 : decode cX6_goes 117 = .ok (.iconst 3, 1) := by decide +kernel
theorem dX6_goes_118 : decode cX6_goes 118 = .ok (.iaload, 1) := by decide +kernel
theorem dX6_goes_119 : decode cX6_goes 119 = .ok (.if_icmp .ge 36, 3) := by decide +kernel
theorem dX6_goes_122 : decode cX6_goes 122 = .ok (.aload_n 0, 1) := by decide +kernel
theorem dX6_goes_123 : decode cX6_goes 123 = .ok (.getfield 22, 3) := by decide +kernel
theorem dX6_goes_126 : decode cX6_goes 126 = .ok (.iload 4, 2) := by decide +kernel
theorem dX6_goes_128 : decode cX6_goes 128 = .ok (.iaload, 1) := by decide +kernel
theorem dX6_goes_129 : decode cX6_goes 129 = .ok (.ifCond .lt 20, 3) := by decide +kernel
theorem dX6_goes_132 : decode cX6_goes 132 = .ok (.aload_n 0, 1) := by decide +kernel
theorem dX6_goes_133 : decode cX6_goes 133 = .ok (.iload 4, 2) := by decide +kernel
theorem dX6_goes_135 : decode cX6_goes 135 = .ok (.iload_n 1, 1) := by decide +kernel
theorem dX6_goes_136 : decode cX6_goes 136 = .ok (.aload_n 0, 1) := by decide +kernel
theorem dX6_goes_137 : decode cX6_goes 137 = .ok (.getfield 9, 3) := by decide +kernel
theorem dX6_goes_140 : decode cX6_goes 140 = .ok (.iconst 1, 1) := by decide +kernel
theorem dX6_goes_141 : decode cX6_goes 141 = .ok (.iaload, 1) := by decide +kernel
theorem dX6_goes_142 : decode cX6_goes 142 = .ok (.iload_n 1, 1) := by decide +kernel
theorem dX6_goes_143 : decode cX6_goes 143 = .ok (.ishr, 1) := by decide +kernel
theorem dX6_goes_144 : decode cX6_goes 144 = .ok (.iconst 1, 1) := by decide +kernel
theorem dX6_goes_145 : decode cX6_goes 145 = .ok (.iand, 1) := by decide +kernel
theorem dX6_goes_146 : decode cX6_goes 146 = .ok (.invokevirtual 104, 3) := by decide +kernel
theorem dX6_goes_149 : decode cX6_goes 149 = .ok (.iinc 4 1, 3) := by decide +kernel
theorem dX6_goes_152 : decode cX6_goes 152 = .ok (.goto (-41), 3) := by decide +kernel
theorem dX6_goes_155 : decode cX6_goes 155 = .ok (.aload_n 0, 1) := by decide +kernel
theorem dX6_goes_156 : decode cX6_goes 156 = .ok (.getfield 9, 3) := by decide +kernel
theorem dX6_goes_159 : decode cX6_goes 159 = .ok (.iconst 0, 1) := by decide +kernel
theorem dX6_goes_160 : decode cX6_goes 160 = .ok (.dup2, 1) := by decide +kernel
theorem dX6_goes_161 : decode cX6_goes 161 = .ok (.iaload, 1) := by decide +kernel
theorem dX6_goes_162 : decode cX6_goes 162 = .ok (.iconst 1, 1) := by decide +kernel
theorem dX6_goes_163 : decode cX6_goes 163 = .ok (.iadd, 1) := by decide +kernel
theorem dX6_goes_164 : decode cX6_goes 164 = .ok (.iastore, 1) := by decide +kernel
theorem dX6_goes_165 : decode cX6_goes 165 = .ok (.return_, 1) := by decide +kernel
theorem dX6_goesFor_0 : decode cX6_goesFor 0 = .ok (.iconst 0, 1) := by decide +kernel
theorem dX6_goesFor_1 : decode cX6_goesFor 1 = .ok (.istore_n 2, 1) := by decide +kernel
theorem dX6_goesFor_2 : decode cX6_goesFor 2 = .ok (.iload_n 2, 1) := by decide +kernel
theorem dX6_goesFor_3 : decode cX6_goesFor 3 = .ok (.iload_n 1, 1) := by decide +kernel
theorem dX6_goesFor_4 : decode cX6_goesFor 4 = .ok (.if_icmp .ge 13, 3) := by decide +kernel
theorem dX6_goesFor_7 : decode cX6_goesFor 7 = .ok (.aload_n 0, 1) := by decide +kernel
theorem dX6_goesFor_8 : decode cX6_goesFor 8 = .ok (.invokevirtual 107, 3) := by decide +kernel
theorem dX6_goesFor_11 : decode cX6_goesFor 11 = .ok (.iinc 2 1, 3) := by decide +kernel
theorem dX6_goesFor_14 : decode cX6_goesFor 14 = .ok (.goto (-12), 3) := by decide +kernel
theorem dX6_goesFor_17 : decode cX6_goesFor 17 = .ok (.return_, 1) := by decide +kernel
theorem dX6_sessions_0 : decode cX6_sessions 0 = .ok (.iload_n 1, 1) := by decide +kernel
theorem dX6_sessions_1 : decode cX6_sessions 1 = .ok (.i2l, 1) := by decide +kernel
theorem dX6_sessions_2 : decode cX6_sessions 2 = .ok (.iconst 1, 1) := by decide +kernel
theorem dX6_sessions_3 : decode cX6_sessions 3 = .ok (.bipush 100, 2) := by decide +kernel
theorem dX6_sessions_5 : decode cX6_sessions 5 = .ok (.invokestatic 44, 3) := by decide +kernel
theorem dX6_sessions_8 : decode cX6_sessions 8 = .ok (.ifCond .ne 10, 3) := by decide +kernel
theorem dX6_sessions_11 : decode cX6_sessions 11 = .ok (.aload_n 0, 1) := by decide +kernel
theorem dX6_sessions_12 : decode cX6_sessions 12 = .ok (.ldc 38, 2) := by decide +kernel
theorem dX6_sessions_14 : decode cX6_sessions 14 = .ok (.invokevirtual 40, 3) := by decide +kernel
theorem dX6_sessions_17 : decode cX6_sessions 17 = .ok (.ireturn, 1) := by decide +kernel
theorem dX6_sessions_18 : decode cX6_sessions 18 = .ok (.aload_n 0, 1) := by decide +kernel
theorem dX6_sessions_19 : decode cX6_sessions 19 = .ok (.getfield 9, 3) := by decide +kernel
theorem dX6_sessions_22 : decode cX6_sessions 22 = .ok (.iconst 0, 1) := by decide +kernel
theorem dX6_sessions_23 : decode cX6_sessions 23 = .ok (.iaload, 1) := by decide +kernel
theorem dX6_sessions_24 : decode cX6_sessions 24 = .ok (.iload_n 1, 1) := by decide +kernel
theorem dX6_sessions_25 : decode cX6_sessions 25 = .ok (.iadd, 1) := by decide +kernel
theorem dX6_sessions_26 : decode cX6_sessions 26 = .ok (.ldc 110, 2) := by decide +kernel
theorem dX6_sessions_28 : decode cX6_sessions 28 = .ok (.if_icmp .le 10, 3) := by decide +kernel
theorem dX6_sessions_31 : decode cX6_sessions 31 = .ok (.aload_n 0, 1) := by decide +kernel
theorem dX6_sessions_32 : decode cX6_sessions 32 = .ok (.ldc 111, 2) := by decide +kernel
theorem dX6_sessions_34 : decode cX6_sessions 34 = .ok (.invokevirtual 40, 3) := by decide +kernel
theorem dX6_sessions_37 : decode cX6_sessions 37 = .ok (.ireturn, 1) := by decide +kernel
theorem dX6_sessions_38 : decode cX6_sessions 38 = .ok (.aload_n 0, 1) := by decide +kernel
theorem dX6_sessions_39 : decode cX6_sessions 39 = .ok (.iload_n 1, 1) := by decide +kernel
theorem dX6_sessions_40 : decode cX6_sessions 40 = .ok (.invokevirtual 112, 3) := by decide +kernel
theorem dX6_sessions_43 : decode cX6_sessions 43 = .ok (.aload_n 0, 1) := by decide +kernel
theorem dX6_sessions_44 : decode cX6_sessions 44 = .ok (.getfield 9, 3) := by decide +kernel
theorem dX6_sessions_47 : decode cX6_sessions 47 = .ok (.iconst 2, 1) := by decide +kernel
theorem dX6_sessions_48 : decode cX6_sessions 48 = .ok (.iaload, 1) := by decide +kernel
theorem dX6_sessions_49 : decode cX6_sessions 49 = .ok (.ireturn, 1) := by decide +kernel
theorem dX6_thinks_0 : decode cX6_thinks 0 = .ok (.aload_n 0, 1) := by decide +kernel
theorem dX6_thinks_1 : decode cX6_thinks 1 = .ok (.getfield 9, 3) := by decide +kernel
theorem dX6_thinks_4 : decode cX6_thinks 4 = .ok (.aload_n 0, 1) := by decide +kernel
theorem dX6_thinks_5 : decode cX6_thinks 5 = .ok (.getfield 16, 3) := by decide +kernel
theorem dX6_thinks_8 : decode cX6_thinks 8 = .ok (.invokestatic 116, 3) := by decide +kernel
theorem dX6_thinks_11 : decode cX6_thinks 11 = .ok (.return_, 1) := by decide +kernel
theorem dX6_putsBack_0 : decode cX6_putsBack 0 = .ok (.aload_n 0, 1) := by decide +kernel
theorem dX6_putsBack_1 : decode cX6_putsBack 1 = .ok (.getfield 16, 3) := by decide +kernel
theorem dX6_putsBack_4 : decode cX6_putsBack 4 = .ok (.aload_n 0, 1) := by decide +kernel
theorem dX6_putsBack_5 : decode cX6_putsBack 5 = .ok (.getfield 9, 3) := by decide +kernel
theorem dX6_putsBack_8 : decode cX6_putsBack 8 = .ok (.invokestatic 116, 3) := by decide +kernel
theorem dX6_putsBack_11 : decode cX6_putsBack 11 = .ok (.return_, 1) := by decide +kernel
theorem dX6_on_0 : decode cX6_on 0 = .ok (.aload_n 0, 1) := by decide +kernel
theorem dX6_on_1 : decode cX6_on 1 = .ok (.iload_n 1, 1) := by decide +kernel
theorem dX6_on_2 : decode cX6_on 2 = .ok (.invokevirtual 83, 3) := by decide +kernel
theorem dX6_on_5 : decode cX6_on 5 = .ok (.ifCond .eq 25, 3) := by decide +kernel
theorem dX6_on_8 : decode cX6_on 8 = .ok (.iload_n 2, 1) := by decide +kernel
theorem dX6_on_9 : decode cX6_on 9 = .ok (.i2l, 1) := by decide +kernel
theorem dX6_on_10 : decode cX6_on 10 = .ok (.iconst 0, 1) := by decide +kernel
theorem dX6_on_11 : decode cX6_on 11 = .ok (.sipush 200, 3) := by decide +kernel
theorem dX6_on_14 : decode cX6_on 14 = .ok (.invokestatic 44, 3) := by decide +kernel
theorem dX6_on_17 : decode cX6_on 17 = .ok (.ifCond .eq 13, 3) := by decide +kernel
theorem dX6_on_20 : decode cX6_on 20 = .ok (.iload_n 3, 1) := by decide +kernel
theorem dX6_on_21 : decode cX6_on 21 = .ok (.i2l, 1) := by decide +kernel
theorem dX6_on_22 : decode cX6_on 22 = .ok (.iconst 0, 1) := by decide +kernel
theorem dX6_on_23 : decode cX6_on 23 = .ok (.iconst 3, 1) := by decide +kernel
theorem dX6_on_24 : decode cX6_on 24 = .ok (.invokestatic 44, 3) := by decide +kernel
theorem dX6_on_27 : decode cX6_on 27 = .ok (.ifCond .ne 10, 3) := by decide +kernel
theorem dX6_on_30 : decode cX6_on 30 = .ok (.aload_n 0, 1) := by decide +kernel
theorem dX6_on_31 : decode cX6_on 31 = .ok (.ldc 38, 2) := by decide +kernel
theorem dX6_on_33 : decode cX6_on 33 = .ok (.invokevirtual 40, 3) := by decide +kernel
theorem dX6_on_36 : decode cX6_on 36 = .ok (.ireturn, 1) := by decide +kernel
theorem dX6_on_37 : decode cX6_on 37 = .ok (.aload_n 0, 1) := by decide +kernel
theorem dX6_on_38 : decode cX6_on 38 = .ok (.invokevirtual 120, 3) := by decide +kernel
theorem dX6_on_41 : decode cX6_on 41 = .ok (.aload_n 0, 1) := by decide +kernel
theorem dX6_on_42 : decode cX6_on 42 = .ok (.iload_n 2, 1) := by decide +kernel
theorem dX6_on_43 : decode cX6_on 43 = .ok (.invokevirtual 112, 3) := by decide +kernel
theorem dX6_on_46 : decode cX6_on 46 = .ok (.aload_n 0, 1) := by decide +kernel
theorem dX6_on_47 : decode cX6_on 47 = .ok (.iload_n 1, 1) := by decide +kernel
theorem dX6_on_48 : decode cX6_on 48 = .ok (.iconst 1, 1) := by decide +kernel
theorem dX6_on_49 : decode cX6_on 49 = .ok (.iload_n 3, 1) := by decide +kernel
theorem dX6_on_50 : decode cX6_on 50 = .ok (.iadd, 1) := by decide +kernel
theorem dX6_on_51 : decode cX6_on 51 = .ok (.invokevirtual 48, 3) := by decide +kernel
theorem dX6_on_54 : decode cX6_on 54 = .ok (.istore 4, 2) := by decide +kernel
theorem dX6_on_56 : decode cX6_on 56 = .ok (.aload_n 0, 1) := by decide +kernel
theorem dX6_on_57 : decode cX6_on 57 = .ok (.invokevirtual 123, 3) := by decide +kernel
theorem dX6_on_60 : decode cX6_on 60 = .ok (.iload 4, 2) := by decide +kernel
theorem dX6_on_62 : decode cX6_on 62 = .ok (.ireturn, 1) := by decide +kernel
theorem dX6_then_0 : decode cX6_then 0 = .ok (.iload_n 1, 1) := by decide +kernel
theorem dX6_then_1 : decode cX6_then 1 = .ok (.i2l, 1) := by decide +kernel
theorem dX6_then_2 : decode cX6_then 2 = .ok (.iconst 0, 1) := by decide +kernel
theorem dX6_then_3 : decode cX6_then 3 = .ok (.sipush 200, 3) := by decide +kernel
theorem dX6_then_6 : decode cX6_then 6 = .ok (.invokestatic 44, 3) := by decide +kernel
theorem dX6_then_9 : decode cX6_then 9 = .ok (.ifCond .eq 13, 3) := by decide +kernel
theorem dX6_then_12 : decode cX6_then 12 = .ok (.iload_n 2, 1) := by decide +kernel
theorem dX6_then_13 : decode cX6_then 13 = .ok (.i2l, 1) := by decide +kernel
theorem dX6_then_14 : decode cX6_then 14 = .ok (.iconst 0, 1) := by decide +kernel
theorem dX6_then_15 : decode cX6_then 15 = .ok (.iconst 1, 1) := by decide +kernel
theorem dX6_then_16 : decode cX6_then 16 = .ok (.invokestatic 44, 3) := by decide +kernel
theorem dX6_then_19 : decode cX6_then 19 = .ok (.ifCond .ne 10, 3) := by decide +kernel
theorem dX6_then_22 : decode cX6_then 22 = .ok (.aload_n 0, 1) := by decide +kernel
theorem dX6_then_23 : decode cX6_then 23 = .ok (.ldc 38, 2) := by decide +kernel
theorem dX6_then_25 : decode cX6_then 25 = .ok (.invokevirtual 40, 3) := by decide +kernel
theorem dX6_then_28 : decode cX6_then 28 = .ok (.ireturn, 1) := by decide +kernel
theorem dX6_then_29 : decode cX6_then 29 = .ok (.aload_n 0, 1) := by decide +kernel
theorem dX6_then_30 : decode cX6_then 30 = .ok (.invokevirtual 120, 3) := by decide +kernel
theorem dX6_then_33 : decode cX6_then 33 = .ok (.aload_n 0, 1) := by decide +kernel
theorem dX6_then_34 : decode cX6_then 34 = .ok (.iload_n 1, 1) := by decide +kernel
theorem dX6_then_35 : decode cX6_then 35 = .ok (.invokevirtual 112, 3) := by decide +kernel
theorem dX6_then_38 : decode cX6_then 38 = .ok (.iload_n 2, 1) := by decide +kernel
theorem dX6_then_39 : decode cX6_then 39 = .ok (.ifCond .ne 12, 3) := by decide +kernel
theorem dX6_then_42 : decode cX6_then 42 = .ok (.aload_n 0, 1) := by decide +kernel
theorem dX6_then_43 : decode cX6_then 43 = .ok (.getfield 9, 3) := by decide +kernel
theorem dX6_then_46 : decode cX6_then 46 = .ok (.iconst 2, 1) := by decide +kernel
theorem dX6_then_47 : decode cX6_then 47 = .ok (.iaload, 1) := by decide +kernel
theorem dX6_then_48 : decode cX6_then 48 = .ok (.goto 7, 3) := by decide +kernel
theorem dX6_then_51 : decode cX6_then 51 = .ok (.aload_n 0, 1) := by decide +kernel
theorem dX6_then_52 : decode cX6_then 52 = .ok (.invokevirtual 71, 3) := by decide +kernel
theorem dX6_then_55 : decode cX6_then 55 = .ok (.istore_n 3, 1) := by decide +kernel
theorem dX6_then_56 : decode cX6_then 56 = .ok (.aload_n 0, 1) := by decide +kernel
theorem dX6_then_57 : decode cX6_then 57 = .ok (.invokevirtual 123, 3) := by decide +kernel
theorem dX6_then_60 : decode cX6_then 60 = .ok (.iload_n 3, 1) := by decide +kernel
theorem dX6_then_61 : decode cX6_then 61 = .ok (.ireturn, 1) := by decide +kernel
theorem dX6_comes_0 : decode cX6_comes 0 = .ok (.iload_n 1, 1) := by decide +kernel
theorem dX6_comes_1 : decode cX6_comes 1 = .ok (.i2l, 1) := by decide +kernel
theorem dX6_comes_2 : decode cX6_comes 2 = .ok (.iconst 0, 1) := by decide +kernel
theorem dX6_comes_3 : decode cX6_comes 3 = .ok (.bipush 7, 2) := by decide +kernel
theorem dX6_comes_5 : decode cX6_comes 5 = .ok (.invokestatic 44, 3) := by decide +kernel
theorem dX6_comes_8 : decode cX6_comes 8 = .ok (.ifCond .eq 13, 3) := by decide +kernel
theorem dX6_comes_11 : decode cX6_comes 11 = .ok (.iload_n 2, 1) := by decide +kernel
theorem dX6_comes_12 : decode cX6_comes 12 = .ok (.i2l, 1) := by decide +kernel
theorem dX6_comes_13 : decode cX6_comes 13 = .ok (.iconst 0, 1) := by decide +kernel
theorem dX6_comes_14 : decode cX6_comes 14 = .ok (.iconst 1, 1) := by decide +kernel
theorem dX6_comes_15 : decode cX6_comes 15 = .ok (.invokestatic 44, 3) := by decide +kernel
theorem dX6_comes_18 : decode cX6_comes 18 = .ok (.ifCond .ne 10, 3) := by decide +kernel
theorem dX6_comes_21 : decode cX6_comes 21 = .ok (.aload_n 0, 1) := by decide +kernel
theorem dX6_comes_22 : decode cX6_comes 22 = .ok (.ldc 38, 2) := by decide +kernel
theorem dX6_comes_24 : decode cX6_comes 24 = .ok (.invokevirtual 40, 3) := by decide +kernel
theorem dX6_comes_27 : decode cX6_comes 27 = .ok (.ireturn, 1) := by decide +kernel
theorem dX6_comes_28 : decode cX6_comes 28 = .ok (.aload_n 0, 1) := by decide +kernel
theorem dX6_comes_29 : decode cX6_comes 29 = .ok (.invokevirtual 120, 3) := by decide +kernel
theorem dX6_comes_32 : decode cX6_comes 32 = .ok (.iconst 0, 1) := by decide +kernel
theorem dX6_comes_33 : decode cX6_comes 33 = .ok (.istore_n 3, 1) := by decide +kernel
theorem dX6_comes_34 : decode cX6_comes 34 = .ok (.iload_n 3, 1) := by decide +kernel
theorem dX6_comes_35 : decode cX6_comes 35 = .ok (.sipush 200, 3) := by decide +kernel
theorem dX6_comes_38 : decode cX6_comes 38 = .ok (.if_icmp .gt 27, 3) := by decide +kernel
theorem dX6_comes_41 : decode cX6_comes 41 = .ok (.aload_n 0, 1) := by decide +kernel
theorem dX6_comes_42 : decode cX6_comes 42 = .ok (.getfield 9, 3) := by decide +kernel
theorem dX6_comes_45 : decode cX6_comes 45 = .ok (.iconst 2, 1) := by decide +kernel
theorem dX6_comes_46 : decode cX6_comes 46 = .ok (.iaload, 1) := by decide +kernel
theorem dX6_comes_47 : decode cX6_comes 47 = .ok (.iload_n 1, 1) := by decide +kernel
theorem dX6_comes_48 : decode cX6_comes 48 = .ok (.ishr, 1) := by decide +kernel
theorem dX6_comes_49 : decode cX6_comes 49 = .ok (.iconst 1, 1) := by decide +kernel
theorem dX6_comes_50 : decode cX6_comes 50 = .ok (.iand, 1) := by decide +kernel
theorem dX6_comes_51 : decode cX6_comes 51 = .ok (.iload_n 2, 1) := by decide +kernel
theorem dX6_comes_52 : decode cX6_comes 52 = .ok (.if_icmp .eq 13, 3) := by decide +kernel
theorem dX6_comes_55 : decode cX6_comes 55 = .ok (.aload_n 0, 1) := by decide +kernel
theorem dX6_comes_56 : decode cX6_comes 56 = .ok (.invokevirtual 107, 3) := by decide +kernel
theorem dX6_comes_59 : decode cX6_comes 59 = .ok (.iinc 3 1, 3) := by decide +kernel
theorem dX6_comes_62 : decode cX6_comes 62 = .ok (.goto (-28), 3) := by decide +kernel
theorem dX6_comes_65 : decode cX6_comes 65 = .ok (.aload_n 0, 1) := by decide +kernel
theorem dX6_comes_66 : decode cX6_comes 66 = .ok (.invokevirtual 123, 3) := by decide +kernel
theorem dX6_comes_69 : decode cX6_comes 69 = .ok (.iload_n 3, 1) := by decide +kernel
theorem dX6_comes_70 : decode cX6_comes 70 = .ok (.sipush 200, 3) := by decide +kernel
theorem dX6_comes_73 : decode cX6_comes 73 = .ok (.if_icmp .le 12, 3) := by decide +kernel
theorem dX6_comes_76 : decode cX6_comes 76 = .ok (.aload_n 0, 1) := by decide +kernel
theorem dX6_comes_77 : decode cX6_comes 77 = .ok (.ldc 39, 2) := by decide +kernel
theorem dX6_comes_79 : decode cX6_comes 79 = .ok (.invokevirtual 40, 3) := by decide +kernel
theorem dX6_comes_82 : decode cX6_comes 82 = .ok (.goto 4, 3) := by decide +kernel
theorem dX6_comes_85 : decode cX6_comes 85 = .ok (.iload_n 3, 1) := by decide +kernel
theorem dX6_comes_86 : decode cX6_comes 86 = .ok (.ireturn, 1) := by decide +kernel
theorem dX6_wise_0 : decode cX6_wise 0 = .ok (.aload_n 0, 1) := by decide +kernel
theorem dX6_wise_1 : decode cX6_wise 1 = .ok (.invokevirtual 120, 3) := by decide +kernel
theorem dX6_wise_4 : decode cX6_wise 4 = .ok (.iconst 0, 1) := by decide +kernel
theorem dX6_wise_5 : decode cX6_wise 5 = .ok (.istore_n 1, 1) := by decide +kernel
theorem dX6_wise_6 : decode cX6_wise 6 = .ok (.iload_n 1, 1) := by decide +kernel
theorem dX6_wise_7 : decode cX6_wise 7 = .ok (.sipush 200, 3) := by decide +kernel
theorem dX6_wise_10 : decode cX6_wise 10 = .ok (.if_icmp .gt 23, 3) := by decide +kernel
theorem dX6_wise_13 : decode cX6_wise 13 = .ok (.aload_n 0, 1) := by decide +kernel
theorem dX6_wise_14 : decode cX6_wise 14 = .ok (.invokevirtual 71, 3) := by decide +kernel
theorem dX6_wise_17 : decode cX6_wise 17 = .ok (.sipush 255, 3) := by decide +kernel
theorem dX6_wise_20 : decode cX6_wise 20 = .ok (.if_icmp .eq 13, 3) := by decide +kernel
theorem dX6_wise_23 : decode cX6_wise 23 = .ok (.aload_n 0, 1) := by decide +kernel
theorem dX6_wise_24 : decode cX6_wise 24 = .ok (.invokevirtual 107, 3) := by decide +kernel
theorem dX6_wise_27 : decode cX6_wise 27 = .ok (.iinc 1 1, 3) := by decide +kernel
theorem dX6_wise_30 : decode cX6_wise 30 = .ok (.goto (-24), 3) := by decide +kernel
theorem dX6_wise_33 : decode cX6_wise 33 = .ok (.aload_n 0, 1) := by decide +kernel
theorem dX6_wise_34 : decode cX6_wise 34 = .ok (.invokevirtual 123, 3) := by decide +kernel
theorem dX6_wise_37 : decode cX6_wise 37 = .ok (.iload_n 1, 1) := by decide +kernel
theorem dX6_wise_38 : decode cX6_wise 38 = .ok (.sipush 200, 3) := by decide +kernel
theorem dX6_wise_41 : decode cX6_wise 41 = .ok (.if_icmp .le 12, 3) := by decide +kernel
theorem dX6_wise_44 : decode cX6_wise 44 = .ok (.aload_n 0, 1) := by decide +kernel
theorem dX6_wise_45 : decode cX6_wise 45 = .ok (.ldc 39, 2) := by decide +kernel
theorem dX6_wise_47 : decode cX6_wise 47 = .ok (.invokevirtual 40, 3) := by decide +kernel
theorem dX6_wise_50 : decode cX6_wise 50 = .ok (.goto 4, 3) := by decide +kernel
theorem dX6_wise_53 : decode cX6_wise 53 = .ok (.iload_n 1, 1) := by decide +kernel
theorem dX6_wise_54 : decode cX6_wise 54 = .ok (.ireturn, 1) := by decide +kernel
theorem dX6_errs_0 : decode cX6_errs 0 = .ok (.aload_n 0, 1) := by decide +kernel
theorem dX6_errs_1 : decode cX6_errs 1 = .ok (.iload_n 1, 1) := by decide +kernel
theorem dX6_errs_2 : decode cX6_errs 2 = .ok (.invokevirtual 83, 3) := by decide +kernel
theorem dX6_errs_5 : decode cX6_errs 5 = .ok (.ifCond .ne 10, 3) := by decide +kernel
theorem dX6_errs_8 : decode cX6_errs 8 = .ok (.aload_n 0, 1) := by decide +kernel
theorem dX6_errs_9 : decode cX6_errs 9 = .ok (.ldc 38, 2) := by decide +kernel
theorem dX6_errs_11 : decode cX6_errs 11 = .ok (.invokevirtual 40, 3) := by decide +kernel
theorem dX6_errs_14 : decode cX6_errs 14 = .ok (.ireturn, 1) := by decide +kernel
theorem dX6_errs_15 : decode cX6_errs 15 = .ok (.aload_n 0, 1) := by decide +kernel
theorem dX6_errs_16 : decode cX6_errs 16 = .ok (.invokevirtual 120, 3) := by decide +kernel
theorem dX6_errs_19 : decode cX6_errs 19 = .ok (.aload_n 0, 1) := by decide +kernel
theorem dX6_errs_20 : decode cX6_errs 20 = .ok (.iload_n 1, 1) := by decide +kernel
theorem dX6_errs_21 : decode cX6_errs 21 = .ok (.iconst 3, 1) := by decide +kernel
theorem dX6_errs_22 : decode cX6_errs 22 = .ok (.invokevirtual 48, 3) := by decide +kernel
theorem dX6_errs_25 : decode cX6_errs 25 = .ok (.istore_n 2, 1) := by decide +kernel
theorem dX6_errs_26 : decode cX6_errs 26 = .ok (.iconst 1, 1) := by decide +kernel
theorem dX6_errs_27 : decode cX6_errs 27 = .ok (.istore_n 3, 1) := by decide +kernel
theorem dX6_errs_28 : decode cX6_errs 28 = .ok (.aload_n 0, 1) := by decide +kernel
theorem dX6_errs_29 : decode cX6_errs 29 = .ok (.invokevirtual 107, 3) := by decide +kernel
theorem dX6_errs_32 : decode cX6_errs 32 = .ok (.iload_n 3, 1) := by decide +kernel
theorem dX6_errs_33 : decode cX6_errs 33 = .ok (.sipush 200, 3) := by decide +kernel
theorem dX6_errs_36 : decode cX6_errs 36 = .ok (.if_icmp .gt 23, 3) := by decide +kernel
theorem dX6_errs_39 : decode cX6_errs 39 = .ok (.aload_n 0, 1) := by decide +kernel
theorem dX6_errs_40 : decode cX6_errs 40 = .ok (.iload_n 1, 1) := by decide +kernel
theorem dX6_errs_41 : decode cX6_errs 41 = .ok (.iconst 3, 1) := by decide +kernel
theorem dX6_errs_42 : decode cX6_errs 42 = .ok (.invokevirtual 48, 3) := by decide +kernel
theorem dX6_errs_45 : decode cX6_errs 45 = .ok (.iload_n 2, 1) := by decide +kernel
theorem dX6_errs_46 : decode cX6_errs 46 = .ok (.if_icmp .ne 13, 3) := by decide +kernel
theorem dX6_errs_49 : decode cX6_errs 49 = .ok (.aload_n 0, 1) := by decide +kernel
theorem dX6_errs_50 : decode cX6_errs 50 = .ok (.invokevirtual 107, 3) := by decide +kernel
theorem dX6_errs_53 : decode cX6_errs 53 = .ok (.iinc 3 1, 3) := by decide +kernel
theorem dX6_errs_56 : decode cX6_errs 56 = .ok (.goto (-24), 3) := by decide +kernel
theorem dX6_errs_59 : decode cX6_errs 59 = .ok (.aload_n 0, 1) := by decide +kernel
theorem dX6_errs_60 : decode cX6_errs 60 = .ok (.invokevirtual 123, 3) := by decide +kernel
theorem dX6_errs_63 : decode cX6_errs 63 = .ok (.iload_n 3, 1) := by decide +kernel
theorem dX6_errs_64 : decode cX6_errs 64 = .ok (.sipush 200, 3) := by decide +kernel
theorem dX6_errs_67 : decode cX6_errs 67 = .ok (.if_icmp .le 12, 3) := by decide +kernel
theorem dX6_errs_70 : decode cX6_errs 70 = .ok (.aload_n 0, 1) := by decide +kernel
theorem dX6_errs_71 : decode cX6_errs 71 = .ok (.ldc 39, 2) := by decide +kernel
theorem dX6_errs_73 : decode cX6_errs 73 = .ok (.invokevirtual 40, 3) := by decide +kernel
theorem dX6_errs_76 : decode cX6_errs 76 = .ok (.goto 4, 3) := by decide +kernel
theorem dX6_errs_79 : decode cX6_errs 79 = .ok (.iload_n 3, 1) := by decide +kernel
theorem dX6_errs_80 : decode cX6_errs 80 = .ok (.ireturn, 1) := by decide +kernel
theorem dX6_wiseOn_0 : decode cX6_wiseOn 0 = .ok (.aload_n 0, 1) := by decide +kernel
theorem dX6_wiseOn_1 : decode cX6_wiseOn 1 = .ok (.iload_n 1, 1) := by decide +kernel
theorem dX6_wiseOn_2 : decode cX6_wiseOn 2 = .ok (.invokevirtual 112, 3) := by decide +kernel
theorem dX6_wiseOn_5 : decode cX6_wiseOn 5 = .ok (.aload_n 0, 1) := by decide +kernel
theorem dX6_wiseOn_6 : decode cX6_wiseOn 6 = .ok (.invokevirtual 71, 3) := by decide +kernel
theorem dX6_wiseOn_9 : decode cX6_wiseOn 9 = .ok (.invokestatic 126, 3) := by decide +kernel
theorem dX6_wiseOn_12 : decode cX6_wiseOn 12 = .ok (.istore_n 2, 1) := by decide +kernel
theorem dX6_wiseOn_13 : decode cX6_wiseOn 13 = .ok (.aload_n 0, 1) := by decide +kernel
theorem dX6_wiseOn_14 : decode cX6_wiseOn 14 = .ok (.invokevirtual 123, 3) := by decide +kernel
theorem dX6_wiseOn_17 : decode cX6_wiseOn 17 = .ok (.iload_n 2, 1) := by decide +kernel
theorem dX6_wiseOn_18 : decode cX6_wiseOn 18 = .ok (.ireturn, 1) := by decide +kernel
theorem dX6_rightOn_0 : decode cX6_rightOn 0 = .ok (.aload_n 0, 1) := by decide +kernel
theorem dX6_rightOn_1 : decode cX6_rightOn 1 = .ok (.iload_n 2, 1) := by decide +kernel
theorem dX6_rightOn_2 : decode cX6_rightOn 2 = .ok (.invokevirtual 112, 3) := by decide +kernel
theorem dX6_rightOn_5 : decode cX6_rightOn 5 = .ok (.aload_n 0, 1) := by decide +kernel
theorem dX6_rightOn_6 : decode cX6_rightOn 6 = .ok (.iload_n 1, 1) := by decide +kernel
theorem dX6_rightOn_7 : decode cX6_rightOn 7 = .ok (.iconst 2, 1) := by decide +kernel
theorem dX6_rightOn_8 : decode cX6_rightOn 8 = .ok (.invokevirtual 48, 3) := by decide +kernel
theorem dX6_rightOn_11 : decode cX6_rightOn 11 = .ok (.istore_n 3, 1) := by decide +kernel
theorem dX6_rightOn_12 : decode cX6_rightOn 12 = .ok (.aload_n 0, 1) := by decide +kernel
theorem dX6_rightOn_13 : decode cX6_rightOn 13 = .ok (.invokevirtual 123, 3) := by decide +kernel
theorem dX6_rightOn_16 : decode cX6_rightOn 16 = .ok (.iload_n 3, 1) := by decide +kernel
theorem dX6_rightOn_17 : decode cX6_rightOn 17 = .ok (.ireturn, 1) := by decide +kernel
theorem dX6_lift_0 : decode cX6_lift 0 = .ok (.iload_n 1, 1) := by decide +kernel
theorem dX6_lift_1 : decode cX6_lift 1 = .ok (.i2l, 1) := by decide +kernel
theorem dX6_lift_2 : decode cX6_lift 2 = .ok (.iconst 1, 1) := by decide +kernel
theorem dX6_lift_3 : decode cX6_lift 3 = .ok (.bipush 60, 2) := by decide +kernel
theorem dX6_lift_5 : decode cX6_lift 5 = .ok (.invokestatic 44, 3) := by decide +kernel
theorem dX6_lift_8 : decode cX6_lift 8 = .ok (.ifCond .ne 10, 3) := by decide +kernel
theorem dX6_lift_11 : decode cX6_lift 11 = .ok (.aload_n 0, 1) := by decide +kernel
theorem dX6_lift_12 : decode cX6_lift 12 = .ok (.ldc 38, 2) := by decide +kernel
theorem dX6_lift_14 : decode cX6_lift 14 = .ok (.invokevirtual 40, 3) := by decide +kernel
theorem dX6_lift_17 : decode cX6_lift 17 = .ok (.ireturn, 1) := by decide +kernel
theorem dX6_lift_18 : decode cX6_lift 18 = .ok (.aload_n 0, 1) := by decide +kernel
theorem dX6_lift_19 : decode cX6_lift 19 = .ok (.invokevirtual 120, 3) := by decide +kernel
theorem dX6_lift_22 : decode cX6_lift 22 = .ok (.iconst (-1), 1) := by decide +kernel
theorem dX6_lift_23 : decode cX6_lift 23 = .ok (.istore_n 2, 1) := by decide +kernel
theorem dX6_lift_24 : decode cX6_lift 24 = .ok (.iconst (-1), 1) := by decide +kernel
theorem dX6_lift_25 : decode cX6_lift 25 = .ok (.istore_n 3, 1) := by decide +kernel
theorem dX6_lift_26 : decode cX6_lift 26 = .ok (.iconst 0, 1) := by decide +kernel
theorem dX6_lift_27 : decode cX6_lift 27 = .ok (.istore 4, 2) := by decide +kernel
theorem dX6_lift_29 : decode cX6_lift 29 = .ok (.iload 4, 2) := by decide +kernel
theorem dX6_lift_31 : decode cX6_lift 31 = .ok (.aload_n 0, 1) := by decide +kernel
theorem dX6_lift_32 : decode cX6_lift 32 = .ok (.getfield 9, 3) := by decide +kernel
theorem dX6_lift_35 : decode cX6_lift 35 = .ok (.iconst 3, 1) := by decide +kernel
theorem dX6_lift_36 : decode cX6_lift 36 = .ok (.iaload, 1) := by decide +kernel
theorem dX6_lift_37 : decode cX6_lift 37 = .ok (.if_icmp .ge 61, 3) := by decide +kernel
theorem dX6_lift_40 : decode cX6_lift 40 = .ok (.aload_n 0, 1) := by decide +kernel
theorem dX6_lift_41 : decode cX6_lift 41 = .ok (.iload 4, 2) := by decide +kernel
theorem dX6_lift_43 : decode cX6_lift 43 = .ok (.iconst 5, 1) := by decide +kernel
theorem dX6_lift_44 : decode cX6_lift 44 = .ok (.invokevirtual 48, 3) := by decide +kernel
theorem dX6_lift_47 : decode cX6_lift 47 = .ok (.iconst 1, 1) := by decide +kernel
theorem dX6_lift_48 : decode cX6_lift 48 = .ok (.if_icmp .ne 44, 3) := by decide +kernel
theorem dX6_lift_51 : decode cX6_lift 51 = .ok (.aload_n 0, 1) := by decide +kernel
theorem dX6_lift_52 : decode cX6_lift 52 = .ok (.iload 4, 2) := by decide +kernel
theorem dX6_lift_54 : decode cX6_lift 54 = .ok (.iconst 5, 1) := by decide +kernel
theorem dX6_lift_55 : decode cX6_lift 55 = .ok (.iconst 0, 1) := by decide +kernel
theorem dX6_lift_56 : decode cX6_lift 56 = .ok (.invokevirtual 74, 3) := by decide +kernel
theorem dX6_lift_59 : decode cX6_lift 59 = .ok (.aload_n 0, 1) := by decide +kernel
theorem dX6_lift_60 : decode cX6_lift 60 = .ok (.iload_n 1, 1) := by decide +kernel
theorem dX6_lift_61 : decode cX6_lift 61 = .ok (.invokevirtual 129, 3) := by decide +kernel
theorem dX6_lift_64 : decode cX6_lift 64 = .ok (.istore 5, 2) := by decide +kernel
theorem dX6_lift_66 : decode cX6_lift 66 = .ok (.iload 5, 2) := by decide +kernel
theorem dX6_lift_68 : decode cX6_lift 68 = .ok (.iload_n 3, 1) := by decide +kernel
theorem dX6_lift_69 : decode cX6_lift 69 = .ok (.if_icmp .le 8, 3) := by decide +kernel
theorem dX6_lift_72 : decode cX6_lift 72 = .ok (.iload 4, 2) := by decide +kernel
theorem dX6_lift_74 : decode cX6_lift 74 = .ok (.goto 4, 3) := by decide +kernel
theorem dX6_lift_77 : decode cX6_lift 77 = .ok (.iload_n 2, 1) := by decide +kernel
theorem dX6_lift_78 : decode cX6_lift 78 = .ok (.istore_n 2, 1) := by decide +kernel
theorem dX6_lift_79 : decode cX6_lift 79 = .ok (.iload 5, 2) := by decide +kernel
theorem dX6_lift_81 : decode cX6_lift 81 = .ok (.iload_n 3, 1) := by decide +kernel
theorem dX6_lift_82 : decode cX6_lift 82 = .ok (.if_icmp .le 8, 3) := by decide +kernel
theorem dX6_lift_85 : decode cX6_lift 85 = .ok (.iload 5, 2) := by decide +kernel
theorem dX6_lift_87 : decode cX6_lift 87 = .ok (.goto 4, 3) := by decide +kernel
theorem dX6_lift_90 : decode cX6_lift 90 = .ok (.iload_n 3, 1) := by decide +kernel
theorem dX6_lift_91 : decode cX6_lift 91 = .ok (.istore_n 3, 1) := by decide +kernel
theorem dX6_lift_92 : decode cX6_lift 92 = .ok (.iinc 4 1, 3) := by decide +kernel
theorem dX6_lift_95 : decode cX6_lift 95 = .ok (.goto (-66), 3) := by decide +kernel
theorem dX6_lift_98 : decode cX6_lift 98 = .ok (.aload_n 0, 1) := by decide +kernel
theorem dX6_lift_99 : decode cX6_lift 99 = .ok (.iload_n 2, 1) := by decide +kernel
theorem dX6_lift_100 : decode cX6_lift 100 = .ok (.invokevirtual 132, 3) := by decide +kernel
theorem dX6_lift_103 : decode cX6_lift 103 = .ok (.ireturn, 1) := by decide +kernel
theorem dX6_kind_0 : decode cX6_kind 0 = .ok (.aload_n 0, 1) := by decide +kernel
theorem dX6_kind_1 : decode cX6_kind 1 = .ok (.iload_n 1, 1) := by decide +kernel
theorem dX6_kind_2 : decode cX6_kind 2 = .ok (.invokevirtual 83, 3) := by decide +kernel
theorem dX6_kind_5 : decode cX6_kind 5 = .ok (.ifCond .eq 14, 3) := by decide +kernel
theorem dX6_kind_8 : decode cX6_kind 8 = .ok (.iload_n 2, 1) := by decide +kernel
theorem dX6_kind_9 : decode cX6_kind 9 = .ok (.i2l, 1) := by decide +kernel
theorem dX6_kind_10 : decode cX6_kind 10 = .ok (.iconst 1, 1) := by decide +kernel
theorem dX6_kind_11 : decode cX6_kind 11 = .ok (.bipush 60, 2) := by decide +kernel
theorem dX6_kind_13 : decode cX6_kind 13 = .ok (.invokestatic 44, 3) := by decide +kernel
theorem dX6_kind_16 : decode cX6_kind 16 = .ok (.ifCond .ne 10, 3) := by decide +kernel
theorem dX6_kind_19 : decode cX6_kind 19 = .ok (.aload_n 0, 1) := by decide +kernel
theorem dX6_kind_20 : decode cX6_kind 20 = .ok (.ldc 38, 2) := by decide +kernel
theorem dX6_kind_22 : decode cX6_kind 22 = .ok (.invokevirtual 40, 3) := by decide +kernel
theorem dX6_kind_25 : decode cX6_kind 25 = .ok (.ireturn, 1) := by decide +kernel
theorem dX6_kind_26 : decode cX6_kind 26 = .ok (.aload_n 0, 1) := by decide +kernel
theorem dX6_kind_27 : decode cX6_kind 27 = .ok (.invokevirtual 120, 3) := by decide +kernel
theorem dX6_kind_30 : decode cX6_kind 30 = .ok (.iconst 0, 1) := by decide +kernel
theorem dX6_kind_31 : decode cX6_kind 31 = .ok (.istore_n 3, 1) := by decide +kernel
theorem dX6_kind_32 : decode cX6_kind 32 = .ok (.iconst (-1), 1) := by decide +kernel
theorem dX6_kind_33 : decode cX6_kind 33 = .ok (.istore 4, 2) := by decide +kernel
theorem dX6_kind_35 : decode cX6_kind 35 = .ok (.iconst 0, 1) := by decide +kernel
theorem dX6_kind_36 : decode cX6_kind 36 = .ok (.istore 5, 2) := by decide +kernel
theorem dX6_kind_38 : decode cX6_kind 38 = .ok (.iload 5, 2) := by decide +kernel
theorem dX6_kind_40 : decode cX6_kind 40 = .ok (.iconst 5, 1) := by decide +kernel
theorem dX6_kind_41 : decode cX6_kind 41 = .ok (.if_icmp .gt 55, 3) := by decide +kernel
theorem dX6_kind_44 : decode cX6_kind 44 = .ok (.aload_n 0, 1) := by decide +kernel
theorem dX6_kind_45 : decode cX6_kind 45 = .ok (.iload_n 1, 1) := by decide +kernel
theorem dX6_kind_46 : decode cX6_kind 46 = .ok (.iconst 0, 1) := by decide +kernel
theorem dX6_kind_47 : decode cX6_kind 47 = .ok (.iload 5, 2) := by decide +kernel
theorem dX6_kind_49 : decode cX6_kind 49 = .ok (.invokevirtual 74, 3) := by decide +kernel
theorem dX6_kind_52 : decode cX6_kind 52 = .ok (.aload_n 0, 1) := by decide +kernel
theorem dX6_kind_53 : decode cX6_kind 53 = .ok (.iload_n 1, 1) := by decide +kernel
theorem dX6_kind_54 : decode cX6_kind 54 = .ok (.iload_n 2, 1) := by decide +kernel
theorem dX6_kind_55 : decode cX6_kind 55 = .ok (.invokevirtual 135, 3) := by decide +kernel
theorem dX6_kind_58 : decode cX6_kind 58 = .ok (.istore 6, 2) := by decide +kernel
theorem dX6_kind_60 : decode cX6_kind 60 = .ok (.iload 6, 2) := by decide +kernel
theorem dX6_kind_62 : decode cX6_kind 62 = .ok (.iload 4, 2) := by decide +kernel
theorem dX6_kind_64 : decode cX6_kind 64 = .ok (.if_icmp .le 8, 3) := by decide +kernel
theorem dX6_kind_67 : decode cX6_kind 67 = .ok (.iload 5, 2) := by decide +kernel
theorem dX6_kind_69 : decode cX6_kind 69 = .ok (.goto 4, 3) := by decide +kernel
theorem dX6_kind_72 : decode cX6_kind 72 = .ok (.iload_n 3, 1) := by decide +kernel
theorem dX6_kind_73 : decode cX6_kind 73 = .ok (.istore_n 3, 1) := by decide +kernel
theorem dX6_kind_74 : decode cX6_kind 74 = .ok (.iload 6, 2) := by decide +kernel
theorem dX6_kind_76 : decode cX6_kind 76 = .ok (.iload 4, 2) := by decide +kernel
theorem dX6_kind_78 : decode cX6_kind 78 = .ok (.if_icmp .le 8, 3) := by decide +kernel
theorem dX6_kind_81 : decode cX6_kind 81 = .ok (.iload 6, 2) := by decide +kernel
theorem dX6_kind_83 : decode cX6_kind 83 = .ok (.goto 5, 3) := by decide +kernel
theorem dX6_kind_86 : decode cX6_kind 86 = .ok (.iload 4, 2) := by decide +kernel
theorem dX6_kind_88 : decode cX6_kind 88 = .ok (.istore 4, 2) := by decide +kernel
theorem dX6_kind_90 : decode cX6_kind 90 = .ok (.iinc 5 1, 3) := by decide +kernel
theorem dX6_kind_93 : decode cX6_kind 93 = .ok (.goto (-55), 3) := by decide +kernel
theorem dX6_kind_96 : decode cX6_kind 96 = .ok (.iload_n 3, 1) := by decide +kernel
theorem dX6_kind_97 : decode cX6_kind 97 = .ok (.ireturn, 1) := by decide +kernel
theorem dX6_view_0 : decode cX6_view 0 = .ok (.aload_n 0, 1) := by decide +kernel
theorem dX6_view_1 : decode cX6_view 1 = .ok (.iload_n 1, 1) := by decide +kernel
theorem dX6_view_2 : decode cX6_view 2 = .ok (.invokevirtual 83, 3) := by decide +kernel
theorem dX6_view_5 : decode cX6_view 5 = .ok (.ifCond .eq 14, 3) := by decide +kernel
theorem dX6_view_8 : decode cX6_view 8 = .ok (.iload_n 2, 1) := by decide +kernel
theorem dX6_view_9 : decode cX6_view 9 = .ok (.i2l, 1) := by decide +kernel
theorem dX6_view_10 : decode cX6_view 10 = .ok (.iconst 1, 1) := by decide +kernel
theorem dX6_view_11 : decode cX6_view 11 = .ok (.bipush 32, 2) := by decide +kernel
theorem dX6_view_13 : decode cX6_view 13 = .ok (.invokestatic 44, 3) := by decide +kernel
theorem dX6_view_16 : decode cX6_view 16 = .ok (.ifCond .ne 10, 3) := by decide +kernel
theorem dX6_view_19 : decode cX6_view 19 = .ok (.aload_n 0, 1) := by decide +kernel
theorem dX6_view_20 : decode cX6_view 20 = .ok (.ldc 38, 2) := by decide +kernel
theorem dX6_view_22 : decode cX6_view 22 = .ok (.invokevirtual 40, 3) := by decide +kernel
theorem dX6_view_25 : decode cX6_view 25 = .ok (.ireturn, 1) := by decide +kernel
theorem dX6_view_26 : decode cX6_view 26 = .ok (.aload_n 0, 1) := by decide +kernel
theorem dX6_view_27 : decode cX6_view 27 = .ok (.invokevirtual 120, 3) := by decide +kernel
theorem dX6_view_30 : decode cX6_view 30 = .ok (.iconst 0, 1) := by decide +kernel
theorem dX6_view_31 : decode cX6_view 31 = .ok (.istore_n 3, 1) := by decide +kernel
theorem dX6_view_32 : decode cX6_view 32 = .ok (.iconst (-1), 1) := by decide +kernel
theorem dX6_view_33 : decode cX6_view 33 = .ok (.istore 4, 2) := by decide +kernel
theorem dX6_view_35 : decode cX6_view 35 = .ok (.iconst 0, 1) := by decide +kernel
theorem dX6_view_36 : decode cX6_view 36 = .ok (.istore 5, 2) := by decide +kernel
theorem dX6_view_38 : decode cX6_view 38 = .ok (.iload 5, 2) := by decide +kernel
theorem dX6_view_40 : decode cX6_view 40 = .ok (.sipush 255, 3) := by decide +kernel
theorem dX6_view_43 : decode cX6_view 43 = .ok (.if_icmp .gt 54, 3) := by decide +kernel
theorem dX6_view_46 : decode cX6_view 46 = .ok (.aload_n 0, 1) := by decide +kernel
theorem dX6_view_47 : decode cX6_view 47 = .ok (.iload_n 1, 1) := by decide +kernel
theorem dX6_view_48 : decode cX6_view 48 = .ok (.iconst 1, 1) := by decide +kernel
theorem dX6_view_49 : decode cX6_view 49 = .ok (.iload 5, 2) := by decide +kernel
theorem dX6_view_51 : decode cX6_view 51 = .ok (.invokevirtual 74, 3) := by decide +kernel
theorem dX6_view_54 : decode cX6_view 54 = .ok (.aload_n 0, 1) := by decide +kernel
theorem dX6_view_55 : decode cX6_view 55 = .ok (.iload_n 2, 1) := by decide +kernel
theorem dX6_view_56 : decode cX6_view 56 = .ok (.invokevirtual 129, 3) := by decide +kernel
theorem dX6_view_59 : decode cX6_view 59 = .ok (.istore 6, 2) := by decide +kernel
theorem dX6_view_61 : decode cX6_view 61 = .ok (.iload 6, 2) := by decide +kernel
theorem dX6_view_63 : decode cX6_view 63 = .ok (.iload 4, 2) := by decide +kernel
theorem dX6_view_65 : decode cX6_view 65 = .ok (.if_icmp .le 8, 3) := by decide +kernel
theorem dX6_view_68 : decode cX6_view 68 = .ok (.iload 5, 2) := by decide +kernel
theorem dX6_view_70 : decode cX6_view 70 = .ok (.goto 4, 3) := by decide +kernel
theorem dX6_view_73 : decode cX6_view 73 = .ok (.iload_n 3, 1) := by decide +kernel
theorem dX6_view_74 : decode cX6_view 74 = .ok (.istore_n 3, 1) := by decide +kernel
theorem dX6_view_75 : decode cX6_view 75 = .ok (.iload 6, 2) := by decide +kernel
theorem dX6_view_77 : decode cX6_view 77 = .ok (.iload 4, 2) := by decide +kernel
theorem dX6_view_79 : decode cX6_view 79 = .ok (.if_icmp .le 8, 3) := by decide +kernel
theorem dX6_view_82 : decode cX6_view 82 = .ok (.iload 6, 2) := by decide +kernel
theorem dX6_view_84 : decode cX6_view 84 = .ok (.goto 5, 3) := by decide +kernel
theorem dX6_view_87 : decode cX6_view 87 = .ok (.iload 4, 2) := by decide +kernel
theorem dX6_view_89 : decode cX6_view 89 = .ok (.istore 4, 2) := by decide +kernel
theorem dX6_view_91 : decode cX6_view 91 = .ok (.iinc 5 1, 3) := by decide +kernel
theorem dX6_view_94 : decode cX6_view 94 = .ok (.goto (-56), 3) := by decide +kernel
theorem dX6_view_97 : decode cX6_view 97 = .ok (.iload_n 3, 1) := by decide +kernel
theorem dX6_view_98 : decode cX6_view 98 = .ok (.ireturn, 1) := by decide +kernel
theorem dX6_faith_0 : decode cX6_faith 0 = .ok (.aload_n 0, 1) := by decide +kernel
theorem dX6_faith_1 : decode cX6_faith 1 = .ok (.iload_n 1, 1) := by decide +kernel
theorem dX6_faith_2 : decode cX6_faith 2 = .ok (.invokevirtual 83, 3) := by decide +kernel
theorem dX6_faith_5 : decode cX6_faith 5 = .ok (.ifCond .eq 26, 3) := by decide +kernel
theorem dX6_faith_8 : decode cX6_faith 8 = .ok (.iload_n 2, 1) := by decide +kernel
theorem dX6_faith_9 : decode cX6_faith 9 = .ok (.i2l, 1) := by decide +kernel
theorem dX6_faith_10 : decode cX6_faith 10 = .ok (.iconst 1, 1) := by decide +kernel
theorem dX6_faith_11 : decode cX6_faith 11 = .ok (.bipush 60, 2) := by decide +kernel
theorem dX6_faith_13 : decode cX6_faith 13 = .ok (.invokestatic 44, 3) := by decide +kernel
theorem dX6_faith_16 : decode cX6_faith 16 = .ok (.ifCond .eq 15, 3) := by decide +kernel
theorem dX6_faith_19 : decode cX6_faith 19 = .ok (.iload_n 3, 1) := by decide +kernel
theorem dX6_faith_20 : decode cX6_faith 20 = .ok (.i2l, 1) := by decide +kernel
theorem dX6_faith_21 : decode cX6_faith 21 = .ok (.iconst 0, 1) := by decide +kernel
theorem dX6_faith_22 : decode cX6_faith 22 = .ok (.sipush 9999, 3) := by decide +kernel
theorem dX6_faith_25 : decode cX6_faith 25 = .ok (.invokestatic 44, 3) := by decide +kernel
theorem dX6_faith_28 : decode cX6_faith 28 = .ok (.ifCond .ne 10, 3) := by decide +kernel
theorem dX6_faith_31 : decode cX6_faith 31 = .ok (.aload_n 0, 1) := by decide +kernel
theorem dX6_faith_32 : decode cX6_faith 32 = .ok (.ldc 38, 2) := by decide +kernel
theorem dX6_faith_34 : decode cX6_faith 34 = .ok (.invokevirtual 40, 3) := by decide +kernel
theorem dX6_faith_37 : decode cX6_faith 37 = .ok (.ireturn, 1) := by decide +kernel
theorem dX6_faith_38 : decode cX6_faith 38 = .ok (.aload_n 0, 1) := by decide +kernel
theorem dX6_faith_39 : decode cX6_faith 39 = .ok (.invokevirtual 120, 3) := by decide +kernel
theorem dX6_faith_42 : decode cX6_faith 42 = .ok (.iconst (-1), 1) := by decide +kernel
theorem dX6_faith_43 : decode cX6_faith 43 = .ok (.istore 4, 2) := by decide +kernel
theorem dX6_faith_45 : decode cX6_faith 45 = .ok (.iconst 0, 1) := by decide +kernel
theorem dX6_faith_46 : decode cX6_faith 46 = .ok (.istore 5, 2) := by decide +kernel
theorem dX6_faith_48 : decode cX6_faith 48 = .ok (.iload 5, 2) := by decide +kernel
theorem dX6_faith_50 : decode cX6_faith 50 = .ok (.bipush 99, 2) := by decide +kernel
theorem dX6_faith_52 : decode cX6_faith 52 = .ok (.if_icmp .gt 40, 3) := by decide +kernel
theorem dX6_faith_55 : decode cX6_faith 55 = .ok (.iload 4, 2) := by decide +kernel
theorem dX6_faith_57 : decode cX6_faith 57 = .ok (.ifCond .ge 35, 3) := by decide +kernel
theorem dX6_faith_60 : decode cX6_faith 60 = .ok (.aload_n 0, 1) := by decide +kernel
theorem dX6_faith_61 : decode cX6_faith 61 = .ok (.iload_n 1, 1) := by decide +kernel
theorem dX6_faith_62 : decode cX6_faith 62 = .ok (.iconst 4, 1) := by decide +kernel
theorem dX6_faith_63 : decode cX6_faith 63 = .ok (.iload 5, 2) := by decide +kernel
theorem dX6_faith_65 : decode cX6_faith 65 = .ok (.invokevirtual 74, 3) := by decide +kernel
theorem dX6_faith_68 : decode cX6_faith 68 = .ok (.aload_n 0, 1) := by decide +kernel
theorem dX6_faith_69 : decode cX6_faith 69 = .ok (.iload_n 1, 1) := by decide +kernel
theorem dX6_faith_70 : decode cX6_faith 70 = .ok (.iload_n 2, 1) := by decide +kernel
theorem dX6_faith_71 : decode cX6_faith 71 = .ok (.invokevirtual 135, 3) := by decide +kernel
theorem dX6_faith_74 : decode cX6_faith 74 = .ok (.iload_n 3, 1) := by decide +kernel
theorem dX6_faith_75 : decode cX6_faith 75 = .ok (.if_icmp .lt 8, 3) := by decide +kernel
theorem dX6_faith_78 : decode cX6_faith 78 = .ok (.iload 5, 2) := by decide +kernel
theorem dX6_faith_80 : decode cX6_faith 80 = .ok (.goto 4, 3) := by decide +kernel
theorem dX6_faith_83 : decode cX6_faith 83 = .ok (.iconst (-1), 1) := by decide +kernel
theorem dX6_faith_84 : decode cX6_faith 84 = .ok (.istore 4, 2) := by decide +kernel
theorem dX6_faith_86 : decode cX6_faith 86 = .ok (.iinc 5 1, 3) := by decide +kernel
theorem dX6_faith_89 : decode cX6_faith 89 = .ok (.goto (-41), 3) := by decide +kernel
theorem dX6_faith_92 : decode cX6_faith 92 = .ok (.aload_n 0, 1) := by decide +kernel
theorem dX6_faith_93 : decode cX6_faith 93 = .ok (.iload 4, 2) := by decide +kernel
theorem dX6_faith_95 : decode cX6_faith 95 = .ok (.invokevirtual 132, 3) := by decide +kernel
theorem dX6_faith_98 : decode cX6_faith 98 = .ok (.ireturn, 1) := by decide +kernel
theorem dX6_heldThen_0 : decode cX6_heldThen 0 = .ok (.aload_n 0, 1) := by decide +kernel
theorem dX6_heldThen_1 : decode cX6_heldThen 1 = .ok (.invokevirtual 61, 3) := by decide +kernel
theorem dX6_heldThen_4 : decode cX6_heldThen 4 = .ok (.istore_n 1, 1) := by decide +kernel
theorem dX6_heldThen_5 : decode cX6_heldThen 5 = .ok (.aload_n 0, 1) := by decide +kernel
theorem dX6_heldThen_6 : decode cX6_heldThen 6 = .ok (.invokevirtual 107, 3) := by decide +kernel
theorem dX6_heldThen_9 : decode cX6_heldThen 9 = .ok (.aload_n 0, 1) := by decide +kernel
theorem dX6_heldThen_10 : decode cX6_heldThen 10 = .ok (.getfield 9, 3) := by decide +kernel
theorem dX6_heldThen_13 : decode cX6_heldThen 13 = .ok (.iconst 2, 1) := by decide +kernel
theorem dX6_heldThen_14 : decode cX6_heldThen 14 = .ok (.iaload, 1) := by decide +kernel
theorem dX6_heldThen_15 : decode cX6_heldThen 15 = .ok (.iload_n 1, 1) := by decide +kernel
theorem dX6_heldThen_16 : decode cX6_heldThen 16 = .ok (.ishr, 1) := by decide +kernel
theorem dX6_heldThen_17 : decode cX6_heldThen 17 = .ok (.iconst 1, 1) := by decide +kernel
theorem dX6_heldThen_18 : decode cX6_heldThen 18 = .ok (.iand, 1) := by decide +kernel
theorem dX6_heldThen_19 : decode cX6_heldThen 19 = .ok (.istore_n 2, 1) := by decide +kernel
theorem dX6_heldThen_20 : decode cX6_heldThen 20 = .ok (.aload_n 0, 1) := by decide +kernel
theorem dX6_heldThen_21 : decode cX6_heldThen 21 = .ok (.invokevirtual 123, 3) := by decide +kernel
theorem dX6_heldThen_24 : decode cX6_heldThen 24 = .ok (.iload_n 2, 1) := by decide +kernel
theorem dX6_heldThen_25 : decode cX6_heldThen 25 = .ok (.ireturn, 1) := by decide +kernel
theorem dX6_swing_0 : decode cX6_swing 0 = .ok (.aload_n 0, 1) := by decide +kernel
theorem dX6_swing_1 : decode cX6_swing 1 = .ok (.invokevirtual 120, 3) := by decide +kernel
theorem dX6_swing_4 : decode cX6_swing 4 = .ok (.aload_n 0, 1) := by decide +kernel
theorem dX6_swing_5 : decode cX6_swing 5 = .ok (.invokevirtual 138, 3) := by decide +kernel
theorem dX6_swing_8 : decode cX6_swing 8 = .ok (.istore_n 1, 1) := by decide +kernel
theorem dX6_swing_9 : decode cX6_swing 9 = .ok (.iconst (-1), 1) := by decide +kernel
theorem dX6_swing_10 : decode cX6_swing 10 = .ok (.istore_n 2, 1) := by decide +kernel
theorem dX6_swing_11 : decode cX6_swing 11 = .ok (.iconst 0, 1) := by decide +kernel
theorem dX6_swing_12 : decode cX6_swing 12 = .ok (.istore_n 3, 1) := by decide +kernel
theorem dX6_swing_13 : decode cX6_swing 13 = .ok (.iload_n 3, 1) := by decide +kernel
theorem dX6_swing_14 : decode cX6_swing 14 = .ok (.aload_n 0, 1) := by decide +kernel
theorem dX6_swing_15 : decode cX6_swing 15 = .ok (.getfield 9, 3) := by decide +kernel
theorem dX6_swing_18 : decode cX6_swing 18 = .ok (.iconst 3, 1) := by decide +kernel
theorem dX6_swing_19 : decode cX6_swing 19 = .ok (.iaload, 1) := by decide +kernel
theorem dX6_swing_20 : decode cX6_swing 20 = .ok (.if_icmp .ge 44, 3) := by decide +kernel
theorem dX6_swing_23 : decode cX6_swing 23 = .ok (.iload_n 2, 1) := by decide +kernel
theorem dX6_swing_24 : decode cX6_swing 24 = .ok (.ifCond .ge 40, 3) := by decide +kernel
theorem dX6_swing_27 : decode cX6_swing 27 = .ok (.aload_n 0, 1) := by decide +kernel
theorem dX6_swing_28 : decode cX6_swing 28 = .ok (.iload_n 3, 1) := by decide +kernel
theorem dX6_swing_29 : decode cX6_swing 29 = .ok (.iconst 5, 1) := by decide +kernel
theorem dX6_swing_30 : decode cX6_swing 30 = .ok (.invokevirtual 48, 3) := by decide +kernel
theorem dX6_swing_33 : decode cX6_swing 33 = .ok (.iconst 1, 1) := by decide +kernel
theorem dX6_swing_34 : decode cX6_swing 34 = .ok (.if_icmp .ne 24, 3) := by decide +kernel
theorem dX6_swing_37 : decode cX6_swing 37 = .ok (.aload_n 0, 1) := by decide +kernel
theorem dX6_swing_38 : decode cX6_swing 38 = .ok (.iload_n 3, 1) := by decide +kernel
theorem dX6_swing_39 : decode cX6_swing 39 = .ok (.iconst 5, 1) := by decide +kernel
theorem dX6_swing_40 : decode cX6_swing 40 = .ok (.iconst 0, 1) := by decide +kernel
theorem dX6_swing_41 : decode cX6_swing 41 = .ok (.invokevirtual 74, 3) := by decide +kernel
theorem dX6_swing_44 : decode cX6_swing 44 = .ok (.aload_n 0, 1) := by decide +kernel
theorem dX6_swing_45 : decode cX6_swing 45 = .ok (.invokevirtual 138, 3) := by decide +kernel
theorem dX6_swing_48 : decode cX6_swing 48 = .ok (.iload_n 1, 1) := by decide +kernel
theorem dX6_swing_49 : decode cX6_swing 49 = .ok (.if_icmp .eq 7, 3) := by decide +kernel
theorem dX6_swing_52 : decode cX6_swing 52 = .ok (.iload_n 3, 1) := by decide +kernel
theorem dX6_swing_53 : decode cX6_swing 53 = .ok (.goto 4, 3) := by decide +kernel
theorem dX6_swing_56 : decode cX6_swing 56 = .ok (.iconst (-1), 1) := by decide +kernel
theorem dX6_swing_57 : decode cX6_swing 57 = .ok (.istore_n 2, 1) := by decide +kernel
theorem dX6_swing_58 : decode cX6_swing 58 = .ok (.iinc 3 1, 3) := by decide +kernel
theorem dX6_swing_61 : decode cX6_swing 61 = .ok (.goto (-48), 3) := by decide +kernel
theorem dX6_swing_64 : decode cX6_swing 64 = .ok (.aload_n 0, 1) := by decide +kernel
theorem dX6_swing_65 : decode cX6_swing 65 = .ok (.iload_n 2, 1) := by decide +kernel
theorem dX6_swing_66 : decode cX6_swing 66 = .ok (.invokevirtual 132, 3) := by decide +kernel
theorem dX6_swing_69 : decode cX6_swing 69 = .ok (.ireturn, 1) := by decide +kernel
theorem dX6_sums_0 : decode cX6_sums 0 = .ok (.iconst 0, 1) := by decide +kernel
theorem dX6_sums_1 : decode cX6_sums 1 = .ok (.istore_n 2, 1) := by decide +kernel
theorem dX6_sums_2 : decode cX6_sums 2 = .ok (.iconst 0, 1) := by decide +kernel
theorem dX6_sums_3 : decode cX6_sums 3 = .ok (.istore_n 3, 1) := by decide +kernel
theorem dX6_sums_4 : decode cX6_sums 4 = .ok (.iload_n 3, 1) := by decide +kernel
theorem dX6_sums_5 : decode cX6_sums 5 = .ok (.aload_n 0, 1) := by decide +kernel
theorem dX6_sums_6 : decode cX6_sums 6 = .ok (.getfield 9, 3) := by decide +kernel
theorem dX6_sums_9 : decode cX6_sums 9 = .ok (.iconst 3, 1) := by decide +kernel
theorem dX6_sums_10 : decode cX6_sums 10 = .ok (.iaload, 1) := by decide +kernel
theorem dX6_sums_11 : decode cX6_sums 11 = .ok (.if_icmp .ge 18, 3) := by decide +kernel
theorem dX6_sums_14 : decode cX6_sums 14 = .ok (.iload_n 2, 1) := by decide +kernel
theorem dX6_sums_15 : decode cX6_sums 15 = .ok (.aload_n 0, 1) := by decide +kernel
theorem dX6_sums_16 : decode cX6_sums 16 = .ok (.iload_n 3, 1) := by decide +kernel
theorem dX6_sums_17 : decode cX6_sums 17 = .ok (.iload_n 1, 1) := by decide +kernel
theorem dX6_sums_18 : decode cX6_sums 18 = .ok (.invokevirtual 48, 3) := by decide +kernel
theorem dX6_sums_21 : decode cX6_sums 21 = .ok (.iadd, 1) := by decide +kernel
theorem dX6_sums_22 : decode cX6_sums 22 = .ok (.istore_n 2, 1) := by decide +kernel
theorem dX6_sums_23 : decode cX6_sums 23 = .ok (.iinc 3 1, 3) := by decide +kernel
theorem dX6_sums_26 : decode cX6_sums 26 = .ok (.goto (-22), 3) := by decide +kernel
theorem dX6_sums_29 : decode cX6_sums 29 = .ok (.iload_n 2, 1) := by decide +kernel
theorem dX6_sums_30 : decode cX6_sums 30 = .ok (.ireturn, 1) := by decide +kernel
theorem dX6_revise_0 : decode cX6_revise 0 = .ok (.iload_n 1, 1) := by decide +kernel
theorem dX6_revise_1 : decode cX6_revise 1 = .ok (.i2l, 1) := by decide +kernel
theorem dX6_revise_2 : decode cX6_revise 2 = .ok (.iconst 1, 1) := by decide +kernel
theorem dX6_revise_3 : decode cX6_revise 3 = .ok (.bipush 60, 2) := by decide +kernel
theorem dX6_revise_5 : decode cX6_revise 5 = .ok (.invokestatic 44, 3) := by decide +kernel
theorem dX6_revise_8 : decode cX6_revise 8 = .ok (.ifCond .ne 10, 3) := by decide +kernel
theorem dX6_revise_11 : decode cX6_revise 11 = .ok (.aload_n 0, 1) := by decide +kernel
theorem dX6_revise_12 : decode cX6_revise 12 = .ok (.ldc 38, 2) := by decide +kernel
theorem dX6_revise_14 : decode cX6_revise 14 = .ok (.invokevirtual 40, 3) := by decide +kernel
theorem dX6_revise_17 : decode cX6_revise 17 = .ok (.ireturn, 1) := by decide +kernel
theorem dX6_revise_18 : decode cX6_revise 18 = .ok (.aload_n 0, 1) := by decide +kernel
theorem dX6_revise_19 : decode cX6_revise 19 = .ok (.invokevirtual 120, 3) := by decide +kernel
theorem dX6_revise_22 : decode cX6_revise 22 = .ok (.iconst (-1), 1) := by decide +kernel
theorem dX6_revise_23 : decode cX6_revise 23 = .ok (.istore_n 2, 1) := by decide +kernel
theorem dX6_revise_24 : decode cX6_revise 24 = .ok (.iconst 0, 1) := by decide +kernel
theorem dX6_revise_25 : decode cX6_revise 25 = .ok (.istore_n 3, 1) := by decide +kernel
theorem dX6_revise_26 : decode cX6_revise 26 = .ok (.iconst 0, 1) := by decide +kernel
theorem dX6_revise_27 : decode cX6_revise 27 = .ok (.istore 4, 2) := by decide +kernel
theorem dX6_revise_29 : decode cX6_revise 29 = .ok (.iload 4, 2) := by decide +kernel
theorem dX6_revise_31 : decode cX6_revise 31 = .ok (.bipush 8, 2) := by decide +kernel
theorem dX6_revise_33 : decode cX6_revise 33 = .ok (.if_icmp .ge 79, 3) := by decide +kernel
theorem dX6_revise_36 : decode cX6_revise 36 = .ok (.aload_n 0, 1) := by decide +kernel
theorem dX6_revise_37 : decode cX6_revise 37 = .ok (.getfield 9, 3) := by decide +kernel
theorem dX6_revise_40 : decode cX6_revise 40 = .ok (.iconst 1, 1) := by decide +kernel
theorem dX6_revise_41 : decode cX6_revise 41 = .ok (.dup2, 1) := by decide +kernel
theorem dX6_revise_42 : decode cX6_revise 42 = .ok (.iaload, 1) := by decide +kernel
theorem dX6_revise_43 : decode cX6_revise 43 = .ok (.iconst 1, 1) := by decide +kernel
theorem dX6_revise_44 : decode cX6_revise 44 = .ok (.iload 4, 2) := by decide +kernel
theorem dX6_revise_46 : decode cX6_revise 46 = .ok (.ishl, 1) := by decide +kernel
theorem dX6_revise_47 : decode cX6_revise 47 = .ok (.ixor, 1) := by decide +kernel
theorem dX6_revise_48 : decode cX6_revise 48 = .ok (.iastore, 1) := by decide +kernel
theorem dX6_revise_49 : decode cX6_revise 49 = .ok (.aload_n 0, 1) := by decide +kernel
theorem dX6_revise_50 : decode cX6_revise 50 = .ok (.iload_n 1, 1) := by decide +kernel
theorem dX6_revise_51 : decode cX6_revise 51 = .ok (.invokevirtual 112, 3) := by decide +kernel
theorem dX6_revise_54 : decode cX6_revise 54 = .ok (.aload_n 0, 1) := by decide +kernel
theorem dX6_revise_55 : decode cX6_revise 55 = .ok (.iconst 3, 1) := by decide +kernel
theorem dX6_revise_56 : decode cX6_revise 56 = .ok (.invokevirtual 141, 3) := by decide +kernel
theorem dX6_revise_59 : decode cX6_revise 59 = .ok (.istore 5, 2) := by decide +kernel
theorem dX6_revise_61 : decode cX6_revise 61 = .ok (.aload_n 0, 1) := by decide +kernel
theorem dX6_revise_62 : decode cX6_revise 62 = .ok (.invokevirtual 123, 3) := by decide +kernel
theorem dX6_revise_65 : decode cX6_revise 65 = .ok (.iload_n 2, 1) := by decide +kernel
theorem dX6_revise_66 : decode cX6_revise 66 = .ok (.ifCond .lt 9, 3) := by decide +kernel
theorem dX6_revise_69 : decode cX6_revise 69 = .ok (.iload 5, 2) := by decide +kernel
theorem dX6_revise_71 : decode cX6_revise 71 = .ok (.iload_n 3, 1) := by decide +kernel
theorem dX6_revise_72 : decode cX6_revise 72 = .ok (.if_icmp .ge 7, 3) := by decide +kernel
theorem dX6_revise_75 : decode cX6_revise 75 = .ok (.iconst 1, 1) := by decide +kernel
theorem dX6_revise_76 : decode cX6_revise 76 = .ok (.goto 4, 3) := by decide +kernel
theorem dX6_revise_79 : decode cX6_revise 79 = .ok (.iconst 0, 1) := by decide +kernel
theorem dX6_revise_80 : decode cX6_revise 80 = .ok (.istore 6, 2) := by decide +kernel
theorem dX6_revise_82 : decode cX6_revise 82 = .ok (.iload 6, 2) := by decide +kernel
theorem dX6_revise_84 : decode cX6_revise 84 = .ok (.ifCond .eq 8, 3) := by decide +kernel
theorem dX6_revise_87 : decode cX6_revise 87 = .ok (.iload 4, 2) := by decide +kernel
theorem dX6_revise_89 : decode cX6_revise 89 = .ok (.goto 4, 3) := by decide +kernel
theorem dX6_revise_92 : decode cX6_revise 92 = .ok (.iload_n 2, 1) := by decide +kernel
theorem dX6_revise_93 : decode cX6_revise 93 = .ok (.istore_n 2, 1) := by decide +kernel
theorem dX6_revise_94 : decode cX6_revise 94 = .ok (.iload 6, 2) := by decide +kernel
theorem dX6_revise_96 : decode cX6_revise 96 = .ok (.ifCond .eq 8, 3) := by decide +kernel
theorem dX6_revise_99 : decode cX6_revise 99 = .ok (.iload 5, 2) := by decide +kernel
theorem dX6_revise_101 : decode cX6_revise 101 = .ok (.goto 4, 3) := by decide +kernel
theorem dX6_revise_104 : decode cX6_revise 104 = .ok (.iload_n 3, 1) := by decide +kernel
theorem dX6_revise_105 : decode cX6_revise 105 = .ok (.istore_n 3, 1) := by decide +kernel
theorem dX6_revise_106 : decode cX6_revise 106 = .ok (.iinc 4 1, 3) := by decide +kernel
theorem dX6_revise_109 : decode cX6_revise 109 = .ok (.goto (-80), 3) := by decide +kernel
theorem dX6_revise_112 : decode cX6_revise 112 = .ok (.iload_n 2, 1) := by decide +kernel
theorem dX6_revise_113 : decode cX6_revise 113 = .ok (.ireturn, 1) := by decide +kernel
theorem dX6_merit_0 : decode cX6_merit 0 = .ok (.aload_n 0, 1) := by decide +kernel
theorem dX6_merit_1 : decode cX6_merit 1 = .ok (.iload_n 1, 1) := by decide +kernel
theorem dX6_merit_2 : decode cX6_merit 2 = .ok (.iconst 2, 1) := by decide +kernel
theorem dX6_merit_3 : decode cX6_merit 3 = .ok (.invokevirtual 48, 3) := by decide +kernel
theorem dX6_merit_6 : decode cX6_merit 6 = .ok (.aload_n 0, 1) := by decide +kernel
theorem dX6_merit_7 : decode cX6_merit 7 = .ok (.iload_n 1, 1) := by decide +kernel
theorem dX6_merit_8 : decode cX6_merit 8 = .ok (.iconst 3, 1) := by decide +kernel
theorem dX6_merit_9 : decode cX6_merit 9 = .ok (.invokevirtual 48, 3) := by decide +kernel
theorem dX6_merit_12 : decode cX6_merit 12 = .ok (.isub, 1) := by decide +kernel
theorem dX6_merit_13 : decode cX6_merit 13 = .ok (.ireturn, 1) := by decide +kernel
theorem dX6_best_0 : decode cX6_best 0 = .ok (.iload_n 1, 1) := by decide +kernel
theorem dX6_best_1 : decode cX6_best 1 = .ok (.i2l, 1) := by decide +kernel
theorem dX6_best_2 : decode cX6_best 2 = .ok (.iconst 0, 1) := by decide +kernel
theorem dX6_best_3 : decode cX6_best 3 = .ok (.sipush 200, 3) := by decide +kernel
theorem dX6_best_6 : decode cX6_best 6 = .ok (.invokestatic 44, 3) := by decide +kernel
theorem dX6_best_9 : decode cX6_best 9 = .ok (.ifCond .ne 10, 3) := by decide +kernel
theorem dX6_best_12 : decode cX6_best 12 = .ok (.aload_n 0, 1) := by decide +kernel
theorem dX6_best_13 : decode cX6_best 13 = .ok (.ldc 38, 2) := by decide +kernel
theorem dX6_best_15 : decode cX6_best 15 = .ok (.invokevirtual 40, 3) := by decide +kernel
theorem dX6_best_18 : decode cX6_best 18 = .ok (.ireturn, 1) := by decide +kernel
theorem dX6_best_19 : decode cX6_best 19 = .ok (.aload_n 0, 1) := by decide +kernel
theorem dX6_best_20 : decode cX6_best 20 = .ok (.invokevirtual 120, 3) := by decide +kernel
theorem dX6_best_23 : decode cX6_best 23 = .ok (.aload_n 0, 1) := by decide +kernel
theorem dX6_best_24 : decode cX6_best 24 = .ok (.iload_n 1, 1) := by decide +kernel
theorem dX6_best_25 : decode cX6_best 25 = .ok (.invokevirtual 112, 3) := by decide +kernel
theorem dX6_best_28 : decode cX6_best 28 = .ok (.iconst (-1), 1) := by decide +kernel
theorem dX6_best_29 : decode cX6_best 29 = .ok (.istore_n 2, 1) := by decide +kernel
theorem dX6_best_30 : decode cX6_best 30 = .ok (.iconst 0, 1) := by decide +kernel
theorem dX6_best_31 : decode cX6_best 31 = .ok (.istore_n 3, 1) := by decide +kernel
theorem dX6_best_32 : decode cX6_best 32 = .ok (.iload_n 3, 1) := by decide +kernel
theorem dX6_best_33 : decode cX6_best 33 = .ok (.aload_n 0, 1) := by decide +kernel
theorem dX6_best_34 : decode cX6_best 34 = .ok (.getfield 9, 3) := by decide +kernel
theorem dX6_best_37 : decode cX6_best 37 = .ok (.iconst 3, 1) := by decide +kernel
theorem dX6_best_38 : decode cX6_best 38 = .ok (.iaload, 1) := by decide +kernel
theorem dX6_best_39 : decode cX6_best 39 = .ok (.if_icmp .ge 32, 3) := by decide +kernel
theorem dX6_best_42 : decode cX6_best 42 = .ok (.iload_n 2, 1) := by decide +kernel
theorem dX6_best_43 : decode cX6_best 43 = .ok (.ifCond .lt 16, 3) := by decide +kernel
theorem dX6_best_46 : decode cX6_best 46 = .ok (.aload_n 0, 1) := by decide +kernel
theorem dX6_best_47 : decode cX6_best 47 = .ok (.iload_n 3, 1) := by decide +kernel
theorem dX6_best_48 : decode cX6_best 48 = .ok (.invokevirtual 144, 3) := by decide +kernel
theorem dX6_best_51 : decode cX6_best 51 = .ok (.aload_n 0, 1) := by decide +kernel
theorem dX6_best_52 : decode cX6_best 52 = .ok (.iload_n 2, 1) := by decide +kernel
theorem dX6_best_53 : decode cX6_best 53 = .ok (.invokevirtual 144, 3) := by decide +kernel
theorem dX6_best_56 : decode cX6_best 56 = .ok (.if_icmp .le 7, 3) := by decide +kernel
theorem dX6_best_59 : decode cX6_best 59 = .ok (.iload_n 3, 1) := by decide +kernel
theorem dX6_best_60 : decode cX6_best 60 = .ok (.goto 4, 3) := by decide +kernel
theorem dX6_best_63 : decode cX6_best 63 = .ok (.iload_n 2, 1) := by decide +kernel
theorem dX6_best_64 : decode cX6_best 64 = .ok (.istore_n 2, 1) := by decide +kernel
theorem dX6_best_65 : decode cX6_best 65 = .ok (.iinc 3 1, 3) := by decide +kernel
theorem dX6_best_68 : decode cX6_best 68 = .ok (.goto (-36), 3) := by decide +kernel
theorem dX6_best_71 : decode cX6_best 71 = .ok (.aload_n 0, 1) := by decide +kernel
theorem dX6_best_72 : decode cX6_best 72 = .ok (.invokevirtual 123, 3) := by decide +kernel
theorem dX6_best_75 : decode cX6_best 75 = .ok (.aload_n 0, 1) := by decide +kernel
theorem dX6_best_76 : decode cX6_best 76 = .ok (.iload_n 2, 1) := by decide +kernel
theorem dX6_best_77 : decode cX6_best 77 = .ok (.invokevirtual 132, 3) := by decide +kernel
theorem dX6_best_80 : decode cX6_best 80 = .ok (.ireturn, 1) := by decide +kernel
theorem dX6_feed_0 : decode cX6_feed 0 = .ok (.iload_n 2, 1) := by decide +kernel
theorem dX6_feed_1 : decode cX6_feed 1 = .ok (.i2l, 1) := by decide +kernel
theorem dX6_feed_2 : decode cX6_feed 2 = .ok (.iconst 1, 1) := by decide +kernel
theorem dX6_feed_3 : decode cX6_feed 3 = .ok (.iconst 4, 1) := by decide +kernel
theorem dX6_feed_4 : decode cX6_feed 4 = .ok (.invokestatic 44, 3) := by decide +kernel
theorem dX6_feed_7 : decode cX6_feed 7 = .ok (.ifCond .ne 10, 3) := by decide +kernel
theorem dX6_feed_10 : decode cX6_feed 10 = .ok (.aload_n 0, 1) := by decide +kernel
theorem dX6_feed_11 : decode cX6_feed 11 = .ok (.ldc 38, 2) := by decide +kernel
theorem dX6_feed_13 : decode cX6_feed 13 = .ok (.invokevirtual 40, 3) := by decide +kernel
theorem dX6_feed_16 : decode cX6_feed 16 = .ok (.ireturn, 1) := by decide +kernel
theorem dX6_feed_17 : decode cX6_feed 17 = .ok (.aload_n 0, 1) := by decide +kernel
theorem dX6_feed_18 : decode cX6_feed 18 = .ok (.getfield 147, 3) := by decide +kernel
theorem dX6_feed_21 : decode cX6_feed 21 = .ok (.iload_n 2, 1) := by decide +kernel
theorem dX6_feed_22 : decode cX6_feed 22 = .ok (.iadd, 1) := by decide +kernel
theorem dX6_feed_23 : decode cX6_feed 23 = .ok (.bipush 120, 2) := by decide +kernel
theorem dX6_feed_25 : decode cX6_feed 25 = .ok (.if_icmp .le 10, 3) := by decide +kernel
theorem dX6_feed_28 : decode cX6_feed 28 = .ok (.aload_n 0, 1) := by decide +kernel
theorem dX6_feed_29 : decode cX6_feed 29 = .ok (.ldc 78, 2) := by decide +kernel
theorem dX6_feed_31 : decode cX6_feed 31 = .ok (.invokevirtual 40, 3) := by decide +kernel
theorem dX6_feed_34 : decode cX6_feed 34 = .ok (.ireturn, 1) := by decide +kernel
theorem dX6_feed_35 : decode cX6_feed 35 = .ok (.iload_n 2, 1) := by decide +kernel
theorem dX6_feed_36 : decode cX6_feed 36 = .ok (.iconst 1, 1) := by decide +kernel
theorem dX6_feed_37 : decode cX6_feed 37 = .ok (.isub, 1) := by decide +kernel
theorem dX6_feed_38 : decode cX6_feed 38 = .ok (.istore_n 3, 1) := by decide +kernel
theorem dX6_feed_39 : decode cX6_feed 39 = .ok (.iload_n 3, 1) := by decide +kernel
theorem dX6_feed_40 : decode cX6_feed 40 = .ok (.ifCond .lt 38, 3) := by decide +kernel
theorem dX6_feed_43 : decode cX6_feed 43 = .ok (.aload_n 0, 1) := by decide +kernel
theorem dX6_feed_44 : decode cX6_feed 44 = .ok (.getfield 25, 3) := by decide +kernel
theorem dX6_feed_47 : decode cX6_feed 47 = .ok (.aload_n 0, 1) := by decide +kernel
theorem dX6_feed_48 : decode cX6_feed 48 = .ok (.getfield 147, 3) := by decide +kernel
theorem dX6_feed_51 : decode cX6_feed 51 = .ok (.iload_n 1, 1) := by decide +kernel
theorem dX6_feed_52 : decode cX6_feed 52 = .ok (.bipush 8, 2) := by decide +kernel
theorem dX6_feed_54 : decode cX6_feed 54 = .ok (.iload_n 3, 1) := by decide +kernel
theorem dX6_feed_55 : decode cX6_feed 55 = .ok (.imul, 1) := by decide +kernel
theorem dX6_feed_56 : decode cX6_feed 56 = .ok (.ishr, 1) := by decide +kernel
theorem dX6_feed_57 : decode cX6_feed 57 = .ok (.sipush 255, 3) := by decide +kernel
theorem dX6_feed_60 : decode cX6_feed 60 = .ok (.iand, 1) := by decide +kernel
theorem dX6_feed_61 : decode cX6_feed 61 = .ok (.iastore, 1) := by decide +kernel
theorem dX6_feed_62 : decode cX6_feed 62 = .ok (.aload_n 0, 1) := by decide +kernel
theorem dX6_feed_63 : decode cX6_feed 63 = .ok (.dup, 1) := by decide +kernel
theorem dX6_feed_64 : decode cX6_feed 64 = .ok (.getfield 147, 3) := by decide +kernel
theorem dX6_feed_67 : decode cX6_feed 67 = .ok (.iconst 1, 1) := by decide +kernel
theorem dX6_feed_68 : decode cX6_feed 68 = .ok (.iadd, 1) := by decide +kernel
theorem dX6_feed_69 : decode cX6_feed 69 = .ok (.putfield 147, 3) := by decide +kernel
theorem dX6_feed_72 : decode cX6_feed 72 = .ok (.iinc 3 (-1), 3) := by decide +kernel
theorem dX6_feed_75 : decode cX6_feed 75 = .ok (.goto (-36), 3) := by decide +kernel
theorem dX6_feed_78 : decode cX6_feed 78 = .ok (.aload_n 0, 1) := by decide +kernel
theorem dX6_feed_79 : decode cX6_feed 79 = .ok (.getfield 147, 3) := by decide +kernel
theorem dX6_feed_82 : decode cX6_feed 82 = .ok (.ireturn, 1) := by decide +kernel
theorem dX6_wipe_0 : decode cX6_wipe 0 = .ok (.aload_n 0, 1) := by decide +kernel
theorem dX6_wipe_1 : decode cX6_wipe 1 = .ok (.getfield 147, 3) := by decide +kernel
theorem dX6_wipe_4 : decode cX6_wipe 4 = .ok (.istore_n 1, 1) := by decide +kernel
theorem dX6_wipe_5 : decode cX6_wipe 5 = .ok (.aload_n 0, 1) := by decide +kernel
theorem dX6_wipe_6 : decode cX6_wipe 6 = .ok (.iconst 0, 1) := by decide +kernel
theorem dX6_wipe_7 : decode cX6_wipe 7 = .ok (.putfield 147, 3) := by decide +kernel
theorem dX6_wipe_10 : decode cX6_wipe 10 = .ok (.iload_n 1, 1) := by decide +kernel
theorem dX6_wipe_11 : decode cX6_wipe 11 = .ok (.ireturn, 1) := by decide +kernel
theorem dX6_isByte_0 : decode cX6_isByte 0 = .ok (.iload_n 1, 1) := by decide +kernel
theorem dX6_isByte_1 : decode cX6_isByte 1 = .ok (.aload_n 0, 1) := by decide +kernel
theorem dX6_isByte_2 : decode cX6_isByte 2 = .ok (.getfield 147, 3) := by decide +kernel
theorem dX6_isByte_5 : decode cX6_isByte 5 = .ok (.if_icmp .ge 22, 3) := by decide +kernel
theorem dX6_isByte_8 : decode cX6_isByte 8 = .ok (.aload_n 0, 1) := by decide +kernel
theorem dX6_isByte_9 : decode cX6_isByte 9 = .ok (.getfield 25, 3) := by decide +kernel
theorem dX6_isByte_12 : decode cX6_isByte 12 = .ok (.iload_n 1, 1) := by decide +kernel
theorem dX6_isByte_13 : decode cX6_isByte 13 = .ok (.iaload, 1) := by decide +kernel
theorem dX6_isByte_14 : decode cX6_isByte 14 = .ok (.i2l, 1) := by decide +kernel
theorem dX6_isByte_15 : decode cX6_isByte 15 = .ok (.iload_n 2, 1) := by decide +kernel
theorem dX6_isByte_16 : decode cX6_isByte 16 = .ok (.iload_n 3, 1) := by decide +kernel
theorem dX6_isByte_17 : decode cX6_isByte 17 = .ok (.invokestatic 44, 3) := by decide +kernel
theorem dX6_isByte_20 : decode cX6_isByte 20 = .ok (.ifCond .eq 7, 3) := by decide +kernel
theorem dX6_isByte_23 : decode cX6_isByte 23 = .ok (.iconst 1, 1) := by decide +kernel
theorem dX6_isByte_24 : decode cX6_isByte 24 = .ok (.goto 4, 3) := by decide +kernel
theorem dX6_isByte_27 : decode cX6_isByte 27 = .ok (.iconst 0, 1) := by decide +kernel
theorem dX6_isByte_28 : decode cX6_isByte 28 = .ok (.ireturn, 1) := by decide +kernel
theorem dX6_isName_0 : decode cX6_isName 0 = .ok (.iload_n 2, 1) := by decide +kernel
theorem dX6_isName_1 : decode cX6_isName 1 = .ok (.bipush 7, 2) := by decide +kernel
theorem dX6_isName_3 : decode cX6_isName 3 = .ok (.if_icmp .gt 26, 3) := by decide +kernel
theorem dX6_isName_6 : decode cX6_isName 6 = .ok (.iload_n 2, 1) := by decide +kernel
theorem dX6_isName_7 : decode cX6_isName 7 = .ok (.bipush 7, 2) := by decide +kernel
theorem dX6_isName_9 : decode cX6_isName 9 = .ok (.if_icmp .eq 16, 3) := by decide +kernel
theorem dX6_isName_12 : decode cX6_isName 12 = .ok (.getstatic 151, 3) := by decide +kernel
theorem dX6_isName_15 : decode cX6_isName 15 = .ok (.bipush 7, 2) := by decide +kernel
theorem dX6_isName_17 : decode cX6_isName 17 = .ok (.iload_n 1, 1) := by decide +kernel
theorem dX6_isName_18 : decode cX6_isName 18 = .ok (.imul, 1) := by decide +kernel
theorem dX6_isName_19 : decode cX6_isName 19 = .ok (.iload_n 2, 1) := by decide +kernel
theorem dX6_isName_20 : decode cX6_isName 20 = .ok (.iadd, 1) := by decide +kernel
theorem dX6_isName_21 : decode cX6_isName 21 = .ok (.iaload, 1) := by decide +kernel
theorem dX6_isName_22 : decode cX6_isName 22 = .ok (.ifCond .ne 7, 3) := by decide +kernel
theorem dX6_isName_25 : decode cX6_isName 25 = .ok (.iconst 1, 1) := by decide +kernel
theorem dX6_isName_26 : decode cX6_isName 26 = .ok (.goto 4, 3) := by decide +kernel
theorem dX6_isName_29 : decode cX6_isName 29 = .ok (.iconst 0, 1) := by decide +kernel
theorem dX6_isName_30 : decode cX6_isName 30 = .ok (.istore_n 3, 1) := by decide +kernel
theorem dX6_isName_31 : decode cX6_isName 31 = .ok (.iconst 0, 1) := by decide +kernel
theorem dX6_isName_32 : decode cX6_isName 32 = .ok (.istore 4, 2) := by decide +kernel
theorem dX6_isName_34 : decode cX6_isName 34 = .ok (.iload 4, 2) := by decide +kernel
theorem dX6_isName_36 : decode cX6_isName 36 = .ok (.iload_n 2, 1) := by decide +kernel
theorem dX6_isName_37 : decode cX6_isName 37 = .ok (.if_icmp .ge 45, 3) := by decide +kernel
theorem dX6_isName_40 : decode cX6_isName 40 = .ok (.iload_n 3, 1) := by decide +kernel
theorem dX6_isName_41 : decode cX6_isName 41 = .ok (.ifCond .eq 41, 3) := by decide +kernel
theorem dX6_isName_44 : decode cX6_isName 44 = .ok (.getstatic 151, 3) := by decide +kernel
theorem dX6_isName_47 : decode cX6_isName 47 = .ok (.bipush 7, 2) := by decide +kernel
theorem dX6_isName_49 : decode cX6_isName 49 = .ok (.iload_n 1, 1) := by decide +kernel
theorem dX6_isName_50 : decode cX6_isName 50 = .ok (.imul, 1) := by decide +kernel
theorem dX6_isName_51 : decode cX6_isName 51 = .ok (.iload 4, 2) := by decide +kernel
theorem dX6_isName_53 : decode cX6_isName 53 = .ok (.iadd, 1) := by decide +kernel
theorem dX6_isName_54 : decode cX6_isName 54 = .ok (.iaload, 1) := by decide +kernel
theorem dX6_isName_55 : decode cX6_isName 55 = .ok (.aload_n 0, 1) := by decide +kernel
theorem dX6_isName_56 : decode cX6_isName 56 = .ok (.getfield 25, 3) := by decide +kernel
theorem dX6_isName_59 : decode cX6_isName 59 = .ok (.aload_n 0, 1) := by decide +kernel
theorem dX6_isName_60 : decode cX6_isName 60 = .ok (.getfield 154, 3) := by decide +kernel
theorem dX6_isName_63 : decode cX6_isName 63 = .ok (.iload 4, 2) := by decide +kernel
theorem dX6_isName_65 : decode cX6_isName 65 = .ok (.iadd, 1) := by decide +kernel
theorem dX6_isName_66 : decode cX6_isName 66 = .ok (.iaload, 1) := by decide +kernel
theorem dX6_isName_67 : decode cX6_isName 67 = .ok (.if_icmp .ne 7, 3) := by decide +kernel
theorem dX6_isName_70 : decode cX6_isName 70 = .ok (.iconst 1, 1) := by decide +kernel
theorem dX6_isName_71 : decode cX6_isName 71 = .ok (.goto 4, 3) := by decide +kernel
theorem dX6_isName_74 : decode cX6_isName 74 = .ok (.iconst 0, 1) := by decide +kernel
theorem dX6_isName_75 : decode cX6_isName 75 = .ok (.istore_n 3, 1) := by decide +kernel
theorem dX6_isName_76 : decode cX6_isName 76 = .ok (.iinc 4 1, 3) := by decide +kernel
theorem dX6_isName_79 : decode cX6_isName 79 = .ok (.goto (-45), 3) := by decide +kernel
theorem dX6_isName_82 : decode cX6_isName 82 = .ok (.iload_n 3, 1) := by decide +kernel
theorem dX6_isName_83 : decode cX6_isName 83 = .ok (.ireturn, 1) := by decide +kernel
theorem dX6_wordHere_0 : decode cX6_wordHere 0 = .ok (.iconst 0, 1) := by decide +kernel
theorem dX6_wordHere_1 : decode cX6_wordHere 1 = .ok (.istore_n 1, 1) := by decide +kernel
theorem dX6_wordHere_2 : decode cX6_wordHere 2 = .ok (.iload_n 1, 1) := by decide +kernel
theorem dX6_wordHere_3 : decode cX6_wordHere 3 = .ok (.bipush 14, 2) := by decide +kernel
theorem dX6_wordHere_5 : decode cX6_wordHere 5 = .ok (.if_icmp .ge 26, 3) := by decide +kernel
theorem dX6_wordHere_8 : decode cX6_wordHere 8 = .ok (.aload_n 0, 1) := by decide +kernel
theorem dX6_wordHere_9 : decode cX6_wordHere 9 = .ok (.iload_n 1, 1) := by decide +kernel
theorem dX6_wordHere_10 : decode cX6_wordHere 10 = .ok (.aload_n 0, 1) := by decide +kernel
theorem dX6_wordHere_11 : decode cX6_wordHere 11 = .ok (.getfield 157, 3) := by decide +kernel
theorem dX6_wordHere_14 : decode cX6_wordHere 14 = .ok (.aload_n 0, 1) := by decide +kernel
theorem dX6_wordHere_15 : decode cX6_wordHere 15 = .ok (.getfield 154, 3) := by decide +kernel
theorem dX6_wordHere_18 : decode cX6_wordHere 18 = .ok (.isub, 1) := by decide +kernel
theorem dX6_wordHere_19 : decode cX6_wordHere 19 = .ok (.invokevirtual 160, 3) := by decide +kernel
theorem dX6_wordHere_22 : decode cX6_wordHere 22 = .ok (.ifCond .ne 9, 3) := by decide +kernel
theorem dX6_wordHere_25 : decode cX6_wordHere 25 = .ok (.iinc 1 1, 3) := by decide +kernel
theorem dX6_wordHere_28 : decode cX6_wordHere 28 = .ok (.goto (-26), 3) := by decide +kernel
theorem dX6_wordHere_31 : decode cX6_wordHere 31 = .ok (.iload_n 1, 1) := by decide +kernel
theorem dX6_wordHere_32 : decode cX6_wordHere 32 = .ok (.bipush 14, 2) := by decide +kernel
theorem dX6_wordHere_34 : decode cX6_wordHere 34 = .ok (.if_icmp .ge 7, 3) := by decide +kernel
theorem dX6_wordHere_37 : decode cX6_wordHere 37 = .ok (.iload_n 1, 1) := by decide +kernel
theorem dX6_wordHere_38 : decode cX6_wordHere 38 = .ok (.goto 5, 3) := by decide +kernel
theorem dX6_wordHere_41 : decode cX6_wordHere 41 = .ok (.bipush 23, 2) := by decide +kernel
theorem dX6_wordHere_43 : decode cX6_wordHere 43 = .ok (.ireturn, 1) := by decide +kernel
theorem dX6_reads_0 : decode cX6_reads 0 = .ok (.aload_n 0, 1) := by decide +kernel
theorem dX6_reads_1 : decode cX6_reads 1 = .ok (.aload_n 0, 1) := by decide +kernel
theorem dX6_reads_2 : decode cX6_reads 2 = .ok (.getfield 157, 3) := by decide +kernel
theorem dX6_reads_5 : decode cX6_reads 5 = .ok (.bipush 32, 2) := by decide +kernel
theorem dX6_reads_7 : decode cX6_reads 7 = .ok (.bipush 32, 2) := by decide +kernel
theorem dX6_reads_9 : decode cX6_reads 9 = .ok (.invokevirtual 164, 3) := by decide +kernel
theorem dX6_reads_12 : decode cX6_reads 12 = .ok (.ifCond .eq 16, 3) := by decide +kernel
theorem dX6_reads_15 : decode cX6_reads 15 = .ok (.aload_n 0, 1) := by decide +kernel
theorem dX6_reads_16 : decode cX6_reads 16 = .ok (.dup, 1) := by decide +kernel
theorem dX6_reads_17 : decode cX6_reads 17 = .ok (.getfield 157, 3) := by decide +kernel
theorem dX6_reads_20 : decode cX6_reads 20 = .ok (.iconst 1, 1) := by decide +kernel
theorem dX6_reads_21 : decode cX6_reads 21 = .ok (.iadd, 1) := by decide +kernel
theorem dX6_reads_22 : decode cX6_reads 22 = .ok (.putfield 157, 3) := by decide +kernel
theorem dX6_reads_25 : decode cX6_reads 25 = .ok (.goto (-25), 3) := by decide +kernel
theorem dX6_reads_28 : decode cX6_reads 28 = .ok (.aload_n 0, 1) := by decide +kernel
theorem dX6_reads_29 : decode cX6_reads 29 = .ok (.aload_n 0, 1) := by decide +kernel
theorem dX6_reads_30 : decode cX6_reads 30 = .ok (.getfield 157, 3) := by decide +kernel
theorem dX6_reads_33 : decode cX6_reads 33 = .ok (.putfield 154, 3) := by decide +kernel
theorem dX6_reads_36 : decode cX6_reads 36 = .ok (.aload_n 0, 1) := by decide +kernel
theorem dX6_reads_37 : decode cX6_reads 37 = .ok (.iconst 0, 1) := by decide +kernel
theorem dX6_reads_38 : decode cX6_reads 38 = .ok (.putfield 168, 3) := by decide +kernel
theorem dX6_reads_41 : decode cX6_reads 41 = .ok (.aload_n 0, 1) := by decide +kernel
theorem dX6_reads_42 : decode cX6_reads 42 = .ok (.getfield 157, 3) := by decide +kernel
theorem dX6_reads_45 : decode cX6_reads 45 = .ok (.aload_n 0, 1) := by decide +kernel
theorem dX6_reads_46 : decode cX6_reads 46 = .ok (.getfield 147, 3) := by decide +kernel
theorem dX6_reads_49 : decode cX6_reads 49 = .ok (.if_icmp .ne 12, 3) := by decide +kernel
theorem dX6_reads_52 : decode cX6_reads 52 = .ok (.aload_n 0, 1) := by decide +kernel
theorem dX6_reads_53 : decode cX6_reads 53 = .ok (.bipush 22, 2) := by decide +kernel
theorem dX6_reads_55 : decode cX6_reads 55 = .ok (.putfield 171, 3) := by decide +kernel
theorem dX6_reads_58 : decode cX6_reads 58 = .ok (.goto 186, 3) := by decide +kernel
theorem dX6_reads_61 : decode cX6_reads 61 = .ok (.aload_n 0, 1) := by decide +kernel
theorem dX6_reads_62 : decode cX6_reads 62 = .ok (.aload_n 0, 1) := by decide +kernel
theorem dX6_reads_63 : decode cX6_reads 63 = .ok (.getfield 157, 3) := by decide +kernel
theorem dX6_reads_66 : decode cX6_reads 66 = .ok (.bipush 97, 2) := by decide +kernel
theorem dX6_reads_68 : decode cX6_reads 68 = .ok (.bipush 122, 2) := by decide +kernel
theorem dX6_reads_70 : decode cX6_reads 70 = .ok (.invokevirtual 164, 3) := by decide +kernel
theorem dX6_reads_73 : decode cX6_reads 73 = .ok (.ifCond .eq 42, 3) := by decide +kernel
theorem dX6_reads_76 : decode cX6_reads 76 = .ok (.aload_n 0, 1) := by decide +kernel
theorem dX6_reads_77 : decode cX6_reads 77 = .ok (.aload_n 0, 1) := by decide +kernel
theorem dX6_reads_78 : decode cX6_reads 78 = .ok (.getfield 157, 3) := by decide +kernel
theorem dX6_reads_81 : decode cX6_reads 81 = .ok (.bipush 97, 2) := by decide +kernel
theorem dX6_reads_83 : decode cX6_reads 83 = .ok (.bipush 122, 2) := by decide +kernel
theorem dX6_reads_85 : decode cX6_reads 85 = .ok (.invokevirtual 164, 3) := by decide +kernel
theorem dX6_reads_88 : decode cX6_reads 88 = .ok (.ifCond .eq 16, 3) := by decide +kernel
theorem dX6_reads_91 : decode cX6_reads 91 = .ok (.aload_n 0, 1) := by decide +kernel
theorem dX6_reads_92 : decode cX6_reads 92 = .ok (.dup, 1) := by decide +kernel
theorem dX6_reads_93 : decode cX6_reads 93 = .ok (.getfield 157, 3) := by decide +kernel
theorem dX6_reads_96 : decode cX6_reads 96 = .ok (.iconst 1, 1) := by decide +kernel
theorem dX6_reads_97 : decode cX6_reads 97 = .ok (.iadd, 1) := by decide +kernel
theorem dX6_reads_98 : decode cX6_reads 98 = .ok (.putfield 157, 3) := by decide +kernel
theorem dX6_reads_101 : decode cX6_reads 101 = .ok (.goto (-25), 3) := by decide +kernel
theorem dX6_reads_104 : decode cX6_reads 104 = .ok (.aload_n 0, 1) := by decide +kernel
theorem dX6_reads_105 : decode cX6_reads 105 = .ok (.aload_n 0, 1) := by decide +kernel
theorem dX6_reads_106 : decode cX6_reads 106 = .ok (.invokevirtual 174, 3) := by decide +kernel
theorem dX6_reads_109 : decode cX6_reads 109 = .ok (.putfield 171, 3) := by decide +kernel
theorem dX6_reads_112 : decode cX6_reads 112 = .ok (.goto 132, 3) := by decide +kernel
theorem dX6_reads_115 : decode cX6_reads 115 = .ok (.aload_n 0, 1) := by decide +kernel
theorem dX6_reads_116 : decode cX6_reads 116 = .ok (.aload_n 0, 1) := by decide +kernel
theorem dX6_reads_117 : decode cX6_reads 117 = .ok (.getfield 157, 3) := by decide +kernel
theorem dX6_reads_120 : decode cX6_reads 120 = .ok (.bipush 48, 2) := by decide +kernel
theorem dX6_reads_122 : decode cX6_reads 122 = .ok (.bipush 57, 2) := by decide +kernel
theorem dX6_reads_124 : decode cX6_reads 124 = .ok (.invokevirtual 164, 3) := by decide +kernel
theorem dX6_reads_127 : decode cX6_reads 127 = .ok (.ifCond .eq 81, 3) := by decide +kernel
theorem dX6_reads_130 : decode cX6_reads 130 = .ok (.aload_n 0, 1) := by decide +kernel
theorem dX6_reads_131 : decode cX6_reads 131 = .ok (.aload_n 0, 1) := by decide +kernel
theorem dX6_reads_132 : decode cX6_reads 132 = .ok (.getfield 157, 3) := by decide +kernel
theorem dX6_reads_135 : decode cX6_reads 135 = .ok (.bipush 48, 2) := by decide +kernel
theorem dX6_reads_137 : decode cX6_reads 137 = .ok (.bipush 57, 2) := by decide +kernel
theorem dX6_reads_139 : decode cX6_reads 139 = .ok (.invokevirtual 164, 3) := by decide +kernel
theorem dX6_reads_142 : decode cX6_reads 142 = .ok (.ifCond .eq 57, 3) := by decide +kernel
theorem dX6_reads_145 : decode cX6_reads 145 = .ok (.aload_n 0, 1) := by decide +kernel
theorem dX6_reads_146 : decode cX6_reads 146 = .ok (.aload_n 0, 1) := by decide +kernel
theorem dX6_reads_147 : decode cX6_reads 147 = .ok (.getfield 168, 3) := by decide +kernel
theorem dX6_reads_150 : decode cX6_reads 150 = .ok (.sipush 999, 3) := by decide +kernel
theorem dX6_reads_153 : decode cX6_reads 153 = .ok (.if_icmp .le 10, 3) := by decide +kernel
theorem dX6_reads_156 : decode cX6_reads 156 = .ok (.aload_n 0, 1) := by decide +kernel
theorem dX6_reads_157 : decode cX6_reads 157 = .ok (.getfield 168, 3) := by decide +kernel
theorem dX6_reads_160 : decode cX6_reads 160 = .ok (.goto 23, 3) := by decide +kernel
theorem dX6_reads_163 : decode cX6_reads 163 = .ok (.bipush 10, 2) := by decide +kernel
theorem dX6_reads_165 : decode cX6_reads 165 = .ok (.aload_n 0, 1) := by decide +kernel
theorem dX6_reads_166 : decode cX6_reads 166 = .ok (.getfield 168, 3) := by decide +kernel
theorem dX6_reads_169 : decode cX6_reads 169 = .ok (.imul, 1) := by decide +kernel
theorem dX6_reads_170 : decode cX6_reads 170 = .ok (.aload_n 0, 1) := by decide +kernel
theorem dX6_reads_171 : decode cX6_reads 171 = .ok (.getfield 25, 3) := by decide +kernel
theorem dX6_reads_174 : decode cX6_reads 174 = .ok (.aload_n 0, 1) := by decide +kernel
theorem dX6_reads_175 : decode cX6_reads 175 = .ok (.getfield 157, 3) := by decide +kernel
theorem dX6_reads_178 : decode cX6_reads 178 = .ok (.iaload, 1) := by decide +kernel
theorem dX6_reads_179 : decode cX6_reads 179 = .ok (.iadd, 1) := by decide +kernel
theorem dX6_reads_180 : decode cX6_reads 180 = .ok (.bipush 48, 2) := by decide +kernel
theorem dX6_reads_182 : decode cX6_reads 182 = .ok (.isub, 1) := by decide +kernel
theorem dX6_reads_183 : decode cX6_reads 183 = .ok (.putfield 168, 3) := by decide +kernel
theorem dX6_reads_186 : decode cX6_reads 186 = .ok (.aload_n 0, 1) := by decide +kernel
theorem dX6_reads_187 : decode cX6_reads 187 = .ok (.dup, 1) := by decide +kernel
theorem dX6_reads_188 : decode cX6_reads 188 = .ok (.getfield 157, 3) := by decide +kernel
theorem dX6_reads_191 : decode cX6_reads 191 = .ok (.iconst 1, 1) := by decide +kernel
theorem dX6_reads_192 : decode cX6_reads 192 = .ok (.iadd, 1) := by decide +kernel
theorem dX6_reads_193 : decode cX6_reads 193 = .ok (.putfield 157, 3) := by decide +kernel
theorem dX6_reads_196 : decode cX6_reads 196 = .ok (.goto (-66), 3) := by decide +kernel
theorem dX6_reads_199 : decode cX6_reads 199 = .ok (.aload_n 0, 1) := by decide +kernel
theorem dX6_reads_200 : decode cX6_reads 200 = .ok (.bipush 20, 2) := by decide +kernel
theorem dX6_reads_202 : decode cX6_reads 202 = .ok (.putfield 171, 3) := by decide +kernel
theorem dX6_reads_205 : decode cX6_reads 205 = .ok (.goto 39, 3) := by decide +kernel
theorem dX6_reads_208 : decode cX6_reads 208 = .ok (.aload_n 0, 1) := by decide +kernel
theorem dX6_reads_209 : decode cX6_reads 209 = .ok (.aload_n 0, 1) := by decide +kernel
theorem dX6_reads_210 : decode cX6_reads 210 = .ok (.aload_n 0, 1) := by decide +kernel
theorem dX6_reads_211 : decode cX6_reads 211 = .ok (.getfield 157, 3) := by decide +kernel
theorem dX6_reads_214 : decode cX6_reads 214 = .ok (.bipush 59, 2) := by decide +kernel
theorem dX6_reads_216 : decode cX6_reads 216 = .ok (.bipush 59, 2) := by decide +kernel
theorem dX6_reads_218 : decode cX6_reads 218 = .ok (.invokevirtual 164, 3) := by decide +kernel
theorem dX6_reads_221 : decode cX6_reads 221 = .ok (.ifCond .eq 8, 3) := by decide +kernel
theorem dX6_reads_224 : decode cX6_reads 224 = .ok (.bipush 21, 2) := by decide +kernel
theorem dX6_reads_226 : decode cX6_reads 226 = .ok (.goto 5, 3) := by decide +kernel
theorem dX6_reads_229 : decode cX6_reads 229 = .ok (.bipush 23, 2) := by decide +kernel
theorem dX6_reads_231 : decode cX6_reads 231 = .ok (.putfield 171, 3) := by decide +kernel
theorem dX6_reads_234 : decode cX6_reads 234 = .ok (.aload_n 0, 1) := by decide +kernel
theorem dX6_reads_235 : decode cX6_reads 235 = .ok (.dup, 1) := by decide +kernel
theorem dX6_reads_236 : decode cX6_reads 236 = .ok (.getfield 157, 3) := by decide +kernel
theorem dX6_reads_239 : decode cX6_reads 239 = .ok (.iconst 1, 1) := by decide +kernel
theorem dX6_reads_240 : decode cX6_reads 240 = .ok (.iadd, 1) := by decide +kernel
theorem dX6_reads_241 : decode cX6_reads 241 = .ok (.putfield 157, 3) := by decide +kernel
theorem dX6_reads_244 : decode cX6_reads 244 = .ok (.return_, 1) := by decide +kernel
theorem dX6_passes_0 : decode cX6_passes 0 = .ok (.aload_n 0, 1) := by decide +kernel
theorem dX6_passes_1 : decode cX6_passes 1 = .ok (.getfield 177, 3) := by decide +kernel
theorem dX6_passes_4 : decode cX6_passes 4 = .ok (.ifCond .ne 11, 3) := by decide +kernel
theorem dX6_passes_7 : decode cX6_passes 7 = .ok (.aload_n 0, 1) := by decide +kernel
theorem dX6_passes_8 : decode cX6_passes 8 = .ok (.getfield 171, 3) := by decide +kernel
theorem dX6_passes_11 : decode cX6_passes 11 = .ok (.iload_n 1, 1) := by decide +kernel
theorem dX6_passes_12 : decode cX6_passes 12 = .ok (.if_icmp .eq 5, 3) := by decide +kernel
theorem dX6_passes_15 : decode cX6_passes 15 = .ok (.iconst 0, 1) := by decide +kernel
theorem dX6_passes_16 : decode cX6_passes 16 = .ok (.ireturn, 1) := by decide +kernel
theorem dX6_passes_17 : decode cX6_passes 17 = .ok (.aload_n 0, 1) := by decide +kernel
theorem dX6_passes_18 : decode cX6_passes 18 = .ok (.invokevirtual 181, 3) := by decide +kernel
theorem dX6_passes_21 : decode cX6_passes 21 = .ok (.iconst 1, 1) := by decide +kernel
theorem dX6_passes_22 : decode cX6_passes 22 = .ok (.ireturn, 1) := by decide +kernel
theorem dX6_number_0 : decode cX6_number 0 = .ok (.aload_n 0, 1) := by decide +kernel
theorem dX6_number_1 : decode cX6_number 1 = .ok (.getfield 168, 3) := by decide +kernel
theorem dX6_number_4 : decode cX6_number 4 = .ok (.istore_n 3, 1) := by decide +kernel
theorem dX6_number_5 : decode cX6_number 5 = .ok (.aload_n 0, 1) := by decide +kernel
theorem dX6_number_6 : decode cX6_number 6 = .ok (.aload_n 0, 1) := by decide +kernel
theorem dX6_number_7 : decode cX6_number 7 = .ok (.getfield 177, 3) := by decide +kernel
theorem dX6_number_10 : decode cX6_number 10 = .ok (.ifCond .ne 22, 3) := by decide +kernel
theorem dX6_number_13 : decode cX6_number 13 = .ok (.aload_n 0, 1) := by decide +kernel
theorem dX6_number_14 : decode cX6_number 14 = .ok (.getfield 171, 3) := by decide +kernel
theorem dX6_number_17 : decode cX6_number 17 = .ok (.bipush 20, 2) := by decide +kernel
theorem dX6_number_19 : decode cX6_number 19 = .ok (.if_icmp .ne 13, 3) := by decide +kernel
theorem dX6_number_22 : decode cX6_number 22 = .ok (.iload_n 3, 1) := by decide +kernel
theorem dX6_number_23 : decode cX6_number 23 = .ok (.i2l, 1) := by decide +kernel
theorem dX6_number_24 : decode cX6_number 24 = .ok (.iload_n 1, 1) := by decide +kernel
theorem dX6_number_25 : decode cX6_number 25 = .ok (.iload_n 2, 1) := by decide +kernel
theorem dX6_number_26 : decode cX6_number 26 = .ok (.invokestatic 44, 3) := by decide +kernel
theorem dX6_number_29 : decode cX6_number 29 = .ok (.ifCond .ne 7, 3) := by decide +kernel
theorem dX6_number_32 : decode cX6_number 32 = .ok (.iconst 1, 1) := by decide +kernel
theorem dX6_number_33 : decode cX6_number 33 = .ok (.goto 4, 3) := by decide +kernel
theorem dX6_number_36 : decode cX6_number 36 = .ok (.iconst 0, 1) := by decide +kernel
theorem dX6_number_37 : decode cX6_number 37 = .ok (.putfield 177, 3) := by decide +kernel
theorem dX6_number_40 : decode cX6_number 40 = .ok (.aload_n 0, 1) := by decide +kernel
theorem dX6_number_41 : decode cX6_number 41 = .ok (.getfield 177, 3) := by decide +kernel
theorem dX6_number_44 : decode cX6_number 44 = .ok (.ifCond .ne 7, 3) := by decide +kernel
theorem dX6_number_47 : decode cX6_number 47 = .ok (.aload_n 0, 1) := by decide +kernel
theorem dX6_number_48 : decode cX6_number 48 = .ok (.invokevirtual 181, 3) := by decide +kernel
theorem dX6_number_51 : decode cX6_number 51 = .ok (.iload_n 3, 1) := by decide +kernel
theorem dX6_number_52 : decode cX6_number 52 = .ok (.ireturn, 1) := by decide +kernel
theorem dX6_perhaps_0 : decode cX6_perhaps 0 = .ok (.aload_n 0, 1) := by decide +kernel
theorem dX6_perhaps_1 : decode cX6_perhaps 1 = .ok (.iload_n 1, 1) := by decide +kernel
theorem dX6_perhaps_2 : decode cX6_perhaps 2 = .ok (.invokevirtual 184, 3) := by decide +kernel
theorem dX6_perhaps_5 : decode cX6_perhaps 5 = .ok (.ifCond .eq 12, 3) := by decide +kernel
theorem dX6_perhaps_8 : decode cX6_perhaps 8 = .ok (.aload_n 0, 1) := by decide +kernel
theorem dX6_perhaps_9 : decode cX6_perhaps 9 = .ok (.iload_n 2, 1) := by decide +kernel
theorem dX6_perhaps_10 : decode cX6_perhaps 10 = .ok (.iload_n 3, 1) := by decide +kernel
theorem dX6_perhaps_11 : decode cX6_perhaps 11 = .ok (.invokevirtual 187, 3) := by decide +kernel
theorem dX6_perhaps_14 : decode cX6_perhaps 14 = .ok (.goto 5, 3) := by decide +kernel
theorem dX6_perhaps_17 : decode cX6_perhaps 17 = .ok (.iload 4, 2) := by decide +kernel
theorem dX6_perhaps_19 : decode cX6_perhaps 19 = .ok (.ireturn, 1) := by decide +kernel
theorem dX6_hatItem_0 : decode cX6_hatItem 0 = .ok (.aload_n 0, 1) := by decide +kernel
theorem dX6_hatItem_1 : decode cX6_hatItem 1 = .ok (.getfield 171, 3) := by decide +kernel
theorem dX6_hatItem_4 : decode cX6_hatItem 4 = .ok (.istore_n 1, 1) := by decide +kernel
theorem dX6_hatItem_5 : decode cX6_hatItem 5 = .ok (.aload_n 0, 1) := by decide +kernel
theorem dX6_hatItem_6 : decode cX6_hatItem 6 = .ok (.aload_n 0, 1) := by decide +kernel
theorem dX6_hatItem_7 : decode cX6_hatItem 7 = .ok (.getfield 9, 3) := by decide +kernel
theorem dX6_hatItem_10 : decode cX6_hatItem 10 = .ok (.iconst 3, 1) := by decide +kernel
theorem dX6_hatItem_11 : decode cX6_hatItem 11 = .ok (.iaload, 1) := by decide +kernel
theorem dX6_hatItem_12 : decode cX6_hatItem 12 = .ok (.bipush 10, 2) := by decide +kernel
theorem dX6_hatItem_14 : decode cX6_hatItem 14 = .ok (.if_icmp .ne 7, 3) := by decide +kernel
theorem dX6_hatItem_17 : decode cX6_hatItem 17 = .ok (.iconst 1, 1) := by decide +kernel
theorem dX6_hatItem_18 : decode cX6_hatItem 18 = .ok (.goto 4, 3) := by decide +kernel
theorem dX6_hatItem_21 : decode cX6_hatItem 21 = .ok (.iconst 0, 1) := by decide +kernel
theorem dX6_hatItem_22 : decode cX6_hatItem 22 = .ok (.putfield 177, 3) := by decide +kernel
theorem dX6_hatItem_25 : decode cX6_hatItem 25 = .ok (.aload_n 0, 1) := by decide +kernel
theorem dX6_hatItem_26 : decode cX6_hatItem 26 = .ok (.getfield 177, 3) := by decide +kernel
theorem dX6_hatItem_29 : decode cX6_hatItem 29 = .ok (.ifCond .eq 4, 3) := by decide +kernel
theorem dX6_hatItem_32 : decode cX6_hatItem 32 = .ok (.return_, 1) := by decide +kernel
theorem dX6_hatItem_33 : decode cX6_hatItem 33 = .ok (.aload_n 0, 1) := by decide +kernel
theorem dX6_hatItem_34 : decode cX6_hatItem 34 = .ok (.invokevirtual 181, 3) := by decide +kernel
theorem dX6_hatItem_37 : decode cX6_hatItem 37 = .ok (.aload_n 0, 1) := by decide +kernel
theorem dX6_hatItem_38 : decode cX6_hatItem 38 = .ok (.bipush 6, 2) := by decide +kernel
theorem dX6_hatItem_40 : decode cX6_hatItem 40 = .ok (.iconst 0, 1) := by decide +kernel
theorem dX6_hatItem_41 : decode cX6_hatItem 41 = .ok (.sipush 255, 3) := by decide +kernel
theorem dX6_hatItem_44 : decode cX6_hatItem 44 = .ok (.iconst 0, 1) := by decide +kernel
theorem dX6_hatItem_45 : decode cX6_hatItem 45 = .ok (.invokevirtual 190, 3) := by decide +kernel
theorem dX6_hatItem_48 : decode cX6_hatItem 48 = .ok (.istore_n 2, 1) := by decide +kernel
theorem dX6_hatItem_49 : decode cX6_hatItem 49 = .ok (.aload_n 0, 1) := by decide +kernel
theorem dX6_hatItem_50 : decode cX6_hatItem 50 = .ok (.bipush 7, 2) := by decide +kernel
theorem dX6_hatItem_52 : decode cX6_hatItem 52 = .ok (.iconst 0, 1) := by decide +kernel
theorem dX6_hatItem_53 : decode cX6_hatItem 53 = .ok (.bipush 99, 2) := by decide +kernel
theorem dX6_hatItem_55 : decode cX6_hatItem 55 = .ok (.bipush 50, 2) := by decide +kernel
theorem dX6_hatItem_57 : decode cX6_hatItem 57 = .ok (.invokevirtual 190, 3) := by decide +kernel
theorem dX6_hatItem_60 : decode cX6_hatItem 60 = .ok (.istore_n 3, 1) := by decide +kernel
theorem dX6_hatItem_61 : decode cX6_hatItem 61 = .ok (.aload_n 0, 1) := by decide +kernel
theorem dX6_hatItem_62 : decode cX6_hatItem 62 = .ok (.bipush 8, 2) := by decide +kernel
theorem dX6_hatItem_64 : decode cX6_hatItem 64 = .ok (.invokevirtual 184, 3) := by decide +kernel
theorem dX6_hatItem_67 : decode cX6_hatItem 67 = .ok (.ifCond .eq 7, 3) := by decide +kernel
theorem dX6_hatItem_70 : decode cX6_hatItem 70 = .ok (.iconst 0, 1) := by decide +kernel
theorem dX6_hatItem_71 : decode cX6_hatItem 71 = .ok (.goto 4, 3) := by decide +kernel
theorem dX6_hatItem_74 : decode cX6_hatItem 74 = .ok (.iconst 1, 1) := by decide +kernel
theorem dX6_hatItem_75 : decode cX6_hatItem 75 = .ok (.istore 4, 2) := by decide +kernel
theorem dX6_hatItem_77 : decode cX6_hatItem 77 = .ok (.aload_n 0, 1) := by decide +kernel
theorem dX6_hatItem_78 : decode cX6_hatItem 78 = .ok (.getfield 177, 3) := by decide +kernel
theorem dX6_hatItem_81 : decode cX6_hatItem 81 = .ok (.ifCond .ne 14, 3) := by decide +kernel
theorem dX6_hatItem_84 : decode cX6_hatItem 84 = .ok (.aload_n 0, 1) := by decide +kernel
theorem dX6_hatItem_85 : decode cX6_hatItem 85 = .ok (.iload_n 1, 1) := by decide +kernel
theorem dX6_hatItem_86 : decode cX6_hatItem 86 = .ok (.iload_n 2, 1) := by decide +kernel
theorem dX6_hatItem_87 : decode cX6_hatItem 87 = .ok (.iload_n 3, 1) := by decide +kernel
theorem dX6_hatItem_88 : decode cX6_hatItem 88 = .ok (.iload 4, 2) := by decide +kernel
theorem dX6_hatItem_90 : decode cX6_hatItem 90 = .ok (.invokevirtual 79, 3) := by decide +kernel
theorem dX6_hatItem_93 : decode cX6_hatItem 93 = .ok (.istore 5, 2) := by decide +kernel
theorem dX6_hatItem_95 : decode cX6_hatItem 95 = .ok (.return_, 1) := by decide +kernel
theorem dX6_holdsItem_0 : decode cX6_holdsItem 0 = .ok (.aload_n 0, 1) := by decide +kernel
theorem dX6_holdsItem_1 : decode cX6_holdsItem 1 = .ok (.iconst 0, 1) := by decide +kernel
theorem dX6_holdsItem_2 : decode cX6_holdsItem 2 = .ok (.bipush 7, 2) := by decide +kernel
theorem dX6_holdsItem_4 : decode cX6_holdsItem 4 = .ok (.invokevirtual 187, 3) := by decide +kernel
theorem dX6_holdsItem_7 : decode cX6_holdsItem 7 = .ok (.istore_n 1, 1) := by decide +kernel
theorem dX6_holdsItem_8 : decode cX6_holdsItem 8 = .ok (.aload_n 0, 1) := by decide +kernel
theorem dX6_holdsItem_9 : decode cX6_holdsItem 9 = .ok (.bipush 11, 2) := by decide +kernel
theorem dX6_holdsItem_11 : decode cX6_holdsItem 11 = .ok (.invokevirtual 184, 3) := by decide +kernel
theorem dX6_holdsItem_14 : decode cX6_holdsItem 14 = .ok (.istore_n 2, 1) := by decide +kernel
theorem dX6_holdsItem_15 : decode cX6_holdsItem 15 = .ok (.aload_n 0, 1) := by decide +kernel
theorem dX6_holdsItem_16 : decode cX6_holdsItem 16 = .ok (.aload_n 0, 1) := by decide +kernel
theorem dX6_holdsItem_17 : decode cX6_holdsItem 17 = .ok (.getfield 177, 3) := by decide +kernel
theorem dX6_holdsItem_20 : decode cX6_holdsItem 20 = .ok (.ifCond .ne 16, 3) := by decide +kernel
theorem dX6_holdsItem_23 : decode cX6_holdsItem 23 = .ok (.iload_n 2, 1) := by decide +kernel
theorem dX6_holdsItem_24 : decode cX6_holdsItem 24 = .ok (.ifCond .ne 16, 3) := by decide +kernel
theorem dX6_holdsItem_27 : decode cX6_holdsItem 27 = .ok (.aload_n 0, 1) := by decide +kernel
theorem dX6_holdsItem_28 : decode cX6_holdsItem 28 = .ok (.bipush 12, 2) := by decide +kernel
theorem dX6_holdsItem_30 : decode cX6_holdsItem 30 = .ok (.invokevirtual 184, 3) := by decide +kernel
theorem dX6_holdsItem_33 : decode cX6_holdsItem 33 = .ok (.ifCond .ne 7, 3) := by decide +kernel
theorem dX6_holdsItem_36 : decode cX6_holdsItem 36 = .ok (.iconst 1, 1) := by decide +kernel
theorem dX6_holdsItem_37 : decode cX6_holdsItem 37 = .ok (.goto 4, 3) := by decide +kernel
theorem dX6_holdsItem_40 : decode cX6_holdsItem 40 = .ok (.iconst 0, 1) := by decide +kernel
theorem dX6_holdsItem_41 : decode cX6_holdsItem 41 = .ok (.putfield 177, 3) := by decide +kernel
theorem dX6_holdsItem_44 : decode cX6_holdsItem 44 = .ok (.aload_n 0, 1) := by decide +kernel
theorem dX6_holdsItem_45 : decode cX6_holdsItem 45 = .ok (.getfield 177, 3) := by decide +kernel
theorem dX6_holdsItem_48 : decode cX6_holdsItem 48 = .ok (.ifCond .ne 28, 3) := by decide +kernel
theorem dX6_holdsItem_51 : decode cX6_holdsItem 51 = .ok (.aload_n 0, 1) := by decide +kernel
theorem dX6_holdsItem_52 : decode cX6_holdsItem 52 = .ok (.getfield 9, 3) := by decide +kernel
theorem dX6_holdsItem_55 : decode cX6_holdsItem 55 = .ok (.iconst 2, 1) := by decide +kernel
theorem dX6_holdsItem_56 : decode cX6_holdsItem 56 = .ok (.aload_n 0, 1) := by decide +kernel
theorem dX6_holdsItem_57 : decode cX6_holdsItem 57 = .ok (.getfield 9, 3) := by decide +kernel
theorem dX6_holdsItem_60 : decode cX6_holdsItem 60 = .ok (.iconst 2, 1) := by decide +kernel
theorem dX6_holdsItem_61 : decode cX6_holdsItem 61 = .ok (.iaload, 1) := by decide +kernel
theorem dX6_holdsItem_62 : decode cX6_holdsItem 62 = .ok (.iload_n 1, 1) := by decide +kernel
theorem dX6_holdsItem_63 : decode cX6_holdsItem 63 = .ok (.iload_n 2, 1) := by decide +kernel
theorem dX6_holdsItem_64 : decode cX6_holdsItem 64 = .ok (.ifCond .eq 7, 3) := by decide +kernel
theorem dX6_holdsItem_67 : decode cX6_holdsItem 67 = .ok (.iconst 1, 1) := by decide +kernel
theorem dX6_holdsItem_68 : decode cX6_holdsItem 68 = .ok (.goto 4, 3) := by decide +kernel
theorem dX6_holdsItem_71 : decode cX6_holdsItem 71 = .ok (.iconst 0, 1) := by decide +kernel
theorem dX6_holdsItem_72 : decode cX6_holdsItem 72 = .ok (.invokestatic 101, 3) := by decide +kernel
theorem dX6_holdsItem_75 : decode cX6_holdsItem 75 = .ok (.iastore, 1) := by decide +kernel
theorem dX6_holdsItem_76 : decode cX6_holdsItem 76 = .ok (.return_, 1) := by decide +kernel
theorem dX6_item_0 : decode cX6_item 0 = .ok (.aload_n 0, 1) := by decide +kernel
theorem dX6_item_1 : decode cX6_item 1 = .ok (.getfield 171, 3) := by decide +kernel
theorem dX6_item_4 : decode cX6_item 4 = .ok (.iconst 5, 1) := by decide +kernel
theorem dX6_item_5 : decode cX6_item 5 = .ok (.if_icmp .gt 10, 3) := by decide +kernel
theorem dX6_item_8 : decode cX6_item 8 = .ok (.aload_n 0, 1) := by decide +kernel
theorem dX6_item_9 : decode cX6_item 9 = .ok (.invokevirtual 193, 3) := by decide +kernel
theorem dX6_item_12 : decode cX6_item 12 = .ok (.goto 90, 3) := by decide +kernel
theorem dX6_item_15 : decode cX6_item 15 = .ok (.aload_n 0, 1) := by decide +kernel
theorem dX6_item_16 : decode cX6_item 16 = .ok (.bipush 9, 2) := by decide +kernel
theorem dX6_item_18 : decode cX6_item 18 = .ok (.invokevirtual 184, 3) := by decide +kernel
theorem dX6_item_21 : decode cX6_item 21 = .ok (.ifCond .eq 20, 3) := by decide +kernel
theorem dX6_item_24 : decode cX6_item 24 = .ok (.aload_n 0, 1) := by decide +kernel
theorem dX6_item_25 : decode cX6_item 25 = .ok (.getfield 9, 3) := by decide +kernel
theorem dX6_item_28 : decode cX6_item 28 = .ok (.iconst 1, 1) := by decide +kernel
theorem dX6_item_29 : decode cX6_item 29 = .ok (.aload_n 0, 1) := by decide +kernel
theorem dX6_item_30 : decode cX6_item 30 = .ok (.iconst 0, 1) := by decide +kernel
theorem dX6_item_31 : decode cX6_item 31 = .ok (.sipush 255, 3) := by decide +kernel
theorem dX6_item_34 : decode cX6_item 34 = .ok (.invokevirtual 187, 3) := by decide +kernel
theorem dX6_item_37 : decode cX6_item 37 = .ok (.iastore, 1) := by decide +kernel
theorem dX6_item_38 : decode cX6_item 38 = .ok (.goto 64, 3) := by decide +kernel
theorem dX6_item_41 : decode cX6_item 41 = .ok (.aload_n 0, 1) := by decide +kernel
theorem dX6_item_42 : decode cX6_item 42 = .ok (.bipush 10, 2) := by decide +kernel
theorem dX6_item_44 : decode cX6_item 44 = .ok (.invokevirtual 184, 3) := by decide +kernel
theorem dX6_item_47 : decode cX6_item 47 = .ok (.ifCond .eq 10, 3) := by decide +kernel
theorem dX6_item_50 : decode cX6_item 50 = .ok (.aload_n 0, 1) := by decide +kernel
theorem dX6_item_51 : decode cX6_item 51 = .ok (.invokevirtual 196, 3) := by decide +kernel
theorem dX6_item_54 : decode cX6_item 54 = .ok (.goto 48, 3) := by decide +kernel
theorem dX6_item_57 : decode cX6_item 57 = .ok (.aload_n 0, 1) := by decide +kernel
theorem dX6_item_58 : decode cX6_item 58 = .ok (.bipush 13, 2) := by decide +kernel
theorem dX6_item_60 : decode cX6_item 60 = .ok (.invokevirtual 184, 3) := by decide +kernel
theorem dX6_item_63 : decode cX6_item 63 = .ok (.ifCond .eq 34, 3) := by decide +kernel
theorem dX6_item_66 : decode cX6_item 66 = .ok (.aload_n 0, 1) := by decide +kernel
theorem dX6_item_67 : decode cX6_item 67 = .ok (.iconst 0, 1) := by decide +kernel
theorem dX6_item_68 : decode cX6_item 68 = .ok (.aload_n 0, 1) := by decide +kernel
theorem dX6_item_69 : decode cX6_item 69 = .ok (.getfield 9, 3) := by decide +kernel
theorem dX6_item_72 : decode cX6_item 72 = .ok (.iconst 3, 1) := by decide +kernel
theorem dX6_item_73 : decode cX6_item 73 = .ok (.iaload, 1) := by decide +kernel
theorem dX6_item_74 : decode cX6_item 74 = .ok (.iconst 1, 1) := by decide +kernel
theorem dX6_item_75 : decode cX6_item 75 = .ok (.isub, 1) := by decide +kernel
theorem dX6_item_76 : decode cX6_item 76 = .ok (.invokevirtual 187, 3) := by decide +kernel
theorem dX6_item_79 : decode cX6_item 79 = .ok (.istore_n 1, 1) := by decide +kernel
theorem dX6_item_80 : decode cX6_item 80 = .ok (.aload_n 0, 1) := by decide +kernel
theorem dX6_item_81 : decode cX6_item 81 = .ok (.getfield 177, 3) := by decide +kernel
theorem dX6_item_84 : decode cX6_item 84 = .ok (.ifCond .ne 10, 3) := by decide +kernel
theorem dX6_item_87 : decode cX6_item 87 = .ok (.aload_n 0, 1) := by decide +kernel
theorem dX6_item_88 : decode cX6_item 88 = .ok (.iload_n 1, 1) := by decide +kernel
theorem dX6_item_89 : decode cX6_item 89 = .ok (.iconst 5, 1) := by decide +kernel
theorem dX6_item_90 : decode cX6_item 90 = .ok (.iconst 0, 1) := by decide +kernel
theorem dX6_item_91 : decode cX6_item 91 = .ok (.invokevirtual 74, 3) := by decide +kernel
theorem dX6_item_94 : decode cX6_item 94 = .ok (.goto 8, 3) := by decide +kernel
theorem dX6_item_97 : decode cX6_item 97 = .ok (.aload_n 0, 1) := by decide +kernel
theorem dX6_item_98 : decode cX6_item 98 = .ok (.iconst 1, 1) := by decide +kernel
theorem dX6_item_99 : decode cX6_item 99 = .ok (.putfield 177, 3) := by decide +kernel
theorem dX6_item_102 : decode cX6_item 102 = .ok (.return_, 1) := by decide +kernel
theorem dX6_lobby_0 : decode cX6_lobby 0 = .ok (.aload_n 0, 1) := by decide +kernel
theorem dX6_lobby_1 : decode cX6_lobby 1 = .ok (.invokevirtual 120, 3) := by decide +kernel
theorem dX6_lobby_4 : decode cX6_lobby 4 = .ok (.aload_n 0, 1) := by decide +kernel
theorem dX6_lobby_5 : decode cX6_lobby 5 = .ok (.iconst 0, 1) := by decide +kernel
theorem dX6_lobby_6 : decode cX6_lobby 6 = .ok (.putfield 157, 3) := by decide +kernel
theorem dX6_lobby_9 : decode cX6_lobby 9 = .ok (.aload_n 0, 1) := by decide +kernel
theorem dX6_lobby_10 : decode cX6_lobby 10 = .ok (.iconst 0, 1) := by decide +kernel
theorem dX6_lobby_11 : decode cX6_lobby 11 = .ok (.putfield 177, 3) := by decide +kernel
theorem dX6_lobby_14 : decode cX6_lobby 14 = .ok (.aload_n 0, 1) := by decide +kernel
theorem dX6_lobby_15 : decode cX6_lobby 15 = .ok (.invokevirtual 181, 3) := by decide +kernel
theorem dX6_lobby_18 : decode cX6_lobby 18 = .ok (.aload_n 0, 1) := by decide +kernel
theorem dX6_lobby_19 : decode cX6_lobby 19 = .ok (.invokevirtual 199, 3) := by decide +kernel
theorem dX6_lobby_22 : decode cX6_lobby 22 = .ok (.iconst 1, 1) := by decide +kernel
theorem dX6_lobby_23 : decode cX6_lobby 23 = .ok (.istore_n 1, 1) := by decide +kernel
theorem dX6_lobby_24 : decode cX6_lobby 24 = .ok (.aload_n 0, 1) := by decide +kernel
theorem dX6_lobby_25 : decode cX6_lobby 25 = .ok (.bipush 21, 2) := by decide +kernel
theorem dX6_lobby_27 : decode cX6_lobby 27 = .ok (.invokevirtual 184, 3) := by decide +kernel
theorem dX6_lobby_30 : decode cX6_lobby 30 = .ok (.ifCond .eq 13, 3) := by decide +kernel
theorem dX6_lobby_33 : decode cX6_lobby 33 = .ok (.aload_n 0, 1) := by decide +kernel
theorem dX6_lobby_34 : decode cX6_lobby 34 = .ok (.invokevirtual 199, 3) := by decide +kernel
theorem dX6_lobby_37 : decode cX6_lobby 37 = .ok (.iinc 1 1, 3) := by decide +kernel
theorem dX6_lobby_40 : decode cX6_lobby 40 = .ok (.goto (-16), 3) := by decide +kernel
theorem dX6_lobby_43 : decode cX6_lobby 43 = .ok (.aload_n 0, 1) := by decide +kernel
theorem dX6_lobby_44 : decode cX6_lobby 44 = .ok (.aload_n 0, 1) := by decide +kernel
theorem dX6_lobby_45 : decode cX6_lobby 45 = .ok (.getfield 177, 3) := by decide +kernel
theorem dX6_lobby_48 : decode cX6_lobby 48 = .ok (.ifCond .ne 12, 3) := by decide +kernel
theorem dX6_lobby_51 : decode cX6_lobby 51 = .ok (.aload_n 0, 1) := by decide +kernel
theorem dX6_lobby_52 : decode cX6_lobby 52 = .ok (.getfield 171, 3) := by decide +kernel
theorem dX6_lobby_55 : decode cX6_lobby 55 = .ok (.bipush 22, 2) := by decide +kernel
theorem dX6_lobby_57 : decode cX6_lobby 57 = .ok (.if_icmp .eq 7, 3) := by decide +kernel
theorem dX6_lobby_60 : decode cX6_lobby 60 = .ok (.iconst 1, 1) := by decide +kernel
theorem dX6_lobby_61 : decode cX6_lobby 61 = .ok (.goto 4, 3) := by decide +kernel
theorem dX6_lobby_64 : decode cX6_lobby 64 = .ok (.iconst 0, 1) := by decide +kernel
theorem dX6_lobby_65 : decode cX6_lobby 65 = .ok (.putfield 177, 3) := by decide +kernel
theorem dX6_lobby_68 : decode cX6_lobby 68 = .ok (.aload_n 0, 1) := by decide +kernel
theorem dX6_lobby_69 : decode cX6_lobby 69 = .ok (.iconst 0, 1) := by decide +kernel
theorem dX6_lobby_70 : decode cX6_lobby 70 = .ok (.putfield 147, 3) := by decide +kernel
theorem dX6_lobby_73 : decode cX6_lobby 73 = .ok (.aload_n 0, 1) := by decide +kernel
theorem dX6_lobby_74 : decode cX6_lobby 74 = .ok (.getfield 177, 3) := by decide +kernel
theorem dX6_lobby_77 : decode cX6_lobby 77 = .ok (.ifCond .ne 5, 3) := by decide +kernel
theorem dX6_lobby_80 : decode cX6_lobby 80 = .ok (.iload_n 1, 1) := by decide +kernel
theorem dX6_lobby_81 : decode cX6_lobby 81 = .ok (.ireturn, 1) := by decide +kernel
theorem dX6_lobby_82 : decode cX6_lobby 82 = .ok (.aload_n 0, 1) := by decide +kernel
theorem dX6_lobby_83 : decode cX6_lobby 83 = .ok (.invokevirtual 123, 3) := by decide +kernel
theorem dX6_lobby_86 : decode cX6_lobby 86 = .ok (.iconst (-1), 1) := by decide +kernel
theorem dX6_lobby_87 : decode cX6_lobby 87 = .ok (.aload_n 0, 1) := by decide +kernel
theorem dX6_lobby_88 : decode cX6_lobby 88 = .ok (.getfield 154, 3) := by decide +kernel
theorem dX6_lobby_91 : decode cX6_lobby 91 = .ok (.isub, 1) := by decide +kernel
theorem dX6_lobby_92 : decode cX6_lobby 92 = .ok (.ireturn, 1) := by decide +kernel
theorem dX6_isSheet_0 : decode cX6_isSheet 0 = .ok (.iload_n 0, 1) := by decide +kernel
theorem dX6_isSheet_1 : decode cX6_isSheet 1 = .ok (.i2l, 1) := by decide +kernel
theorem dX6_isSheet_2 : decode cX6_isSheet 2 = .ok (.iconst 0, 1) := by decide +kernel
theorem dX6_isSheet_3 : decode cX6_isSheet 3 = .ok (.iconst 3, 1) := by decide +kernel
theorem dX6_isSheet_4 : decode cX6_isSheet 4 = .ok (.invokestatic 44, 3) := by decide +kernel
theorem dX6_isSheet_7 : decode cX6_isSheet 7 = .ok (.ireturn, 1) := by decide +kernel
theorem dX6_sheet_0 : decode cX6_sheet 0 = .ok (.iload_n 1, 1) := by decide +kernel
theorem dX6_sheet_1 : decode cX6_sheet 1 = .ok (.invokestatic 202, 3) := by decide +kernel
theorem dX6_sheet_4 : decode cX6_sheet 4 = .ok (.ifCond .eq 25, 3) := by decide +kernel
theorem dX6_sheet_7 : decode cX6_sheet 7 = .ok (.iload_n 2, 1) := by decide +kernel
theorem dX6_sheet_8 : decode cX6_sheet 8 = .ok (.ifCond .eq 28, 3) := by decide +kernel
theorem dX6_sheet_11 : decode cX6_sheet 11 = .ok (.iload_n 2, 1) := by decide +kernel
theorem dX6_sheet_12 : decode cX6_sheet 12 = .ok (.bipush 8, 2) := by decide +kernel
theorem dX6_sheet_14 : decode cX6_sheet 14 = .ok (.if_icmp .eq 22, 3) := by decide +kernel
theorem dX6_sheet_17 : decode cX6_sheet 17 = .ok (.iload_n 2, 1) := by decide +kernel
theorem dX6_sheet_18 : decode cX6_sheet 18 = .ok (.bipush 16, 2) := by decide +kernel
theorem dX6_sheet_20 : decode cX6_sheet 20 = .ok (.if_icmp .eq 16, 3) := by decide +kernel
theorem dX6_sheet_23 : decode cX6_sheet 23 = .ok (.iload_n 2, 1) := by decide +kernel
theorem dX6_sheet_24 : decode cX6_sheet 24 = .ok (.bipush 64, 2) := by decide +kernel
theorem dX6_sheet_26 : decode cX6_sheet 26 = .ok (.if_icmp .eq 10, 3) := by decide +kernel
theorem dX6_sheet_29 : decode cX6_sheet 29 = .ok (.aload_n 0, 1) := by decide +kernel
theorem dX6_sheet_30 : decode cX6_sheet 30 = .ok (.ldc 38, 2) := by decide +kernel
theorem dX6_sheet_32 : decode cX6_sheet 32 = .ok (.invokevirtual 40, 3) := by decide +kernel
theorem dX6_sheet_35 : decode cX6_sheet 35 = .ok (.ireturn, 1) := by decide +kernel
theorem dX6_sheet_36 : decode cX6_sheet 36 = .ok (.iload_n 3, 1) := by decide +kernel
theorem dX6_sheet_37 : decode cX6_sheet 37 = .ok (.ifCond .ge 10, 3) := by decide +kernel
theorem dX6_sheet_40 : decode cX6_sheet 40 = .ok (.aload_n 0, 1) := by decide +kernel
theorem dX6_sheet_41 : decode cX6_sheet 41 = .ok (.ldc 205, 2) := by decide +kernel
theorem dX6_sheet_43 : decode cX6_sheet 43 = .ok (.invokevirtual 40, 3) := by decide +kernel
theorem dX6_sheet_46 : decode cX6_sheet 46 = .ok (.ireturn, 1) := by decide +kernel
theorem dX6_sheet_47 : decode cX6_sheet 47 = .ok (.iload_n 3, 1) := by decide +kernel
theorem dX6_sheet_48 : decode cX6_sheet 48 = .ok (.bipush 40, 2) := by decide +kernel
theorem dX6_sheet_50 : decode cX6_sheet 50 = .ok (.if_icmp .le 10, 3) := by decide +kernel
theorem dX6_sheet_53 : decode cX6_sheet 53 = .ok (.aload_n 0, 1) := by decide +kernel
theorem dX6_sheet_54 : decode cX6_sheet 54 = .ok (.ldc 38, 2) := by decide +kernel
theorem dX6_sheet_56 : decode cX6_sheet 56 = .ok (.invokevirtual 40, 3) := by decide +kernel
theorem dX6_sheet_59 : decode cX6_sheet 59 = .ok (.ireturn, 1) := by decide +kernel
theorem dX6_sheet_60 : decode cX6_sheet 60 = .ok (.aload_n 0, 1) := by decide +kernel
theorem dX6_sheet_61 : decode cX6_sheet 61 = .ok (.getfield 28, 3) := by decide +kernel
theorem dX6_sheet_64 : decode cX6_sheet 64 = .ok (.iload_n 1, 1) := by decide +kernel
theorem dX6_sheet_65 : decode cX6_sheet 65 = .ok (.iload_n 2, 1) := by decide +kernel
theorem dX6_sheet_66 : decode cX6_sheet 66 = .ok (.iastore, 1) := by decide +kernel
theorem dX6_sheet_67 : decode cX6_sheet 67 = .ok (.aload_n 0, 1) := by decide +kernel
theorem dX6_sheet_68 : decode cX6_sheet 68 = .ok (.getfield 31, 3) := by decide +kernel
theorem dX6_sheet_71 : decode cX6_sheet 71 = .ok (.iload_n 1, 1) := by decide +kernel
theorem dX6_sheet_72 : decode cX6_sheet 72 = .ok (.iload_n 2, 1) := by decide +kernel
theorem dX6_sheet_73 : decode cX6_sheet 73 = .ok (.ifCond .ne 7, 3) := by decide +kernel
theorem dX6_sheet_76 : decode cX6_sheet 76 = .ok (.iconst 0, 1) := by decide +kernel
theorem dX6_sheet_77 : decode cX6_sheet 77 = .ok (.goto 4, 3) := by decide +kernel
theorem dX6_sheet_80 : decode cX6_sheet 80 = .ok (.iload_n 3, 1) := by decide +kernel
theorem dX6_sheet_81 : decode cX6_sheet 81 = .ok (.iastore, 1) := by decide +kernel
theorem dX6_sheet_82 : decode cX6_sheet 82 = .ok (.iconst 0, 1) := by decide +kernel
theorem dX6_sheet_83 : decode cX6_sheet 83 = .ok (.istore 4, 2) := by decide +kernel
theorem dX6_sheet_85 : decode cX6_sheet 85 = .ok (.iload 4, 2) := by decide +kernel
theorem dX6_sheet_87 : decode cX6_sheet 87 = .ok (.bipush 40, 2) := by decide +kernel
theorem dX6_sheet_89 : decode cX6_sheet 89 = .ok (.if_icmp .ge 22, 3) := by decide +kernel
theorem dX6_sheet_92 : decode cX6_sheet 92 = .ok (.aload_n 0, 1) := by decide +kernel
theorem dX6_sheet_93 : decode cX6_sheet 93 = .ok (.getfield 34, 3) := by decide +kernel
theorem dX6_sheet_96 : decode cX6_sheet 96 = .ok (.bipush 40, 2) := by decide +kernel
theorem dX6_sheet_98 : decode cX6_sheet 98 = .ok (.iload_n 1, 1) := by decide +kernel
theorem dX6_sheet_99 : decode cX6_sheet 99 = .ok (.imul, 1) := by decide +kernel
theorem dX6_sheet_100 : decode cX6_sheet 100 = .ok (.iload 4, 2) := by decide +kernel
theorem dX6_sheet_102 : decode cX6_sheet 102 = .ok (.iadd, 1) := by decide +kernel
theorem dX6_sheet_103 : decode cX6_sheet 103 = .ok (.lconst 0, 1) := by decide +kernel
theorem dX6_sheet_104 : decode cX6_sheet 104 = .ok (.lastore, 1) := by decide +kernel
theorem dX6_sheet_105 : decode cX6_sheet 105 = .ok (.iinc 4 1, 3) := by decide +kernel
theorem dX6_sheet_108 : decode cX6_sheet 108 = .ok (.goto (-23), 3) := by decide +kernel
theorem dX6_sheet_111 : decode cX6_sheet 111 = .ok (.aload_n 0, 1) := by decide +kernel
theorem dX6_sheet_112 : decode cX6_sheet 112 = .ok (.getfield 31, 3) := by decide +kernel
theorem dX6_sheet_115 : decode cX6_sheet 115 = .ok (.iload_n 1, 1) := by decide +kernel
theorem dX6_sheet_116 : decode cX6_sheet 116 = .ok (.iaload, 1) := by decide +kernel
theorem dX6_sheet_117 : decode cX6_sheet 117 = .ok (.ireturn, 1) := by decide +kernel
theorem dX6_notThere_0 : decode cX6_notThere 0 = .ok (.iload_n 1, 1) := by decide +kernel
theorem dX6_notThere_1 : decode cX6_notThere 1 = .ok (.invokestatic 202, 3) := by decide +kernel
theorem dX6_notThere_4 : decode cX6_notThere 4 = .ok (.ifCond .ne 8, 3) := by decide +kernel
theorem dX6_notThere_7 : decode cX6_notThere 7 = .ok (.ldc 38, 2) := by decide +kernel
theorem dX6_notThere_9 : decode cX6_notThere 9 = .ok (.goto 18, 3) := by decide +kernel
theorem dX6_notThere_12 : decode cX6_notThere 12 = .ok (.aload_n 0, 1) := by decide +kernel
theorem dX6_notThere_13 : decode cX6_notThere 13 = .ok (.getfield 28, 3) := by decide +kernel
theorem dX6_notThere_16 : decode cX6_notThere 16 = .ok (.iload_n 1, 1) := by decide +kernel
theorem dX6_notThere_17 : decode cX6_notThere 17 = .ok (.iaload, 1) := by decide +kernel
theorem dX6_notThere_18 : decode cX6_notThere 18 = .ok (.ifCond .ne 8, 3) := by decide +kernel
theorem dX6_notThere_21 : decode cX6_notThere 21 = .ok (.ldc 206, 2) := by decide +kernel
theorem dX6_notThere_23 : decode cX6_notThere 23 = .ok (.goto 4, 3) := by decide +kernel
theorem dX6_notThere_26 : decode cX6_notThere 26 = .ok (.iconst 0, 1) := by decide +kernel
theorem dX6_notThere_27 : decode cX6_notThere 27 = .ok (.ireturn, 1) := by decide +kernel
theorem dX6_cutTo_0 : decode cX6_cutTo 0 = .ok (.iload_n 0, 1) := by decide +kernel
theorem dX6_cutTo_1 : decode cX6_cutTo 1 = .ok (.bipush 8, 2) := by decide +kernel
theorem dX6_cutTo_3 : decode cX6_cutTo 3 = .ok (.if_icmp .ne 10, 3) := by decide +kernel
theorem dX6_cutTo_6 : decode cX6_cutTo 6 = .ok (.lload_n 1, 1) := by decide +kernel
theorem dX6_cutTo_7 : decode cX6_cutTo 7 = .ok (.l2i, 1) := by decide +kernel
theorem dX6_cutTo_8 : decode cX6_cutTo 8 = .ok (.i2b, 1) := by decide +kernel
theorem dX6_cutTo_9 : decode cX6_cutTo 9 = .ok (.i2l, 1) := by decide +kernel
theorem dX6_cutTo_10 : decode cX6_cutTo 10 = .ok (.goto 17, 3) := by decide +kernel
theorem dX6_cutTo_13 : decode cX6_cutTo 13 = .ok (.iload_n 0, 1) := by decide +kernel
theorem dX6_cutTo_14 : decode cX6_cutTo 14 = .ok (.bipush 16, 2) := by decide +kernel
theorem dX6_cutTo_16 : decode cX6_cutTo 16 = .ok (.if_icmp .ne 10, 3) := by decide +kernel
theorem dX6_cutTo_19 : decode cX6_cutTo 19 = .ok (.lload_n 1, 1) := by decide +kernel
theorem dX6_cutTo_20 : decode cX6_cutTo 20 = .ok (.l2i, 1) := by decide +kernel
theorem dX6_cutTo_21 : decode cX6_cutTo 21 = .ok (.i2s, 1) := by decide +kernel
theorem dX6_cutTo_22 : decode cX6_cutTo 22 = .ok (.i2l, 1) := by decide +kernel
theorem dX6_cutTo_23 : decode cX6_cutTo 23 = .ok (.goto 4, 3) := by decide +kernel
theorem dX6_cutTo_26 : decode cX6_cutTo 26 = .ok (.lload_n 1, 1) := by decide +kernel
theorem dX6_cutTo_27 : decode cX6_cutTo 27 = .ok (.lreturn, 1) := by decide +kernel
theorem dX6_write_0 : decode cX6_write 0 = .ok (.aload_n 0, 1) := by decide +kernel
theorem dX6_write_1 : decode cX6_write 1 = .ok (.iload_n 1, 1) := by decide +kernel
theorem dX6_write_2 : decode cX6_write 2 = .ok (.invokevirtual 207, 3) := by decide +kernel
theorem dX6_write_5 : decode cX6_write 5 = .ok (.istore 5, 2) := by decide +kernel
theorem dX6_write_7 : decode cX6_write 7 = .ok (.iload 5, 2) := by decide +kernel
theorem dX6_write_9 : decode cX6_write 9 = .ok (.ifCond .ne 24, 3) := by decide +kernel
theorem dX6_write_12 : decode cX6_write 12 = .ok (.iload_n 2, 1) := by decide +kernel
theorem dX6_write_13 : decode cX6_write 13 = .ok (.i2l, 1) := by decide +kernel
theorem dX6_write_14 : decode cX6_write 14 = .ok (.iconst 0, 1) := by decide +kernel
theorem dX6_write_15 : decode cX6_write 15 = .ok (.aload_n 0, 1) := by decide +kernel
theorem dX6_write_16 : decode cX6_write 16 = .ok (.getfield 31, 3) := by decide +kernel
theorem dX6_write_19 : decode cX6_write 19 = .ok (.iload_n 1, 1) := by decide +kernel
theorem dX6_write_20 : decode cX6_write 20 = .ok (.iaload, 1) := by decide +kernel
theorem dX6_write_21 : decode cX6_write 21 = .ok (.iconst 1, 1) := by decide +kernel
theorem dX6_write_22 : decode cX6_write 22 = .ok (.isub, 1) := by decide +kernel
theorem dX6_write_23 : decode cX6_write 23 = .ok (.invokestatic 44, 3) := by decide +kernel
theorem dX6_write_26 : decode cX6_write 26 = .ok (.ifCond .ne 7, 3) := by decide +kernel
theorem dX6_write_29 : decode cX6_write 29 = .ok (.ldc 38, 2) := by decide +kernel
theorem dX6_write_31 : decode cX6_write 31 = .ok (.istore 5, 2) := by decide +kernel
theorem dX6_write_33 : decode cX6_write 33 = .ok (.iload 5, 2) := by decide +kernel
theorem dX6_write_35 : decode cX6_write 35 = .ok (.ifCond .eq 11, 3) := by decide +kernel
theorem dX6_write_38 : decode cX6_write 38 = .ok (.aload_n 0, 1) := by decide +kernel
theorem dX6_write_39 : decode cX6_write 39 = .ok (.iload 5, 2) := by decide +kernel
theorem dX6_write_41 : decode cX6_write 41 = .ok (.invokevirtual 40, 3) := by decide +kernel
theorem dX6_write_44 : decode cX6_write 44 = .ok (.i2l, 1) := by decide +kernel
theorem dX6_write_45 : decode cX6_write 45 = .ok (.lreturn, 1) := by decide +kernel
theorem dX6_write_46 : decode cX6_write 46 = .ok (.aload_n 0, 1) := by decide +kernel
theorem dX6_write_47 : decode cX6_write 47 = .ok (.getfield 34, 3) := by decide +kernel
theorem dX6_write_50 : decode cX6_write 50 = .ok (.bipush 40, 2) := by decide +kernel
theorem dX6_write_52 : decode cX6_write 52 = .ok (.iload_n 1, 1) := by decide +kernel
theorem dX6_write_53 : decode cX6_write 53 = .ok (.imul, 1) := by decide +kernel
theorem dX6_write_54 : decode cX6_write 54 = .ok (.iload_n 2, 1) := by decide +kernel
theorem dX6_write_55 : decode cX6_write 55 = .ok (.iadd, 1) := by decide +kernel
theorem dX6_write_56 : decode cX6_write 56 = .ok (.laload, 1) := by decide +kernel
theorem dX6_write_57 : decode cX6_write 57 = .ok (.lstore 6, 2) := by decide +kernel
theorem dX6_write_59 : decode cX6_write 59 = .ok (.aload_n 0, 1) := by decide +kernel
theorem dX6_write_60 : decode cX6_write 60 = .ok (.getfield 34, 3) := by decide +kernel
theorem dX6_write_63 : decode cX6_write 63 = .ok (.bipush 40, 2) := by decide +kernel
theorem dX6_write_65 : decode cX6_write 65 = .ok (.iload_n 1, 1) := by decide +kernel
theorem dX6_write_66 : decode cX6_write 66 = .ok (.imul, 1) := by decide +kernel
theorem dX6_write_67 : decode cX6_write 67 = .ok (.iload_n 2, 1) := by decide +kernel
theorem dX6_write_68 : decode cX6_write 68 = .ok (.iadd, 1) := by decide +kernel
theorem dX6_write_69 : decode cX6_write 69 = .ok (.aload_n 0, 1) := by decide +kernel
theorem dX6_write_70 : decode cX6_write 70 = .ok (.getfield 28, 3) := by decide +kernel
theorem dX6_write_73 : decode cX6_write 73 = .ok (.iload_n 1, 1) := by decide +kernel
theorem dX6_write_74 : decode cX6_write 74 = .ok (.iaload, 1) := by decide +kernel
theorem dX6_write_75 : decode cX6_write 75 = .ok (.lload_n 3, 1) := by decide +kernel
theorem dX6_write_76 : decode cX6_write 76 = .ok (.invokestatic 210, 3) := by decide +kernel
theorem dX6_write_79 : decode cX6_write 79 = .ok (.lastore, 1) := by decide +kernel
theorem dX6_write_80 : decode cX6_write 80 = .ok (.lload 6, 2) := by decide +kernel
theorem dX6_write_82 : decode cX6_write 82 = .ok (.lreturn, 1) := by decide +kernel
theorem dX6_notCopied_0 : decode cX6_notCopied 0 = .ok (.iload_n 1, 1) := by decide +kernel
theorem dX6_notCopied_1 : decode cX6_notCopied 1 = .ok (.invokestatic 202, 3) := by decide +kernel
theorem dX6_notCopied_4 : decode cX6_notCopied 4 = .ok (.ifCond .eq 10, 3) := by decide +kernel
theorem dX6_notCopied_7 : decode cX6_notCopied 7 = .ok (.iload_n 3, 1) := by decide +kernel
theorem dX6_notCopied_8 : decode cX6_notCopied 8 = .ok (.invokestatic 202, 3) := by decide +kernel
theorem dX6_notCopied_11 : decode cX6_notCopied 11 = .ok (.ifCond .ne 6, 3) := by decide +kernel
theorem dX6_notCopied_14 : decode cX6_notCopied 14 = .ok (.ldc 38, 2) := by decide +kernel
theorem dX6_notCopied_16 : decode cX6_notCopied 16 = .ok (.ireturn, 1) := by decide +kernel
theorem dX6_notCopied_17 : decode cX6_notCopied 17 = .ok (.aload_n 0, 1) := by decide +kernel
theorem dX6_notCopied_18 : decode cX6_notCopied 18 = .ok (.getfield 28, 3) := by decide +kernel
theorem dX6_notCopied_21 : decode cX6_notCopied 21 = .ok (.iload_n 1, 1) := by decide +kernel
theorem dX6_notCopied_22 : decode cX6_notCopied 22 = .ok (.iaload, 1) := by decide +kernel
theorem dX6_notCopied_23 : decode cX6_notCopied 23 = .ok (.ifCond .eq 12, 3) := by decide +kernel
theorem dX6_notCopied_26 : decode cX6_notCopied 26 = .ok (.aload_n 0, 1) := by decide +kernel
theorem dX6_notCopied_27 : decode cX6_notCopied 27 = .ok (.getfield 28, 3) := by decide +kernel
theorem dX6_notCopied_30 : decode cX6_notCopied 30 = .ok (.iload_n 3, 1) := by decide +kernel
theorem dX6_notCopied_31 : decode cX6_notCopied 31 = .ok (.iaload, 1) := by decide +kernel
theorem dX6_notCopied_32 : decode cX6_notCopied 32 = .ok (.ifCond .ne 6, 3) := by decide +kernel
theorem dX6_notCopied_35 : decode cX6_notCopied 35 = .ok (.ldc 206, 2) := by decide +kernel
theorem dX6_notCopied_37 : decode cX6_notCopied 37 = .ok (.ireturn, 1) := by decide +kernel
theorem dX6_notCopied_38 : decode cX6_notCopied 38 = .ok (.aload_n 0, 1) := by decide +kernel
theorem dX6_notCopied_39 : decode cX6_notCopied 39 = .ok (.getfield 28, 3) := by decide +kernel
theorem dX6_notCopied_42 : decode cX6_notCopied 42 = .ok (.iload_n 1, 1) := by decide +kernel
theorem dX6_notCopied_43 : decode cX6_notCopied 43 = .ok (.iaload, 1) := by decide +kernel
theorem dX6_notCopied_44 : decode cX6_notCopied 44 = .ok (.aload_n 0, 1) := by decide +kernel
theorem dX6_notCopied_45 : decode cX6_notCopied 45 = .ok (.getfield 28, 3) := by decide +kernel
theorem dX6_notCopied_48 : decode cX6_notCopied 48 = .ok (.iload_n 3, 1) := by decide +kernel
theorem dX6_notCopied_49 : decode cX6_notCopied 49 = .ok (.iaload, 1) := by decide +kernel
theorem dX6_notCopied_50 : decode cX6_notCopied 50 = .ok (.if_icmp .eq 6, 3) := by decide +kernel
theorem dX6_notCopied_53 : decode cX6_notCopied 53 = .ok (.ldc 96, 2) := by decide +kernel
theorem dX6_notCopied_55 : decode cX6_notCopied 55 = .ok (.ireturn, 1) := by decide +kernel
theorem dX6_notCopied_56 : decode cX6_notCopied 56 = .ok (.iload 5, 2) := by decide +kernel
theorem dX6_notCopied_58 : decode cX6_notCopied 58 = .ok (.ifCond .lt 43, 3) := by decide +kernel
theorem dX6_notCopied_61 : decode cX6_notCopied 61 = .ok (.iload_n 2, 1) := by decide +kernel
theorem dX6_notCopied_62 : decode cX6_notCopied 62 = .ok (.ifCond .lt 39, 3) := by decide +kernel
theorem dX6_notCopied_65 : decode cX6_notCopied 65 = .ok (.iload 4, 2) := by decide +kernel
theorem dX6_notCopied_67 : decode cX6_notCopied 67 = .ok (.ifCond .lt 34, 3) := by decide +kernel
theorem dX6_notCopied_70 : decode cX6_notCopied 70 = .ok (.iload 5, 2) := by decide +kernel
theorem dX6_notCopied_72 : decode cX6_notCopied 72 = .ok (.aload_n 0, 1) := by decide +kernel
theorem dX6_notCopied_73 : decode cX6_notCopied 73 = .ok (.getfield 31, 3) := by decide +kernel
theorem dX6_notCopied_76 : decode cX6_notCopied 76 = .ok (.iload_n 1, 1) := by decide +kernel
theorem dX6_notCopied_77 : decode cX6_notCopied 77 = .ok (.iaload, 1) := by decide +kernel
theorem dX6_notCopied_78 : decode cX6_notCopied 78 = .ok (.iload_n 2, 1) := by decide +kernel
theorem dX6_notCopied_79 : decode cX6_notCopied 79 = .ok (.isub, 1) := by decide +kernel
theorem dX6_notCopied_80 : decode cX6_notCopied 80 = .ok (.if_icmp .gt 21, 3) := by decide +kernel
theorem dX6_notCopied_83 : decode cX6_notCopied 83 = .ok (.iload 5, 2) := by decide +kernel
theorem dX6_notCopied_85 : decode cX6_notCopied 85 = .ok (.aload_n 0, 1) := by decide +kernel
theorem dX6_notCopied_86 : decode cX6_notCopied 86 = .ok (.getfield 31, 3) := by decide +kernel
theorem dX6_notCopied_89 : decode cX6_notCopied 89 = .ok (.iload_n 3, 1) := by decide +kernel
theorem dX6_notCopied_90 : decode cX6_notCopied 90 = .ok (.iaload, 1) := by decide +kernel
theorem dX6_notCopied_91 : decode cX6_notCopied 91 = .ok (.iload 4, 2) := by decide +kernel
theorem dX6_notCopied_93 : decode cX6_notCopied 93 = .ok (.isub, 1) := by decide +kernel
theorem dX6_notCopied_94 : decode cX6_notCopied 94 = .ok (.if_icmp .gt 7, 3) := by decide +kernel
theorem dX6_notCopied_97 : decode cX6_notCopied 97 = .ok (.iconst 1, 1) := by decide +kernel
theorem dX6_notCopied_98 : decode cX6_notCopied 98 = .ok (.goto 4, 3) := by decide +kernel
theorem dX6_notCopied_101 : decode cX6_notCopied 101 = .ok (.iconst 0, 1) := by decide +kernel
theorem dX6_notCopied_102 : decode cX6_notCopied 102 = .ok (.istore 6, 2) := by decide +kernel
theorem dX6_notCopied_104 : decode cX6_notCopied 104 = .ok (.iload 6, 2) := by decide +kernel
theorem dX6_notCopied_106 : decode cX6_notCopied 106 = .ok (.ifCond .eq 7, 3) := by decide +kernel
theorem dX6_notCopied_109 : decode cX6_notCopied 109 = .ok (.iconst 0, 1) := by decide +kernel
theorem dX6_notCopied_110 : decode cX6_notCopied 110 = .ok (.goto 5, 3) := by decide +kernel
theorem dX6_notCopied_113 : decode cX6_notCopied 113 = .ok (.ldc 38, 2) := by decide +kernel
theorem dX6_notCopied_115 : decode cX6_notCopied 115 = .ok (.ireturn, 1) := by decide +kernel
theorem dX6_copy_0 : decode cX6_copy 0 = .ok (.aload_n 0, 1) := by decide +kernel
theorem dX6_copy_1 : decode cX6_copy 1 = .ok (.iload_n 1, 1) := by decide +kernel
theorem dX6_copy_2 : decode cX6_copy 2 = .ok (.iload_n 2, 1) := by decide +kernel
theorem dX6_copy_3 : decode cX6_copy 3 = .ok (.iload_n 3, 1) := by decide +kernel
theorem dX6_copy_4 : decode cX6_copy 4 = .ok (.iload 4, 2) := by decide +kernel
theorem dX6_copy_6 : decode cX6_copy 6 = .ok (.iload 5, 2) := by decide +kernel
theorem dX6_copy_8 : decode cX6_copy 8 = .ok (.invokevirtual 214, 3) := by decide +kernel
theorem dX6_copy_11 : decode cX6_copy 11 = .ok (.istore 6, 2) := by decide +kernel
theorem dX6_copy_13 : decode cX6_copy 13 = .ok (.iload 6, 2) := by decide +kernel
theorem dX6_copy_15 : decode cX6_copy 15 = .ok (.ifCond .eq 10, 3) := by decide +kernel
theorem dX6_copy_18 : decode cX6_copy 18 = .ok (.aload_n 0, 1) := by decide +kernel
theorem dX6_copy_19 : decode cX6_copy 19 = .ok (.iload 6, 2) := by decide +kernel
theorem dX6_copy_21 : decode cX6_copy 21 = .ok (.invokevirtual 40, 3) := by decide +kernel
theorem dX6_copy_24 : decode cX6_copy 24 = .ok (.ireturn, 1) := by decide +kernel
theorem dX6_copy_25 : decode cX6_copy 25 = .ok (.iconst 0, 1) := by decide +kernel
theorem dX6_copy_26 : decode cX6_copy 26 = .ok (.istore 7, 2) := by decide +kernel
theorem dX6_copy_28 : decode cX6_copy 28 = .ok (.iload 7, 2) := by decide +kernel
theorem dX6_copy_30 : decode cX6_copy 30 = .ok (.iload 5, 2) := by decide +kernel
theorem dX6_copy_32 : decode cX6_copy 32 = .ok (.if_icmp .ge 58, 3) := by decide +kernel
theorem dX6_copy_35 : decode cX6_copy 35 = .ok (.iload_n 2, 1) := by decide +kernel
theorem dX6_copy_36 : decode cX6_copy 36 = .ok (.iload 4, 2) := by decide +kernel
theorem dX6_copy_38 : decode cX6_copy 38 = .ok (.if_icmp .ge 13, 3) := by decide +kernel
theorem dX6_copy_41 : decode cX6_copy 41 = .ok (.iload 5, 2) := by decide +kernel
theorem dX6_copy_43 : decode cX6_copy 43 = .ok (.iconst 1, 1) := by decide +kernel
theorem dX6_copy_44 : decode cX6_copy 44 = .ok (.isub, 1) := by decide +kernel
theorem dX6_copy_45 : decode cX6_copy 45 = .ok (.iload 7, 2) := by decide +kernel
theorem dX6_copy_47 : decode cX6_copy 47 = .ok (.isub, 1) := by decide +kernel
theorem dX6_copy_48 : decode cX6_copy 48 = .ok (.goto 5, 3) := by decide +kernel
theorem dX6_copy_51 : decode cX6_copy 51 = .ok (.iload 7, 2) := by decide +kernel
theorem dX6_copy_53 : decode cX6_copy 53 = .ok (.istore 8, 2) := by decide +kernel
theorem dX6_copy_55 : decode cX6_copy 55 = .ok (.aload_n 0, 1) := by decide +kernel
theorem dX6_copy_56 : decode cX6_copy 56 = .ok (.getfield 34, 3) := by decide +kernel
theorem dX6_copy_59 : decode cX6_copy 59 = .ok (.bipush 40, 2) := by decide +kernel
theorem dX6_copy_61 : decode cX6_copy 61 = .ok (.iload_n 3, 1) := by decide +kernel
theorem dX6_copy_62 : decode cX6_copy 62 = .ok (.imul, 1) := by decide +kernel
theorem dX6_copy_63 : decode cX6_copy 63 = .ok (.iload 4, 2) := by decide +kernel
theorem dX6_copy_65 : decode cX6_copy 65 = .ok (.iadd, 1) := by decide +kernel
theorem dX6_copy_66 : decode cX6_copy 66 = .ok (.iload 8, 2) := by decide +kernel
theorem dX6_copy_68 : decode cX6_copy 68 = .ok (.iadd, 1) := by decide +kernel
theorem dX6_copy_69 : decode cX6_copy 69 = .ok (.aload_n 0, 1) := by decide +kernel
theorem dX6_copy_70 : decode cX6_copy 70 = .ok (.getfield 34, 3) := by decide +kernel
theorem dX6_copy_73 : decode cX6_copy 73 = .ok (.bipush 40, 2) := by decide +kernel
theorem dX6_copy_75 : decode cX6_copy 75 = .ok (.iload_n 1, 1) := by decide +kernel
theorem dX6_copy_76 : decode cX6_copy 76 = .ok (.imul, 1) := by decide +kernel
theorem dX6_copy_77 : decode cX6_copy 77 = .ok (.iload_n 2, 1) := by decide +kernel
theorem dX6_copy_78 : decode cX6_copy 78 = .ok (.iadd, 1) := by decide +kernel
theorem dX6_copy_79 : decode cX6_copy 79 = .ok (.iload 8, 2) := by decide +kernel
theorem dX6_copy_81 : decode cX6_copy 81 = .ok (.iadd, 1) := by decide +kernel
theorem dX6_copy_82 : decode cX6_copy 82 = .ok (.laload, 1) := by decide +kernel
theorem dX6_copy_83 : decode cX6_copy 83 = .ok (.lastore, 1) := by decide +kernel
theorem dX6_copy_84 : decode cX6_copy 84 = .ok (.iinc 7 1, 3) := by decide +kernel
theorem dX6_copy_87 : decode cX6_copy 87 = .ok (.goto (-59), 3) := by decide +kernel
theorem dX6_copy_90 : decode cX6_copy 90 = .ok (.iload 5, 2) := by decide +kernel
theorem dX6_copy_92 : decode cX6_copy 92 = .ok (.ireturn, 1) := by decide +kernel
theorem dX6_lays_0 : decode cX6_lays 0 = .ok (.aload_n 0, 1) := by decide +kernel
theorem dX6_lays_1 : decode cX6_lays 1 = .ok (.iload_n 1, 1) := by decide +kernel
theorem dX6_lays_2 : decode cX6_lays 2 = .ok (.invokevirtual 207, 3) := by decide +kernel
theorem dX6_lays_5 : decode cX6_lays 5 = .ok (.istore_n 2, 1) := by decide +kernel
theorem dX6_lays_6 : decode cX6_lays 6 = .ok (.iload_n 2, 1) := by decide +kernel
theorem dX6_lays_7 : decode cX6_lays 7 = .ok (.ifCond .eq 9, 3) := by decide +kernel
theorem dX6_lays_10 : decode cX6_lays 10 = .ok (.aload_n 0, 1) := by decide +kernel
theorem dX6_lays_11 : decode cX6_lays 11 = .ok (.iload_n 2, 1) := by decide +kernel
theorem dX6_lays_12 : decode cX6_lays 12 = .ok (.invokevirtual 40, 3) := by decide +kernel
theorem dX6_lays_15 : decode cX6_lays 15 = .ok (.ireturn, 1) := by decide +kernel
theorem dX6_lays_16 : decode cX6_lays 16 = .ok (.iconst 0, 1) := by decide +kernel
theorem dX6_lays_17 : decode cX6_lays 17 = .ok (.istore_n 3, 1) := by decide +kernel
theorem dX6_lays_18 : decode cX6_lays 18 = .ok (.iconst 0, 1) := by decide +kernel
theorem dX6_lays_19 : decode cX6_lays 19 = .ok (.istore 4, 2) := by decide +kernel
theorem dX6_lays_21 : decode cX6_lays 21 = .ok (.iload 4, 2) := by decide +kernel
theorem dX6_lays_23 : decode cX6_lays 23 = .ok (.aload_n 0, 1) := by decide +kernel
theorem dX6_lays_24 : decode cX6_lays 24 = .ok (.getfield 31, 3) := by decide +kernel
theorem dX6_lays_27 : decode cX6_lays 27 = .ok (.iload_n 1, 1) := by decide +kernel
theorem dX6_lays_28 : decode cX6_lays 28 = .ok (.iaload, 1) := by decide +kernel
theorem dX6_lays_29 : decode cX6_lays 29 = .ok (.if_icmp .ge 65, 3) := by decide +kernel
theorem dX6_lays_32 : decode cX6_lays 32 = .ok (.iload 4, 2) := by decide +kernel
theorem dX6_lays_34 : decode cX6_lays 34 = .ok (.aload_n 0, 1) := by decide +kernel
theorem dX6_lays_35 : decode cX6_lays 35 = .ok (.getfield 9, 3) := by decide +kernel
theorem dX6_lays_38 : decode cX6_lays 38 = .ok (.iconst 3, 1) := by decide +kernel
theorem dX6_lays_39 : decode cX6_lays 39 = .ok (.iaload, 1) := by decide +kernel
theorem dX6_lays_40 : decode cX6_lays 40 = .ok (.if_icmp .ge 54, 3) := by decide +kernel
theorem dX6_lays_43 : decode cX6_lays 43 = .ok (.aload_n 0, 1) := by decide +kernel
theorem dX6_lays_44 : decode cX6_lays 44 = .ok (.getfield 34, 3) := by decide +kernel
theorem dX6_lays_47 : decode cX6_lays 47 = .ok (.bipush 40, 2) := by decide +kernel
theorem dX6_lays_49 : decode cX6_lays 49 = .ok (.iload_n 1, 1) := by decide +kernel
theorem dX6_lays_50 : decode cX6_lays 50 = .ok (.imul, 1) := by decide +kernel
theorem dX6_lays_51 : decode cX6_lays 51 = .ok (.iload 4, 2) := by decide +kernel
theorem dX6_lays_53 : decode cX6_lays 53 = .ok (.iadd, 1) := by decide +kernel
theorem dX6_lays_54 : decode cX6_lays 54 = .ok (.laload, 1) := by decide +kernel
theorem dX6_lays_55 : decode cX6_lays 55 = .ok (.iconst 0, 1) := by decide +kernel
theorem dX6_lays_56 : decode cX6_lays 56 = .ok (.sipush 255, 3) := by decide +kernel
theorem dX6_lays_59 : decode cX6_lays 59 = .ok (.invokestatic 44, 3) := by decide +kernel
theorem dX6_lays_62 : decode cX6_lays 62 = .ok (.ifCond .eq 26, 3) := by decide +kernel
theorem dX6_lays_65 : decode cX6_lays 65 = .ok (.aload_n 0, 1) := by decide +kernel
theorem dX6_lays_66 : decode cX6_lays 66 = .ok (.iload 4, 2) := by decide +kernel
theorem dX6_lays_68 : decode cX6_lays 68 = .ok (.iconst 1, 1) := by decide +kernel
theorem dX6_lays_69 : decode cX6_lays 69 = .ok (.aload_n 0, 1) := by decide +kernel
theorem dX6_lays_70 : decode cX6_lays 70 = .ok (.getfield 34, 3) := by decide +kernel
theorem dX6_lays_73 : decode cX6_lays 73 = .ok (.bipush 40, 2) := by decide +kernel
theorem dX6_lays_75 : decode cX6_lays 75 = .ok (.iload_n 1, 1) := by decide +kernel
theorem dX6_lays_76 : decode cX6_lays 76 = .ok (.imul, 1) := by decide +kernel
theorem dX6_lays_77 : decode cX6_lays 77 = .ok (.iload 4, 2) := by decide +kernel
theorem dX6_lays_79 : decode cX6_lays 79 = .ok (.iadd, 1) := by decide +kernel
theorem dX6_lays_80 : decode cX6_lays 80 = .ok (.laload, 1) := by decide +kernel
theorem dX6_lays_81 : decode cX6_lays 81 = .ok (.l2i, 1) := by decide +kernel
theorem dX6_lays_82 : decode cX6_lays 82 = .ok (.invokevirtual 74, 3) := by decide +kernel
theorem dX6_lays_85 : decode cX6_lays 85 = .ok (.iinc 3 1, 3) := by decide +kernel
theorem dX6_lays_88 : decode cX6_lays 88 = .ok (.iinc 4 1, 3) := by decide +kernel
theorem dX6_lays_91 : decode cX6_lays 91 = .ok (.goto (-70), 3) := by decide +kernel
theorem dX6_lays_94 : decode cX6_lays 94 = .ok (.iload_n 3, 1) := by decide +kernel
theorem dX6_lays_95 : decode cX6_lays 95 = .ok (.ireturn, 1) := by decide +kernel
theorem dX6_notAsked_0 : decode cX6_notAsked 0 = .ok (.aload_n 0, 1) := by decide +kernel
theorem dX6_notAsked_1 : decode cX6_notAsked 1 = .ok (.iload_n 1, 1) := by decide +kernel
theorem dX6_notAsked_2 : decode cX6_notAsked 2 = .ok (.invokevirtual 207, 3) := by decide +kernel
theorem dX6_notAsked_5 : decode cX6_notAsked 5 = .ok (.istore_n 3, 1) := by decide +kernel
theorem dX6_notAsked_6 : decode cX6_notAsked 6 = .ok (.iload_n 3, 1) := by decide +kernel
theorem dX6_notAsked_7 : decode cX6_notAsked 7 = .ok (.ifCond .ne 16, 3) := by decide +kernel
theorem dX6_notAsked_10 : decode cX6_notAsked 10 = .ok (.aload_n 0, 1) := by decide +kernel
theorem dX6_notAsked_11 : decode cX6_notAsked 11 = .ok (.iload_n 2, 1) := by decide +kernel
theorem dX6_notAsked_12 : decode cX6_notAsked 12 = .ok (.invokevirtual 83, 3) := by decide +kernel
theorem dX6_notAsked_15 : decode cX6_notAsked 15 = .ok (.ifCond .ne 8, 3) := by decide +kernel
theorem dX6_notAsked_18 : decode cX6_notAsked 18 = .ok (.ldc 38, 2) := by decide +kernel
theorem dX6_notAsked_20 : decode cX6_notAsked 20 = .ok (.goto 4, 3) := by decide +kernel
theorem dX6_notAsked_23 : decode cX6_notAsked 23 = .ok (.iload_n 3, 1) := by decide +kernel
theorem dX6_notAsked_24 : decode cX6_notAsked 24 = .ok (.ireturn, 1) := by decide +kernel
theorem dX6_book_0 : decode cX6_book 0 = .ok (.aload_n 0, 1) := by decide +kernel
theorem dX6_book_1 : decode cX6_book 1 = .ok (.iload_n 1, 1) := by decide +kernel
theorem dX6_book_2 : decode cX6_book 2 = .ok (.iload_n 2, 1) := by decide +kernel
theorem dX6_book_3 : decode cX6_book 3 = .ok (.invokevirtual 218, 3) := by decide +kernel
theorem dX6_book_6 : decode cX6_book 6 = .ok (.istore_n 3, 1) := by decide +kernel
theorem dX6_book_7 : decode cX6_book 7 = .ok (.iload_n 3, 1) := by decide +kernel
theorem dX6_book_8 : decode cX6_book 8 = .ok (.ifCond .eq 9, 3) := by decide +kernel
theorem dX6_book_11 : decode cX6_book 11 = .ok (.aload_n 0, 1) := by decide +kernel
theorem dX6_book_12 : decode cX6_book 12 = .ok (.iload_n 3, 1) := by decide +kernel
theorem dX6_book_13 : decode cX6_book 13 = .ok (.invokevirtual 40, 3) := by decide +kernel
theorem dX6_book_16 : decode cX6_book 16 = .ok (.ireturn, 1) := by decide +kernel
theorem dX6_book_17 : decode cX6_book 17 = .ok (.aload_n 0, 1) := by decide +kernel
theorem dX6_book_18 : decode cX6_book 18 = .ok (.invokevirtual 120, 3) := by decide +kernel
theorem dX6_book_21 : decode cX6_book 21 = .ok (.iconst 0, 1) := by decide +kernel
theorem dX6_book_22 : decode cX6_book 22 = .ok (.istore 4, 2) := by decide +kernel
theorem dX6_book_24 : decode cX6_book 24 = .ok (.iload 4, 2) := by decide +kernel
theorem dX6_book_26 : decode cX6_book 26 = .ok (.aload_n 0, 1) := by decide +kernel
theorem dX6_book_27 : decode cX6_book 27 = .ok (.getfield 31, 3) := by decide +kernel
theorem dX6_book_30 : decode cX6_book 30 = .ok (.iload_n 1, 1) := by decide +kernel
theorem dX6_book_31 : decode cX6_book 31 = .ok (.iaload, 1) := by decide +kernel
theorem dX6_book_32 : decode cX6_book 32 = .ok (.if_icmp .ge 44, 3) := by decide +kernel
theorem dX6_book_35 : decode cX6_book 35 = .ok (.aload_n 0, 1) := by decide +kernel
theorem dX6_book_36 : decode cX6_book 36 = .ok (.getfield 34, 3) := by decide +kernel
theorem dX6_book_39 : decode cX6_book 39 = .ok (.bipush 40, 2) := by decide +kernel
theorem dX6_book_41 : decode cX6_book 41 = .ok (.iload_n 1, 1) := by decide +kernel
theorem dX6_book_42 : decode cX6_book 42 = .ok (.imul, 1) := by decide +kernel
theorem dX6_book_43 : decode cX6_book 43 = .ok (.iload 4, 2) := by decide +kernel
theorem dX6_book_45 : decode cX6_book 45 = .ok (.iadd, 1) := by decide +kernel
theorem dX6_book_46 : decode cX6_book 46 = .ok (.aload_n 0, 1) := by decide +kernel
theorem dX6_book_47 : decode cX6_book 47 = .ok (.getfield 28, 3) := by decide +kernel
theorem dX6_book_50 : decode cX6_book 50 = .ok (.iload_n 1, 1) := by decide +kernel
theorem dX6_book_51 : decode cX6_book 51 = .ok (.iaload, 1) := by decide +kernel
theorem dX6_book_52 : decode cX6_book 52 = .ok (.aload_n 0, 1) := by decide +kernel
theorem dX6_book_53 : decode cX6_book 53 = .ok (.iload_n 2, 1) := by decide +kernel
theorem dX6_book_54 : decode cX6_book 54 = .ok (.aload_n 0, 1) := by decide +kernel
theorem dX6_book_55 : decode cX6_book 55 = .ok (.invokevirtual 61, 3) := by decide +kernel
theorem dX6_book_58 : decode cX6_book 58 = .ok (.invokevirtual 55, 3) := by decide +kernel
theorem dX6_book_61 : decode cX6_book 61 = .ok (.i2l, 1) := by decide +kernel
theorem dX6_book_62 : decode cX6_book 62 = .ok (.invokestatic 210, 3) := by decide +kernel
theorem dX6_book_65 : decode cX6_book 65 = .ok (.lastore, 1) := by decide +kernel
theorem dX6_book_66 : decode cX6_book 66 = .ok (.aload_n 0, 1) := by decide +kernel
theorem dX6_book_67 : decode cX6_book 67 = .ok (.invokevirtual 107, 3) := by decide +kernel
theorem dX6_book_70 : decode cX6_book 70 = .ok (.iinc 4 1, 3) := by decide +kernel
theorem dX6_book_73 : decode cX6_book 73 = .ok (.goto (-49), 3) := by decide +kernel
theorem dX6_book_76 : decode cX6_book 76 = .ok (.aload_n 0, 1) := by decide +kernel
theorem dX6_book_77 : decode cX6_book 77 = .ok (.invokevirtual 123, 3) := by decide +kernel
theorem dX6_book_80 : decode cX6_book 80 = .ok (.aload_n 0, 1) := by decide +kernel
theorem dX6_book_81 : decode cX6_book 81 = .ok (.getfield 31, 3) := by decide +kernel
theorem dX6_book_84 : decode cX6_book 84 = .ok (.iload_n 1, 1) := by decide +kernel
theorem dX6_book_85 : decode cX6_book 85 = .ok (.iaload, 1) := by decide +kernel
theorem dX6_book_86 : decode cX6_book 86 = .ok (.ireturn, 1) := by decide +kernel
theorem dX6_isBook_0 : decode cX6_isBook 0 = .ok (.iconst 1, 1) := by decide +kernel
theorem dX6_isBook_1 : decode cX6_isBook 1 = .ok (.istore_n 3, 1) := by decide +kernel
theorem dX6_isBook_2 : decode cX6_isBook 2 = .ok (.iconst 0, 1) := by decide +kernel
theorem dX6_isBook_3 : decode cX6_isBook 3 = .ok (.istore 4, 2) := by decide +kernel
theorem dX6_isBook_5 : decode cX6_isBook 5 = .ok (.iload 4, 2) := by decide +kernel
theorem dX6_isBook_7 : decode cX6_isBook 7 = .ok (.aload_n 0, 1) := by decide +kernel
theorem dX6_isBook_8 : decode cX6_isBook 8 = .ok (.getfield 31, 3) := by decide +kernel
theorem dX6_isBook_11 : decode cX6_isBook 11 = .ok (.iload_n 1, 1) := by decide +kernel
theorem dX6_isBook_12 : decode cX6_isBook 12 = .ok (.iaload, 1) := by decide +kernel
theorem dX6_isBook_13 : decode cX6_isBook 13 = .ok (.if_icmp .ge 49, 3) := by decide +kernel
theorem dX6_isBook_16 : decode cX6_isBook 16 = .ok (.iload_n 3, 1) := by decide +kernel
theorem dX6_isBook_17 : decode cX6_isBook 17 = .ok (.ifCond .eq 45, 3) := by decide +kernel
theorem dX6_isBook_20 : decode cX6_isBook 20 = .ok (.aload_n 0, 1) := by decide +kernel
theorem dX6_isBook_21 : decode cX6_isBook 21 = .ok (.getfield 34, 3) := by decide +kernel
theorem dX6_isBook_24 : decode cX6_isBook 24 = .ok (.bipush 40, 2) := by decide +kernel
theorem dX6_isBook_26 : decode cX6_isBook 26 = .ok (.iload_n 1, 1) := by decide +kernel
theorem dX6_isBook_27 : decode cX6_isBook 27 = .ok (.imul, 1) := by decide +kernel
theorem dX6_isBook_28 : decode cX6_isBook 28 = .ok (.iload 4, 2) := by decide +kernel
theorem dX6_isBook_30 : decode cX6_isBook 30 = .ok (.iadd, 1) := by decide +kernel
theorem dX6_isBook_31 : decode cX6_isBook 31 = .ok (.laload, 1) := by decide +kernel
theorem dX6_isBook_32 : decode cX6_isBook 32 = .ok (.aload_n 0, 1) := by decide +kernel
theorem dX6_isBook_33 : decode cX6_isBook 33 = .ok (.iload_n 2, 1) := by decide +kernel
theorem dX6_isBook_34 : decode cX6_isBook 34 = .ok (.aload_n 0, 1) := by decide +kernel
theorem dX6_isBook_35 : decode cX6_isBook 35 = .ok (.invokevirtual 61, 3) := by decide +kernel
theorem dX6_isBook_38 : decode cX6_isBook 38 = .ok (.invokevirtual 55, 3) := by decide +kernel
theorem dX6_isBook_41 : decode cX6_isBook 41 = .ok (.i2l, 1) := by decide +kernel
theorem dX6_isBook_42 : decode cX6_isBook 42 = .ok (.lcmp, 1) := by decide +kernel
theorem dX6_isBook_43 : decode cX6_isBook 43 = .ok (.ifCond .ne 7, 3) := by decide +kernel
theorem dX6_isBook_46 : decode cX6_isBook 46 = .ok (.iconst 1, 1) := by decide +kernel
theorem dX6_isBook_47 : decode cX6_isBook 47 = .ok (.goto 4, 3) := by decide +kernel
theorem dX6_isBook_50 : decode cX6_isBook 50 = .ok (.iconst 0, 1) := by decide +kernel
theorem dX6_isBook_51 : decode cX6_isBook 51 = .ok (.istore_n 3, 1) := by decide +kernel
theorem dX6_isBook_52 : decode cX6_isBook 52 = .ok (.aload_n 0, 1) := by decide +kernel
theorem dX6_isBook_53 : decode cX6_isBook 53 = .ok (.invokevirtual 107, 3) := by decide +kernel
theorem dX6_isBook_56 : decode cX6_isBook 56 = .ok (.iinc 4 1, 3) := by decide +kernel
theorem dX6_isBook_59 : decode cX6_isBook 59 = .ok (.goto (-54), 3) := by decide +kernel
theorem dX6_isBook_62 : decode cX6_isBook 62 = .ok (.aload_n 0, 1) := by decide +kernel
theorem dX6_isBook_63 : decode cX6_isBook 63 = .ok (.invokevirtual 123, 3) := by decide +kernel
theorem dX6_isBook_66 : decode cX6_isBook 66 = .ok (.iload_n 3, 1) := by decide +kernel
theorem dX6_isBook_67 : decode cX6_isBook 67 = .ok (.ireturn, 1) := by decide +kernel
theorem dX6_read_0 : decode cX6_read 0 = .ok (.aload_n 0, 1) := by decide +kernel
theorem dX6_read_1 : decode cX6_read 1 = .ok (.iload_n 1, 1) := by decide +kernel
theorem dX6_read_2 : decode cX6_read 2 = .ok (.iload_n 2, 1) := by decide +kernel
theorem dX6_read_3 : decode cX6_read 3 = .ok (.invokevirtual 218, 3) := by decide +kernel
theorem dX6_read_6 : decode cX6_read 6 = .ok (.istore_n 3, 1) := by decide +kernel
theorem dX6_read_7 : decode cX6_read 7 = .ok (.iload_n 3, 1) := by decide +kernel
theorem dX6_read_8 : decode cX6_read 8 = .ok (.ifCond .eq 9, 3) := by decide +kernel
theorem dX6_read_11 : decode cX6_read 11 = .ok (.aload_n 0, 1) := by decide +kernel
theorem dX6_read_12 : decode cX6_read 12 = .ok (.iload_n 3, 1) := by decide +kernel
theorem dX6_read_13 : decode cX6_read 13 = .ok (.invokevirtual 40, 3) := by decide +kernel
theorem dX6_read_16 : decode cX6_read 16 = .ok (.ireturn, 1) := by decide +kernel
theorem dX6_read_17 : decode cX6_read 17 = .ok (.aload_n 0, 1) := by decide +kernel
theorem dX6_read_18 : decode cX6_read 18 = .ok (.invokevirtual 120, 3) := by decide +kernel
theorem dX6_read_21 : decode cX6_read 21 = .ok (.iconst 0, 1) := by decide +kernel
theorem dX6_read_22 : decode cX6_read 22 = .ok (.istore 4, 2) := by decide +kernel
theorem dX6_read_24 : decode cX6_read 24 = .ok (.iconst 0, 1) := by decide +kernel
theorem dX6_read_25 : decode cX6_read 25 = .ok (.istore 5, 2) := by decide +kernel
theorem dX6_read_27 : decode cX6_read 27 = .ok (.iload 5, 2) := by decide +kernel
theorem dX6_read_29 : decode cX6_read 29 = .ok (.sipush 1536, 3) := by decide +kernel
theorem dX6_read_32 : decode cX6_read 32 = .ok (.if_icmp .ge 52, 3) := by decide +kernel
theorem dX6_read_35 : decode cX6_read 35 = .ok (.aload_n 0, 1) := by decide +kernel
theorem dX6_read_36 : decode cX6_read 36 = .ok (.iload_n 2, 1) := by decide +kernel
theorem dX6_read_37 : decode cX6_read 37 = .ok (.iconst 0, 1) := by decide +kernel
theorem dX6_read_38 : decode cX6_read 38 = .ok (.iload 5, 2) := by decide +kernel
theorem dX6_read_40 : decode cX6_read 40 = .ok (.sipush 256, 3) := by decide +kernel
theorem dX6_read_43 : decode cX6_read 43 = .ok (.idiv, 1) := by decide +kernel
theorem dX6_read_44 : decode cX6_read 44 = .ok (.invokevirtual 74, 3) := by decide +kernel
theorem dX6_read_47 : decode cX6_read 47 = .ok (.aload_n 0, 1) := by decide +kernel
theorem dX6_read_48 : decode cX6_read 48 = .ok (.iload_n 2, 1) := by decide +kernel
theorem dX6_read_49 : decode cX6_read 49 = .ok (.iconst 1, 1) := by decide +kernel
theorem dX6_read_50 : decode cX6_read 50 = .ok (.iload 5, 2) := by decide +kernel
theorem dX6_read_52 : decode cX6_read 52 = .ok (.sipush 256, 3) := by decide +kernel
theorem dX6_read_55 : decode cX6_read 55 = .ok (.irem, 1) := by decide +kernel
theorem dX6_read_56 : decode cX6_read 56 = .ok (.invokevirtual 74, 3) := by decide +kernel
theorem dX6_read_59 : decode cX6_read 59 = .ok (.iload 4, 2) := by decide +kernel
theorem dX6_read_61 : decode cX6_read 61 = .ok (.aload_n 0, 1) := by decide +kernel
theorem dX6_read_62 : decode cX6_read 62 = .ok (.iload_n 1, 1) := by decide +kernel
theorem dX6_read_63 : decode cX6_read 63 = .ok (.iload_n 2, 1) := by decide +kernel
theorem dX6_read_64 : decode cX6_read 64 = .ok (.invokevirtual 221, 3) := by decide +kernel
theorem dX6_read_67 : decode cX6_read 67 = .ok (.ifCond .eq 7, 3) := by decide +kernel
theorem dX6_read_70 : decode cX6_read 70 = .ok (.iconst 1, 1) := by decide +kernel
theorem dX6_read_71 : decode cX6_read 71 = .ok (.goto 4, 3) := by decide +kernel
theorem dX6_read_74 : decode cX6_read 74 = .ok (.iconst 0, 1) := by decide +kernel
theorem dX6_read_75 : decode cX6_read 75 = .ok (.iadd, 1) := by decide +kernel
theorem dX6_read_76 : decode cX6_read 76 = .ok (.istore 4, 2) := by decide +kernel
theorem dX6_read_78 : decode cX6_read 78 = .ok (.iinc 5 1, 3) := by decide +kernel
theorem dX6_read_81 : decode cX6_read 81 = .ok (.goto (-54), 3) := by decide +kernel
theorem dX6_read_84 : decode cX6_read 84 = .ok (.iload 4, 2) := by decide +kernel
theorem dX6_read_86 : decode cX6_read 86 = .ok (.ireturn, 1) := by decide +kernel
theorem dX6_image_0 : decode cX6_image 0 = .ok (.aload_n 0, 1) := by decide +kernel
theorem dX6_image_1 : decode cX6_image 1 = .ok (.getfield 9, 3) := by decide +kernel
theorem dX6_image_4 : decode cX6_image 4 = .ok (.aload_n 0, 1) := by decide +kernel
theorem dX6_image_5 : decode cX6_image 5 = .ok (.getfield 13, 3) := by decide +kernel
theorem dX6_image_8 : decode cX6_image 8 = .ok (.invokestatic 116, 3) := by decide +kernel
theorem dX6_image_11 : decode cX6_image 11 = .ok (.aload_n 0, 1) := by decide +kernel
theorem dX6_image_12 : decode cX6_image 12 = .ok (.iconst 1, 1) := by decide +kernel
theorem dX6_image_13 : decode cX6_image 13 = .ok (.putfield 224, 3) := by decide +kernel
theorem dX6_image_16 : decode cX6_image 16 = .ok (.iconst 1, 1) := by decide +kernel
theorem dX6_image_17 : decode cX6_image 17 = .ok (.ireturn, 1) := by decide +kernel
theorem dX6_undo_0 : decode cX6_undo 0 = .ok (.aload_n 0, 1) := by decide +kernel
theorem dX6_undo_1 : decode cX6_undo 1 = .ok (.getfield 224, 3) := by decide +kernel
theorem dX6_undo_4 : decode cX6_undo 4 = .ok (.ifCond .ne 10, 3) := by decide +kernel
theorem dX6_undo_7 : decode cX6_undo 7 = .ok (.aload_n 0, 1) := by decide +kernel
theorem dX6_undo_8 : decode cX6_undo 8 = .ok (.ldc 39, 2) := by decide +kernel
theorem dX6_undo_10 : decode cX6_undo 10 = .ok (.invokevirtual 40, 3) := by decide +kernel
theorem dX6_undo_13 : decode cX6_undo 13 = .ok (.ireturn, 1) := by decide +kernel
theorem dX6_undo_14 : decode cX6_undo 14 = .ok (.aload_n 0, 1) := by decide +kernel
theorem dX6_undo_15 : decode cX6_undo 15 = .ok (.getfield 13, 3) := by decide +kernel
theorem dX6_undo_18 : decode cX6_undo 18 = .ok (.aload_n 0, 1) := by decide +kernel
theorem dX6_undo_19 : decode cX6_undo 19 = .ok (.getfield 9, 3) := by decide +kernel
theorem dX6_undo_22 : decode cX6_undo 22 = .ok (.invokestatic 116, 3) := by decide +kernel
theorem dX6_undo_25 : decode cX6_undo 25 = .ok (.aload_n 0, 1) := by decide +kernel
theorem dX6_undo_26 : decode cX6_undo 26 = .ok (.getfield 9, 3) := by decide +kernel
theorem dX6_undo_29 : decode cX6_undo 29 = .ok (.iconst 3, 1) := by decide +kernel
theorem dX6_undo_30 : decode cX6_undo 30 = .ok (.iaload, 1) := by decide +kernel
theorem dX6_undo_31 : decode cX6_undo 31 = .ok (.ireturn, 1) := by decide +kernel
theorem dX6_tear_0 : decode cX6_tear 0 = .ok (.aload_n 0, 1) := by decide +kernel
theorem dX6_tear_1 : decode cX6_tear 1 = .ok (.getfield 224, 3) := by decide +kernel
theorem dX6_tear_4 : decode cX6_tear 4 = .ok (.ifCond .eq 7, 3) := by decide +kernel
theorem dX6_tear_7 : decode cX6_tear 7 = .ok (.iconst 1, 1) := by decide +kernel
theorem dX6_tear_8 : decode cX6_tear 8 = .ok (.goto 4, 3) := by decide +kernel
theorem dX6_tear_11 : decode cX6_tear 11 = .ok (.iconst 0, 1) := by decide +kernel
theorem dX6_tear_12 : decode cX6_tear 12 = .ok (.istore_n 1, 1) := by decide +kernel
theorem dX6_tear_13 : decode cX6_tear 13 = .ok (.aload_n 0, 1) := by decide +kernel
theorem dX6_tear_14 : decode cX6_tear 14 = .ok (.iconst 0, 1) := by decide +kernel
theorem dX6_tear_15 : decode cX6_tear 15 = .ok (.putfield 224, 3) := by decide +kernel
theorem dX6_tear_18 : decode cX6_tear 18 = .ok (.iload_n 1, 1) := by decide +kernel
theorem dX6_tear_19 : decode cX6_tear 19 = .ok (.ireturn, 1) := by decide +kernel
theorem dX6_count_0 : decode cX6_count 0 = .ok (.iload_n 1, 1) := by decide +kernel
theorem dX6_count_1 : decode cX6_count 1 = .ok (.tableswitch 55 0 3 #[31, 38, 43, 49], 31) := by decide +kernel
theorem dX6_count_32 : decode cX6_count 32 = .ok (.aload_n 0, 1) := by decide +kernel
theorem dX6_count_33 : decode cX6_count 33 = .ok (.getfield 9, 3) := by decide +kernel
theorem dX6_count_36 : decode cX6_count 36 = .ok (.iconst 3, 1) := by decide +kernel
theorem dX6_count_37 : decode cX6_count 37 = .ok (.iaload, 1) := by decide +kernel
theorem dX6_count_38 : decode cX6_count 38 = .ok (.ireturn, 1) := by decide +kernel
theorem dX6_count_39 : decode cX6_count 39 = .ok (.aload_n 0, 1) := by decide +kernel
theorem dX6_count_40 : decode cX6_count 40 = .ok (.getfield 147, 3) := by decide +kernel
theorem dX6_count_43 : decode cX6_count 43 = .ok (.ireturn, 1) := by decide +kernel
theorem dX6_count_44 : decode cX6_count 44 = .ok (.aload_n 0, 1) := by decide +kernel
theorem dX6_count_45 : decode cX6_count 45 = .ok (.iconst 2, 1) := by decide +kernel
theorem dX6_count_46 : decode cX6_count 46 = .ok (.invokevirtual 141, 3) := by decide +kernel
theorem dX6_count_49 : decode cX6_count 49 = .ok (.ireturn, 1) := by decide +kernel
theorem dX6_count_50 : decode cX6_count 50 = .ok (.aload_n 0, 1) := by decide +kernel
theorem dX6_count_51 : decode cX6_count 51 = .ok (.iconst 3, 1) := by decide +kernel
theorem dX6_count_52 : decode cX6_count 52 = .ok (.invokevirtual 141, 3) := by decide +kernel
theorem dX6_count_55 : decode cX6_count 55 = .ok (.ireturn, 1) := by decide +kernel
theorem dX6_count_56 : decode cX6_count 56 = .ok (.aload_n 0, 1) := by decide +kernel
theorem dX6_count_57 : decode cX6_count 57 = .ok (.ldc 38, 2) := by decide +kernel
theorem dX6_count_59 : decode cX6_count 59 = .ok (.invokevirtual 40, 3) := by decide +kernel
theorem dX6_count_62 : decode cX6_count 62 = .ok (.ireturn, 1) := by decide +kernel
theorem dX6_status_0 : decode cX6_status 0 = .ok (.iload_n 1, 1) := by decide +kernel
theorem dX6_status_1 : decode cX6_status 1 = .ok (.i2l, 1) := by decide +kernel
theorem dX6_status_2 : decode cX6_status 2 = .ok (.iconst (-1), 1) := by decide +kernel
theorem dX6_status_3 : decode cX6_status 3 = .ok (.bipush 6, 2) := by decide +kernel
theorem dX6_status_5 : decode cX6_status 5 = .ok (.invokestatic 44, 3) := by decide +kernel
theorem dX6_status_8 : decode cX6_status 8 = .ok (.ifCond .ne 10, 3) := by decide +kernel
theorem dX6_status_11 : decode cX6_status 11 = .ok (.aload_n 0, 1) := by decide +kernel
theorem dX6_status_12 : decode cX6_status 12 = .ok (.ldc 38, 2) := by decide +kernel
theorem dX6_status_14 : decode cX6_status 14 = .ok (.invokevirtual 40, 3) := by decide +kernel
theorem dX6_status_17 : decode cX6_status 17 = .ok (.ireturn, 1) := by decide +kernel
theorem dX6_status_18 : decode cX6_status 18 = .ok (.iconst 0, 1) := by decide +kernel
theorem dX6_status_19 : decode cX6_status 19 = .ok (.istore_n 2, 1) := by decide +kernel
theorem dX6_status_20 : decode cX6_status 20 = .ok (.iconst 0, 1) := by decide +kernel
theorem dX6_status_21 : decode cX6_status 21 = .ok (.istore_n 3, 1) := by decide +kernel
theorem dX6_status_22 : decode cX6_status 22 = .ok (.iload_n 3, 1) := by decide +kernel
theorem dX6_status_23 : decode cX6_status 23 = .ok (.bipush 7, 2) := by decide +kernel
theorem dX6_status_25 : decode cX6_status 25 = .ok (.if_icmp .ge 31, 3) := by decide +kernel
theorem dX6_status_28 : decode cX6_status 28 = .ok (.iload_n 2, 1) := by decide +kernel
theorem dX6_status_29 : decode cX6_status 29 = .ok (.iload_n 1, 1) := by decide +kernel
theorem dX6_status_30 : decode cX6_status 30 = .ok (.ifCond .lt 8, 3) := by decide +kernel
theorem dX6_status_33 : decode cX6_status 33 = .ok (.iload_n 1, 1) := by decide +kernel
theorem dX6_status_34 : decode cX6_status 34 = .ok (.iload_n 3, 1) := by decide +kernel
theorem dX6_status_35 : decode cX6_status 35 = .ok (.if_icmp .ne 12, 3) := by decide +kernel
theorem dX6_status_38 : decode cX6_status 38 = .ok (.aload_n 0, 1) := by decide +kernel
theorem dX6_status_39 : decode cX6_status 39 = .ok (.getfield 19, 3) := by decide +kernel
theorem dX6_status_42 : decode cX6_status 42 = .ok (.iload_n 3, 1) := by decide +kernel
theorem dX6_status_43 : decode cX6_status 43 = .ok (.iaload, 1) := by decide +kernel
theorem dX6_status_44 : decode cX6_status 44 = .ok (.goto 4, 3) := by decide +kernel
theorem dX6_status_47 : decode cX6_status 47 = .ok (.iconst 0, 1) := by decide +kernel
theorem dX6_status_48 : decode cX6_status 48 = .ok (.iadd, 1) := by decide +kernel
theorem dX6_status_49 : decode cX6_status 49 = .ok (.istore_n 2, 1) := by decide +kernel
theorem dX6_status_50 : decode cX6_status 50 = .ok (.iinc 3 1, 3) := by decide +kernel
theorem dX6_status_53 : decode cX6_status 53 = .ok (.goto (-31), 3) := by decide +kernel
theorem dX6_status_56 : decode cX6_status 56 = .ok (.iload_n 2, 1) := by decide +kernel
theorem dX6_status_57 : decode cX6_status 57 = .ok (.ireturn, 1) := by decide +kernel
end
section
/-! THE FOUNDATION: one world for class and reference (60 cells whose addresses and references never change), memory = their numbers; the judgement hg_G; a row an instruction -/
/-- the numbers: ints by (cell, place), longs by (cell, place) -/
abbrev hg_Mem : Type := (Nat → Nat → Int32) × (Nat → Nat → Int64)
/-- where things are: the tables, the cells' addresses, the array classes, the addresses of constants -/
abbrev hg_Wd : Type := va_G × (Nat → Nat) × (Nat → ClassId) × (Nat → Nat)
def hg_ad (E : hg_Wd) (i : Nat) : Nat := E.2.1 i
def hg_cA (E : hg_Wd) (i : Nat) : ClassId := E.2.2.1 i
def hg_sa (E : hg_Wd) (i : Nat) : Nat := E.2.2.2 i
def hg_sI (σ : hg_Mem) (i k : Nat) (v : Int32) : hg_Mem := (va_up σ.1 i (va_up (σ.1 i) k v), σ.2)
def hg_sL (σ : hg_Mem) (i k : Nat) (v : Int64) : hg_Mem := (σ.1, va_up σ.2 i (va_up (σ.2 i) k v))
/-- what cell i holds -/
def hg_ce (E : hg_Wd) (i : Nat) (f : Nat → Int32) (g : Nat → Int64) : va_E :=
  if i = 0 then .inr (5, [.ref (hg_ad E 1), .ref (hg_ad E 2), .ref (hg_ad E 3), .int (f 3), .ref (hg_ad E 7), .ref (hg_ad E 9), .ref (hg_ad E 10), .ref (hg_ad E 11)])
  else if i < 4 then .inr (3, [.int (f 0), .int (f 1), .int (f 2), .int (f 3), .ref (hg_ad E (i + 3)), .int (f 5), .int (f 6)])
  else if i < 7 then .inl (hg_cA E 2, 10, .inr (.inr (.inr (.inr (fun j => some (hg_ad E (10 + 10 * (i - 3) + j)))))))
  else if i = 7 then .inr (4, [.ref (hg_ad E 8), .int (f 1)])
  else if i = 8 then .inl (hg_cA E 0, 120, .inl f)
  else if i = 9 then .inr (0, [.ref (hg_ad E 7), .ref (hg_ad E 2), .int (f 2), .int (f 3), .int (f 4), .int (f 5)])
  else if i = 10 then .inl (hg_cA E 3, 4, .inr (.inr (.inr (.inr (fun j => some (hg_ad E (12 + j)))))))
  else if i = 11 then .inl (hg_cA E 0, 7, .inl f)
  else if i < 16 then .inr (2, [.ref (hg_ad E (i + 4)), .int (f 1), .int (f 2)])
  else if i < 20 then .inl (hg_cA E 1, 40, .inr (.inl g))
  else if i < 50 then .inr (1, [.int (f 0), .int (f 1), .int (f 2), .int (f 3), .int (f 4), .int (f 5), .int (f 6)])
  else if i = 50 then .inr (6, [.ref (hg_ad E 51), .ref (hg_ad E 52), .ref (hg_ad E 53), .int (f 3), .ref (hg_ad E 54), .ref (hg_ad E 55), .ref (hg_ad E 56), .int (f 7), .int (f 8), .int (f 9), .int (f 10), .int (f 11), .int (f 12), .ref (hg_ad E 57), .ref (hg_ad E 58), .ref (hg_ad E 59)])
  else if i < 54 then .inl (hg_cA E 0, 64, .inl f)
  else if i = 54 then .inl (hg_cA E 0, 7, .inl f)
  else if i = 55 then .inl (hg_cA E 0, 10, .inl f)
  else if i = 56 then .inl (hg_cA E 0, 120, .inl f)
  else if i < 59 then .inl (hg_cA E 0, 4, .inl f)
  else .inl (hg_cA E 1, 160, .inr (.inl g))
theorem hg_ceTab (E : hg_Wd) {i : Nat} (f : Nat → Int32) (g : Nat → Int64) (h1 : 1 ≤ i) (h2 : i < 4) : hg_ce E i f g = .inr (3, [.int (f 0), .int (f 1), .int (f 2), .int (f 3), .ref (hg_ad E (i + 3)), .int (f 5), .int (f 6)]) := by
  unfold hg_ce; rw [if_neg (by omega), if_pos h2]
theorem hg_ceSeat (E : hg_Wd) {t : Nat} (f : Nat → Int32) (g : Nat → Int64) (h1 : 1 ≤ t) (h2 : t < 4) : hg_ce E (t + 3) f g = .inl (hg_cA E 2, 10, .inr (.inr (.inr (.inr (fun j => some (hg_ad E (10 + 10 * t + j))))))) := by
  unfold hg_ce; rw [if_neg (by omega), if_neg (by omega), if_pos (by omega), Nat.add_sub_cancel]
theorem hg_ceShe (E : hg_Wd) {i : Nat} (f : Nat → Int32) (g : Nat → Int64) (h1 : 12 ≤ i) (h2 : i < 16) : hg_ce E i f g = .inr (2, [.ref (hg_ad E (i + 4)), .int (f 1), .int (f 2)]) := by
  unfold hg_ce; rw [if_neg (by omega), if_neg (by omega), if_neg (by omega), if_neg (by omega), if_neg (by omega), if_neg (by omega), if_neg (by omega), if_neg (by omega), if_pos h2]
theorem hg_ceNum (E : hg_Wd) {i : Nat} (f : Nat → Int32) (g : Nat → Int64) (h1 : 16 ≤ i) (h2 : i < 20) : hg_ce E i f g = .inl (hg_cA E 1, 40, .inr (.inl g)) := by
  unfold hg_ce; rw [if_neg (by omega), if_neg (by omega), if_neg (by omega), if_neg (by omega), if_neg (by omega), if_neg (by omega), if_neg (by omega), if_neg (by omega), if_neg (by omega), if_pos h2]
theorem hg_ceDel (E : hg_Wd) {i : Nat} (f : Nat → Int32) (g : Nat → Int64) (h1 : 20 ≤ i) (h2 : i < 50) : hg_ce E i f g = .inr (1, [.int (f 0), .int (f 1), .int (f 2), .int (f 3), .int (f 4), .int (f 5), .int (f 6)]) := by
  unfold hg_ce; rw [if_neg (by omega), if_neg (by omega), if_neg (by omega), if_neg (by omega), if_neg (by omega), if_neg (by omega), if_neg (by omega), if_neg (by omega), if_neg (by omega), if_neg (by omega), if_pos h2]
/-- the world: 60 cells -/
def hg_wl (E : hg_Wd) (σ : hg_Mem) : va_W := (List.range 60).map (fun i => (hg_ad E i, hg_ce E i (σ.1 i) (σ.2 i)))
theorem hg_wl_at (E : hg_Wd) (σ : hg_Mem) {i : Nat} (h : i < 60) : (hg_wl E σ)[i]? = some (hg_ad E i, hg_ce E i (σ.1 i) (σ.2 i)) := by
  simp [hg_wl, h]
theorem hg_wl_set (E : hg_Wd) (σ τ : hg_Mem) (i : Nat) {x : va_E} (hx : x = hg_ce E i (τ.1 i) (τ.2 i)) (h1 : ∀ j, j ≠ i → τ.1 j = σ.1 j) (h2 : ∀ j, j ≠ i → τ.2 j = σ.2 j) : (hg_wl E σ).set i (hg_ad E i, x) = hg_wl E τ := by
  subst hx
  apply List.ext_getElem?
  intro j
  by_cases hj : j = i
  · subst hj
    by_cases hl : j < 60
    · rw [List.getElem?_set_self (by simp [hg_wl]; exact hl), hg_wl_at E τ hl]
    · rw [List.getElem?_eq_none (by simp [hg_wl]; omega), List.getElem?_eq_none (by simp [hg_wl]; omega)]
  · rw [List.getElem?_set_ne (fun h => hj h.symm)]
    by_cases hl : j < 60
    · rw [hg_wl_at E σ hl, hg_wl_at E τ hl, h1 j hj, h2 j hj]
    · rw [List.getElem?_eq_none (by simp [hg_wl]; omega), List.getElem?_eq_none (by simp [hg_wl]; omega)]
/-- the cells' addresses -/
def hg_AW (E : hg_Wd) : Nat → Prop := fun q => ∃ i, i < 60 ∧ q = hg_ad E i
def hg_tys (E : hg_Wd) : List (ClassId × FieldType) := [(hg_cA E 0, .int), (hg_cA E 1, .long), (hg_cA E 2, .object "HatCongress$Delegate"), (hg_cA E 3, .object "HatCongress$Sheet")]
def hg_inj (E : hg_Wd) : Prop := ∀ i j, i < 60 → j < 60 → hg_ad E i = hg_ad E j → i = j
theorem hg_wl_D {E : hg_Wd} (h : hg_inj E) (σ : hg_Mem) : va_D (hg_AW E) (hg_wl E σ) := by
  have lt : ∀ {k : Nat} {q : Nat × va_E}, (hg_wl E σ)[k]? = some q → k < 60 ∧ q.1 = hg_ad E k := by
    intro k q hq
    have hk : k < 60 := by
      rcases Nat.lt_or_ge k 60 with q1 | q1
      · exact q1
      · rw [List.getElem?_eq_none (by simp [hg_wl]; omega)] at hq; cases hq
    rw [hg_wl_at E σ hk] at hq
    cases hq
    exact ⟨hk, rfl⟩
  refine ⟨fun i j x y hx hy e => ?_, fun k q hq => ?_⟩
  · obtain ⟨a1, a2⟩ := lt hx
    obtain ⟨b1, b2⟩ := lt hy
    exact h i j a1 b1 (by rw [← a2, ← b2, e])
  · obtain ⟨a1, a2⟩ := lt hq
    exact ⟨k, a1, a2⟩
/-- the reference's table of names -/
def hg_names : List Int32 := [104, 97, 116, 0, 0, 0, 0, 98, 111, 119, 108, 101, 114, 0, 99, 97, 112, 0, 0, 0, 0, 116, 111, 112, 112, 101, 114, 0, 100, 101, 114, 98, 121, 0, 0, 98, 101, 114, 101, 116, 0, 0, 118, 105, 101, 119, 0, 0, 0, 102, 97, 105, 116, 104, 0, 0, 111, 102, 102, 0, 0, 0, 0, 116, 114, 117, 116, 104, 0, 0, 104, 111, 108, 100, 115, 0, 0, 121, 101, 115, 0, 0, 0, 0, 110, 111, 0, 0, 0, 0, 0, 108, 105, 102, 116, 0, 0, 0]
/-- the class's texts: places in the pool, texts, lengths, bytes -/
def hg_stx : List (Nat × String) := [(124, "bowler"), (126, "cap"), (128, "topper"), (130, "derby"), (132, "beret"), (134, "hat"), (84, "view"), (96, "faith"), (100, "off"), (49, "truth"), (58, "holds"), (107, "yes"), (112, "no"), (63, "lift")]
def hg_slen : List Nat := [6, 3, 6, 5, 5, 3, 4, 5, 3, 5, 5, 3, 2, 4]
def hg_sbyt : List (List Int32) := [[98, 111, 119, 108, 101, 114], [99, 97, 112], [116, 111, 112, 112, 101, 114], [100, 101, 114, 98, 121], [98, 101, 114, 101, 116], [104, 97, 116], [118, 105, 101, 119], [102, 97, 105, 116, 104], [111, 102, 102], [116, 114, 117, 116, 104], [104, 111, 108, 100, 115], [121, 101, 115], [110, 111], [108, 105, 102, 116]]
/-- constants of the heap: statics and texts -/
def hg_KS (E : hg_Wd) (U : State) (H : Heap) : Prop :=
  va_Z "HatCongressModel" "NAMES" "[I" (.ref (hg_sa E 0)) (hg_AW E) U H ∧ va_T .int (hg_sa E 0) 98 (fun j => .int (hg_names.getD j 0)) (hg_AW E) U H ∧ va_Z "java/lang/String" "COMPACT_STRINGS" "Z" (.int 1) (hg_AW E) U H ∧
  va_Zq "jdk/internal/util/Preconditions" "SIOOBE_FORMATTER" "Ljava/util/function/BiFunction;" (hg_AW E) U H ∧
  vk_S 14 hg_slen hg_sbyt (fun i => hg_sa E (1 + i)) (fun i => hg_sa E (101 + i)) (hg_AW E) U H
def hg_KR (E : hg_Wd) (U : State) : Prop := ∀ (i k : Nat) (tx : String), hg_stx[i]? = some (k, tx) → vk_R "HatCongress$Clerk" k tx (hg_sa E (1 + i)) U
def hg_nests : List (String × Nat × MethodName × String) := [("HatCongress$Table", 21, ⟨"HatCongress$Delegate", "<init>", "()V"⟩, "HatCongress"), ("HatCongress", 24, ⟨"HatCongress$Tape", "<init>", "()V"⟩, "HatCongress"), ("HatCongress", 48, ⟨"HatCongress$Sheet", "<init>", "()V"⟩, "HatCongress"), ("HatCongress$Delegate", 38, ⟨"HatCongress", "bit", "(II)I"⟩, "HatCongress"), ("HatCongress$Table", 74, ⟨"HatCongress", "bit", "(II)I"⟩, "HatCongress")]
def hg_KN (U : State) : Prop := ∀ q ∈ hg_nests, va_Nw (.methodLinkNest q.1 q.2.1 q.2.2.1 q.2.2.2) U
def hg_KW (E : hg_Wd) (U : State) : Prop := va_K E.1 vwCl (hg_tys E) U ∧ hg_inj E ∧ hg_KS E U U.heap ∧ hg_KR E U ∧ hg_KN U
theorem hg_KW.warm {E : hg_Wd} {s U : State} (hW : s.WarmedH U.vm) (hq : ∀ a : Nat, a < s.heap.size → ¬ hg_AW E a → U.heap[a]? = s.heap[a]?) (h : hg_KW E s) : hg_KW E U := by
  obtain ⟨h1, h2, ⟨a, b, c, d, e⟩, h4, h5⟩ := h
  have al := hW.alike
  exact ⟨h1.moved al, h2, ⟨(a.moved al).kept hq, (b.moved al).kept hq, (c.moved al).kept hq, (d.moved al).kept hq, (e.moved al).kept hq⟩, fun i k tx hi => (h4 i k tx hi).warm hW, fun q hq2 => (h5 q hq2).warmM hW⟩
theorem hg_KW.calling {E : hg_Wd} {U : State} {g : JFrame} {mk : MethodId} {a : Array Value} (h : hg_KW E U) : hg_KW E (U.calling g mk a) := by
  obtain ⟨h1, h2, ⟨x, b, c, d, e⟩, h4, h5⟩ := h
  have al : U.vm.Alike (U.calling g mk a).vm := Vm.Alike.refl U.vm
  exact ⟨h1.moved al, h2, ⟨x.moved al, b.moved al, c.moved al, d.moved al, e.moved al⟩, fun i k tx hi => (h4 i k tx hi).same rfl, fun q hq2 => (h5 q hq2).same rfl rfl⟩
/-- the locals, place by place -/
def hg_LV (ls : Array Slot) (nL : Nat) (lv : List (Option Value)) : Prop := ls.size = nL ∧ lv.length = nL ∧ lv_wf ls ∧ ∀ (i : Nat) (v : Value), lv[i]? = some (some v) → ls[i]? = some (.val v)
def hg_toL (lv : List (Option Value)) : List (Nat × Value) := (List.range lv.length).filterMap (fun i => (lv[i]?.bind id).map (fun v => (i, v)))
theorem hg_toL_mem {lv : List (Option Value)} {i : Nat} {v : Value} : (i, v) ∈ hg_toL lv ↔ lv[i]? = some (some v) := by
  unfold hg_toL
  rw [List.mem_filterMap]
  constructor
  · rintro ⟨j, hj, h⟩
    cases hx : lv[j]? with
    | none => rw [hx] at h; cases h
    | some w =>
      cases w with
      | none => rw [hx] at h; cases h
      | some w =>
        rw [hx] at h
        simp at h
        obtain ⟨rfl, rfl⟩ := h
        exact hx
  · intro h
    have hl : i < lv.length := (List.getElem?_eq_some_iff.mp h).1
    exact ⟨i, List.mem_range.mpr hl, by rw [h]; rfl⟩
theorem hg_LV.has {ls : Array Slot} {nL : Nat} {lv : List (Option Value)} (h : hg_LV ls nL lv) : lv_has ls nL (hg_toL lv) := ⟨h.1, h.2.2.1, fun q hq => h.2.2.2 q.1 q.2 (hg_toL_mem.mp hq)⟩
theorem hg_LV.put1 {ls ls' : Array Slot} {nL : Nat} {lv : List (Option Value)} {i : Nat} {v : Value} (h : hg_LV ls nL lv) (h' : lv_has ls' nL ((i, v) :: (hg_toL lv).filter (fun q => !(q.1 == i) && !(q.1 + 1 == i && q.2.category == 2)))) (hprev : ∀ j w, j + 1 = i → lv[j]? = some (some w) → ¬ w.category = 2) (hi : i < lv.length) : hg_LV ls' nL (lv.set i (some v)) := by
  refine ⟨h'.1, by rw [List.length_set]; exact h.2.1, h'.2.1, fun j w hw => ?_⟩
  by_cases hj : j = i
  · subst hj
    rw [List.getElem?_set_self hi] at hw
    cases hw
    exact h'.2.2 (j, v) List.mem_cons_self
  · rw [List.getElem?_set_ne (fun e => hj e.symm)] at hw
    refine h'.2.2 (j, w) (List.mem_cons_of_mem _ (List.mem_filter.mpr ⟨hg_toL_mem.mpr hw, ?_⟩))
    by_cases hc : j + 1 = i
    · have := hprev j w hc hw
      simp [hj, this]
    · simp [hj, hc]
theorem hg_LV.put2 {ls ls' : Array Slot} {nL : Nat} {lv : List (Option Value)} {i : Nat} {v : Value} (h : hg_LV ls nL lv) (h' : lv_has ls' nL ((i, v) :: (hg_toL lv).filter (fun q => !(q.1 == i) && (!(q.1 == i + 1) && !(q.1 + 1 == i && q.2.category == 2))))) (hprev : ∀ j w, j + 1 = i → lv[j]? = some (some w) → ¬ w.category = 2) (hi : i + 1 < lv.length) : hg_LV ls' nL ((lv.set i (some v)).set (i + 1) none) := by
  refine ⟨h'.1, by rw [List.length_set, List.length_set]; exact h.2.1, h'.2.1, fun j w hw => ?_⟩
  by_cases hj1 : j = i + 1
  · subst hj1
    rw [List.getElem?_set_self (by rw [List.length_set]; exact hi)] at hw
    cases hw
  rw [List.getElem?_set_ne (fun e => hj1 e.symm)] at hw
  by_cases hj : j = i
  · subst hj
    rw [List.getElem?_set_self (by omega)] at hw
    cases hw
    exact h'.2.2 (j, v) List.mem_cons_self
  · rw [List.getElem?_set_ne (fun e => hj e.symm)] at hw
    refine h'.2.2 (j, w) (List.mem_cons_of_mem _ (List.mem_filter.mpr ⟨hg_toL_mem.mpr hw, ?_⟩))
    by_cases hc : j + 1 = i
    · have := hprev j w hc hw
      simp [hj, hj1, this]
    · simp [hj, hj1, hc]
def hg_c1 (o : Option Value) : Bool := match o with
  | some v => !(v.category == 2)
  | none => true
theorem hg_c1_of {o : Option Value} {w : Value} (h : hg_c1 o = true) (e : some o = some (some w)) : ¬ w.category = 2 := by
  cases e
  simpa [hg_c1] using h
/-- words -/
def hg_U : List Cond := lw_tbl.filter goodWord
def hg_wU (y : MethodName) (cc : ByteArray) (nL : Nat) (ret : Option FieldType) : List Cond := .code y cc nL ret :: hg_U
theorem hg_Uin {w : Cond} (h : w ∈ lw_tbl) (hg : goodWord w = true) : w ∈ hg_U := List.mem_filter.mpr ⟨h, hg⟩
theorem hg_goodIn {y : MethodName} {cc : ByteArray} {nL : Nat} {ret : Option FieldType} (h : Cond.code y cc nL ret ∈ hg_U) : GoodIn hg_U (hg_wU y cc nL ret) := by
  intro w hw
  have hm : w ∈ hg_U := by
    rcases List.mem_cons.mp hw with e | e
    · rw [e]; exact h
    · exact e
  exact ⟨hm, good_of_word (List.mem_filter.mp hm).2⟩
/-- a call's words: own class, place in the pool, the method, its code -/
def hg_Lk (own : String) (idx : Nat) (y : MethodName) (cc : ByteArray) (nL : Nat) (ret : Option FieldType) (n : Nat) : Prop :=
  Cond.methodLink own idx y ∈ hg_U ∧ Cond.code y cc nL ret ∈ hg_U ∧ Cond.initialized y.cls ∈ hg_U ∧ (y.cls ≠ "java/lang/invoke/MethodHandle" ∧ y.cls ≠ "java/lang/invoke/VarHandle" ∧ (parseMethodDescriptor y.desc).map (fun d => d.parameters.length) = some n)
def hg_LkN (own : String) (idx : Nat) (y : MethodName) (cc : ByteArray) (nL : Nat) (ret : Option FieldType) (n : Nat) (host : String) : Prop :=
  (own, idx, y, host) ∈ hg_nests ∧ Cond.code y cc nL ret ∈ hg_U ∧ Cond.initialized y.cls ∈ hg_U ∧ (y.cls ≠ "java/lang/invoke/MethodHandle" ∧ y.cls ≠ "java/lang/invoke/VarHandle" ∧ (parseMethodDescriptor y.desc).map (fun d => d.parameters.length) = some n)
/-- a method's end: its answer, the numbers behind it -/
def hg_Qc (E : hg_Wd) (post : Option Value → hg_Mem → Prop) : Array Value → State → Outcome → State → Prop := fun _ st oc t => ∃ (v : Option Value) (τ : hg_Mem), oc = .returned v ∧ post v τ ∧ va_P E.1 vwCl (hg_wl E τ) t.heap ∧ va_F (hg_AW E) st t
/-- a CONTRACT: method y, called with av in any heap that holds the numbers σ, returns, with post of its answer and of the numbers then -/
def hg_C (l : Launch) (E : hg_Wd) (y : MethodName) (cc : ByteArray) (nL : Nat) (ret : Option FieldType) (rm : Room) (av : List Value) (σ : hg_Mem) (post : Option Value → hg_Mem → Prop) : Prop :=
  Met l y (hg_wU y cc nL ret) rm (va_Pc av (fun U => va_P E.1 vwCl (hg_wl E σ) U.heap ∧ hg_KW E U)) (hg_Qc E post) 0 0 (hg_AW E)
def hg_pi (f : Int32 → hg_Mem → Prop) : Option Value → hg_Mem → Prop := fun v τ => ∃ r, v = some (.int r) ∧ f r τ
def hg_pl (f : Int64 → hg_Mem → Prop) : Option Value → hg_Mem → Prop := fun v τ => ∃ r, v = some (.long r) ∧ f r τ
def hg_pr (f : Nat → hg_Mem → Prop) : Option Value → hg_Mem → Prop := fun v τ => ∃ r, v = some (.ref r) ∧ f r τ
def hg_pv (f : hg_Mem → Prop) : Option Value → hg_Mem → Prop := fun v τ => v = none ∧ f τ
def hg_Cx (E : hg_Wd) (p : Program) (s : State) (m : MethodId) (args : Array Value) (meth : Method) (c : Code) (cc : ByteArray) (nL : Nat) (own : String) (ret : Option FieldType) : Prop :=
  p.tables.exec = Jvm.exec ∧ c.code = cc ∧ c.maxLocals = nL ∧ s.vm.findClass own = some m.cls ∧ (∀ w ∈ hg_U, w.before args s = true) ∧ hg_KW E s ∧ meth.sig.returnType = ret ∧ meth.locks = false
/-- the judgement: at pc, with numbers σ, locals lv and stack st, the machine comes to Q -/
def hg_G (E : hg_Wd) (p : Program) (l : Launch) (e : Env) (R : Room) (s : State) (m : MethodId) (args : Array Value) (below : List Frame) (meth : Method) (c : Code) (nL : Nat) (Q : State → Prop) (σ : hg_Mem) (pc : Nat) (lv : List (Option Value)) (st : List Value) : Prop :=
  ∀ (H : Heap) (locs : List Loc) (ls : Array Slot), va_P E.1 vwCl (hg_wl E σ) H → va_S (hg_AW E) s.heap H locs → hg_LV ls nL lv → W p l e R s m args below meth c H locs 0 0 Q (F0 m pc ls st)
def hg_lvs (av : List Value) (nL : Nat) : List (Option Value) := (av.flatMap (fun v => if v.category = 2 then [some v, none] else [some v])) ++ List.replicate (nL - (av.flatMap (fun v => if v.category = 2 then [some v, none] else [some v])).length) none
section HGR
variable {E : hg_Wd} {p : Program} {l : Launch} {e : Env} {R : Room} {s : State} {m : MethodId} {args : Array Value} {below : List Frame} {meth : Method} {c : Code} {cc : ByteArray} {nL : Nat} {own : String} {ret : Option FieldType} {Q : State → Prop} {σ : hg_Mem} {pc pc' : Nat} {st : List Value}

theorem hg_iadd (cx : hg_Cx E p s m args meth c cc nL own ret) {lv : List (Option Value)} {x y : Int32} (hd : decode cc pc = .ok (.iadd, 1)) (hp : pc + 1 = pc') (k : hg_G E p l e R s m args below meth c nL Q σ pc' lv (.int (x + y) :: st)) : hg_G E p l e R s m args below meth c nL Q σ pc lv (.int y :: .int x :: st) := by
  subst hp; intro H locs ls hP hS hL; exact lv_iadd cx.1 cx.2.1 hd (k H locs ls hP hS hL)
theorem hg_isub (cx : hg_Cx E p s m args meth c cc nL own ret) {lv : List (Option Value)} {x y : Int32} (hd : decode cc pc = .ok (.isub, 1)) (hp : pc + 1 = pc') (k : hg_G E p l e R s m args below meth c nL Q σ pc' lv (.int (x - y) :: st)) : hg_G E p l e R s m args below meth c nL Q σ pc lv (.int y :: .int x :: st) := by
  subst hp; intro H locs ls hP hS hL; exact lv_isub cx.1 cx.2.1 hd (k H locs ls hP hS hL)
theorem hg_imul (cx : hg_Cx E p s m args meth c cc nL own ret) {lv : List (Option Value)} {x y : Int32} (hd : decode cc pc = .ok (.imul, 1)) (hp : pc + 1 = pc') (k : hg_G E p l e R s m args below meth c nL Q σ pc' lv (.int (x * y) :: st)) : hg_G E p l e R s m args below meth c nL Q σ pc lv (.int y :: .int x :: st) := by
  subst hp; intro H locs ls hP hS hL; exact lv_imul cx.1 cx.2.1 hd (k H locs ls hP hS hL)
theorem hg_iand (cx : hg_Cx E p s m args meth c cc nL own ret) {lv : List (Option Value)} {x y : Int32} (hd : decode cc pc = .ok (.iand, 1)) (hp : pc + 1 = pc') (k : hg_G E p l e R s m args below meth c nL Q σ pc' lv (.int (x &&& y) :: st)) : hg_G E p l e R s m args below meth c nL Q σ pc lv (.int y :: .int x :: st) := by
  subst hp; intro H locs ls hP hS hL; exact lv_iand cx.1 cx.2.1 hd (k H locs ls hP hS hL)
theorem hg_ior (cx : hg_Cx E p s m args meth c cc nL own ret) {lv : List (Option Value)} {x y : Int32} (hd : decode cc pc = .ok (.ior, 1)) (hp : pc + 1 = pc') (k : hg_G E p l e R s m args below meth c nL Q σ pc' lv (.int (x ||| y) :: st)) : hg_G E p l e R s m args below meth c nL Q σ pc lv (.int y :: .int x :: st) := by
  subst hp; intro H locs ls hP hS hL; exact lv_ior cx.1 cx.2.1 hd (k H locs ls hP hS hL)
theorem hg_ixor (cx : hg_Cx E p s m args meth c cc nL own ret) {lv : List (Option Value)} {x y : Int32} (hd : decode cc pc = .ok (.ixor, 1)) (hp : pc + 1 = pc') (k : hg_G E p l e R s m args below meth c nL Q σ pc' lv (.int (x ^^^ y) :: st)) : hg_G E p l e R s m args below meth c nL Q σ pc lv (.int y :: .int x :: st) := by
  subst hp; intro H locs ls hP hS hL; exact lv_ixor cx.1 cx.2.1 hd (k H locs ls hP hS hL)
theorem hg_ishl (cx : hg_Cx E p s m args meth c cc nL own ret) {lv : List (Option Value)} {x y : Int32} (hd : decode cc pc = .ok (.ishl, 1)) (hp : pc + 1 = pc') (k : hg_G E p l e R s m args below meth c nL Q σ pc' lv (.int (x <<< (y &&& 31)) :: st)) : hg_G E p l e R s m args below meth c nL Q σ pc lv (.int y :: .int x :: st) := by
  subst hp; intro H locs ls hP hS hL; exact lv_ishl cx.1 cx.2.1 hd (k H locs ls hP hS hL)
theorem hg_ishr (cx : hg_Cx E p s m args meth c cc nL own ret) {lv : List (Option Value)} {x y : Int32} (hd : decode cc pc = .ok (.ishr, 1)) (hp : pc + 1 = pc') (k : hg_G E p l e R s m args below meth c nL Q σ pc' lv (.int (x >>> (y &&& 31)) :: st)) : hg_G E p l e R s m args below meth c nL Q σ pc lv (.int y :: .int x :: st) := by
  subst hp; intro H locs ls hP hS hL; exact lv_ishr cx.1 cx.2.1 hd (k H locs ls hP hS hL)
theorem hg_idiv (cx : hg_Cx E p s m args meth c cc nL own ret) {lv : List (Option Value)} {x y : Int32} (hn : ¬ y = 0) (hd : decode cc pc = .ok (.idiv, 1)) (hp : pc + 1 = pc') (k : hg_G E p l e R s m args below meth c nL Q σ pc' lv (.int (x / y) :: st)) : hg_G E p l e R s m args below meth c nL Q σ pc lv (.int y :: .int x :: st) := by
  subst hp; intro H locs ls hP hS hL; exact lv_idiv cx.1 cx.2.1 hd hn (k H locs ls hP hS hL)
theorem hg_irem (cx : hg_Cx E p s m args meth c cc nL own ret) {lv : List (Option Value)} {x y : Int32} (hn : ¬ y = 0) (hd : decode cc pc = .ok (.irem, 1)) (hp : pc + 1 = pc') (k : hg_G E p l e R s m args below meth c nL Q σ pc' lv (.int (x - x / y * y) :: st)) : hg_G E p l e R s m args below meth c nL Q σ pc lv (.int y :: .int x :: st) := by
  subst hp; intro H locs ls hP hS hL; exact lv_irem cx.1 cx.2.1 hd hn (k H locs ls hP hS hL)
theorem hg_lor (cx : hg_Cx E p s m args meth c cc nL own ret) {lv : List (Option Value)} {x y : Int64} (hd : decode cc pc = .ok (.lor, 1)) (hp : pc + 1 = pc') (k : hg_G E p l e R s m args below meth c nL Q σ pc' lv (.long (x ||| y) :: st)) : hg_G E p l e R s m args below meth c nL Q σ pc lv (.long y :: .long x :: st) := by
  subst hp; intro H locs ls hP hS hL; exact lv_lor cx.1 cx.2.1 hd (k H locs ls hP hS hL)
theorem hg_land (cx : hg_Cx E p s m args meth c cc nL own ret) {lv : List (Option Value)} {x y : Int64} (hd : decode cc pc = .ok (.land, 1)) (hp : pc + 1 = pc') (k : hg_G E p l e R s m args below meth c nL Q σ pc' lv (.long (x &&& y) :: st)) : hg_G E p l e R s m args below meth c nL Q σ pc lv (.long y :: .long x :: st) := by
  subst hp; intro H locs ls hP hS hL; exact lv_land cx.1 cx.2.1 hd (k H locs ls hP hS hL)
theorem hg_lshl (cx : hg_Cx E p s m args meth c cc nL own ret) {lv : List (Option Value)} {x : Int64} {y : Int32} (hd : decode cc pc = .ok (.lshl, 1)) (hp : pc + 1 = pc') (k : hg_G E p l e R s m args below meth c nL Q σ pc' lv (.long (x <<< (y.toInt64 &&& 63)) :: st)) : hg_G E p l e R s m args below meth c nL Q σ pc lv (.int y :: .long x :: st) := by
  subst hp; intro H locs ls hP hS hL; exact lv_lshl cx.1 cx.2.1 hd rfl (k H locs ls hP hS hL)
theorem hg_iushr (cx : hg_Cx E p s m args meth c cc nL own ret) {lv : List (Option Value)} {x y : Int32} (hd : decode cc pc = .ok (.iushr, 1)) (hp : pc + 1 = pc') (k : hg_G E p l e R s m args below meth c nL Q σ pc' lv (.int (x.toUInt32 >>> (y.toUInt32 &&& Int32.toUInt32 31)).toInt32 :: st)) : hg_G E p l e R s m args below meth c nL Q σ pc lv (.int y :: .int x :: st) := by
  subst hp; intro H locs ls hP hS hL; exact lv_iushr cx.1 cx.2.1 hd rfl (k H locs ls hP hS hL)
theorem hg_i2l (cx : hg_Cx E p s m args meth c cc nL own ret) {lv : List (Option Value)} {x : Int32} (hd : decode cc pc = .ok (.i2l, 1)) (hp : pc + 1 = pc') (k : hg_G E p l e R s m args below meth c nL Q σ pc' lv (.long x.toInt64 :: st)) : hg_G E p l e R s m args below meth c nL Q σ pc lv (.int x :: st) := by
  subst hp; intro H locs ls hP hS hL; exact lv_i2l cx.1 cx.2.1 hd rfl (k H locs ls hP hS hL)
theorem hg_l2i (cx : hg_Cx E p s m args meth c cc nL own ret) {lv : List (Option Value)} {x : Int64} (hd : decode cc pc = .ok (.l2i, 1)) (hp : pc + 1 = pc') (k : hg_G E p l e R s m args below meth c nL Q σ pc' lv (.int x.toInt32 :: st)) : hg_G E p l e R s m args below meth c nL Q σ pc lv (.long x :: st) := by
  subst hp; intro H locs ls hP hS hL; exact lv_l2i cx.1 cx.2.1 hd rfl (k H locs ls hP hS hL)
theorem hg_i2b (cx : hg_Cx E p s m args meth c cc nL own ret) {lv : List (Option Value)} {x : Int32} (hd : decode cc pc = .ok (.i2b, 1)) (hp : pc + 1 = pc') (k : hg_G E p l e R s m args below meth c nL Q σ pc' lv (.int x.toInt8.toInt32 :: st)) : hg_G E p l e R s m args below meth c nL Q σ pc lv (.int x :: st) := by
  subst hp; intro H locs ls hP hS hL; exact lv_i2b cx.1 cx.2.1 hd rfl (k H locs ls hP hS hL)
theorem hg_i2s (cx : hg_Cx E p s m args meth c cc nL own ret) {lv : List (Option Value)} {x : Int32} (hd : decode cc pc = .ok (.i2s, 1)) (hp : pc + 1 = pc') (k : hg_G E p l e R s m args below meth c nL Q σ pc' lv (.int x.toInt16.toInt32 :: st)) : hg_G E p l e R s m args below meth c nL Q σ pc lv (.int x :: st) := by
  subst hp; intro H locs ls hP hS hL; exact lv_i2s cx.1 cx.2.1 hd rfl (k H locs ls hP hS hL)
theorem hg_i2c (cx : hg_Cx E p s m args meth c cc nL own ret) {lv : List (Option Value)} {x : Int32} (hd : decode cc pc = .ok (.i2c, 1)) (hp : pc + 1 = pc') (k : hg_G E p l e R s m args below meth c nL Q σ pc' lv (.int (x.toUInt32 % 65536).toInt32 :: st)) : hg_G E p l e R s m args below meth c nL Q σ pc lv (.int x :: st) := by
  subst hp; intro H locs ls hP hS hL; exact lv_i2c cx.1 cx.2.1 hd rfl (k H locs ls hP hS hL)
theorem hg_lcmp (cx : hg_Cx E p s m args meth c cc nL own ret) {lv : List (Option Value)} {x y : Int64} (hd : decode cc pc = .ok (.lcmp, 1)) (hp : pc + 1 = pc') (k : hg_G E p l e R s m args below meth c nL Q σ pc' lv (.int (lg_cmp x y) :: st)) : hg_G E p l e R s m args below meth c nL Q σ pc lv (.long y :: .long x :: st) := by
  subst hp; intro H locs ls hP hS hL; exact W.lcmp cx.1 cx.2.1 hd (k H locs ls hP hS hL)
theorem hg_pop (cx : hg_Cx E p s m args meth c cc nL own ret) {lv : List (Option Value)} {v : Value} (hv : v.category = 1) (hd : decode cc pc = .ok (.pop, 1)) (hp : pc + 1 = pc') (k : hg_G E p l e R s m args below meth c nL Q σ pc' lv st) : hg_G E p l e R s m args below meth c nL Q σ pc lv (v :: st) := by
  subst hp; intro H locs ls hP hS hL; exact lv_pop cx.1 cx.2.1 hd hv (k H locs ls hP hS hL)
theorem hg_dup (cx : hg_Cx E p s m args meth c cc nL own ret) {lv : List (Option Value)} {v : Value} (hv : v.category = 1) (hd : decode cc pc = .ok (.dup, 1)) (hp : pc + 1 = pc') (k : hg_G E p l e R s m args below meth c nL Q σ pc' lv (v :: v :: st)) : hg_G E p l e R s m args below meth c nL Q σ pc lv (v :: st) := by
  subst hp; intro H locs ls hP hS hL; exact lv_dup cx.1 cx.2.1 hd hv (k H locs ls hP hS hL)
theorem hg_dup2 (cx : hg_Cx E p s m args meth c cc nL own ret) {lv : List (Option Value)} {v w : Value} (hv : v.category = 1) (hw : w.category = 1) (hd : decode cc pc = .ok (.dup2, 1)) (hp : pc + 1 = pc') (k : hg_G E p l e R s m args below meth c nL Q σ pc' lv (v :: w :: v :: w :: st)) : hg_G E p l e R s m args below meth c nL Q σ pc lv (v :: w :: st) := by
  subst hp; intro H locs ls hP hS hL; exact lv_dup2_11 cx.1 cx.2.1 hd hv hw (k H locs ls hP hS hL)
theorem hg_iconst (cx : hg_Cx E p s m args meth c cc nL own ret) {lv : List (Option Value)} {n : Int} (v : Int32) (hd : decode cc pc = .ok (.iconst n, 1)) (hv : Int32.ofInt n = v) (hp : pc + 1 = pc') (k : hg_G E p l e R s m args below meth c nL Q σ pc' lv (.int v :: st)) : hg_G E p l e R s m args below meth c nL Q σ pc lv st := by
  subst hp; intro H locs ls hP hS hL; exact lv_iconst cx.1 cx.2.1 hd hv (k H locs ls hP hS hL)
theorem hg_bipush (cx : hg_Cx E p s m args meth c cc nL own ret) {lv : List (Option Value)} {n : Int} (v : Int32) (hd : decode cc pc = .ok (.bipush n, 2)) (hv : (Int8.ofInt n).toInt32 = v) (hp : pc + 2 = pc') (k : hg_G E p l e R s m args below meth c nL Q σ pc' lv (.int v :: st)) : hg_G E p l e R s m args below meth c nL Q σ pc lv st := by
  subst hp; intro H locs ls hP hS hL; exact lv_bipush cx.1 cx.2.1 hd hv (k H locs ls hP hS hL)
theorem hg_sipush (cx : hg_Cx E p s m args meth c cc nL own ret) {lv : List (Option Value)} {n : Int} (v : Int32) (hd : decode cc pc = .ok (.sipush n, 3)) (hv : (Int16.ofInt n).toInt32 = v) (hp : pc + 3 = pc') (k : hg_G E p l e R s m args below meth c nL Q σ pc' lv (.int v :: st)) : hg_G E p l e R s m args below meth c nL Q σ pc lv st := by
  subst hp; intro H locs ls hP hS hL; exact lv_sipush cx.1 cx.2.1 hd hv (k H locs ls hP hS hL)
theorem hg_lconst (cx : hg_Cx E p s m args meth c cc nL own ret) {lv : List (Option Value)} {n : Fin 2} (v : Int64) (hd : decode cc pc = .ok (.lconst n, 1)) (hv : Int64.ofNat (n : Nat) = v) (hp : pc + 1 = pc') (k : hg_G E p l e R s m args below meth c nL Q σ pc' lv (.long v :: st)) : hg_G E p l e R s m args below meth c nL Q σ pc lv st := by
  subst hp; intro H locs ls hP hS hL; exact lv_lconst cx.1 cx.2.1 hd hv (k H locs ls hP hS hL)
theorem hg_ldc (cx : hg_Cx E p s m args meth c cc nL own ret) {lv : List (Option Value)} {idx : Nat} {v : Int32} (hc : Cond.constant own idx v ∈ hg_U) (hd : decode cc pc = .ok (.ldc idx, 2)) (hp : pc + 2 = pc') (k : hg_G E p l e R s m args below meth c nL Q σ pc' lv (.int v :: st)) : hg_G E p l e R s m args below meth c nL Q σ pc lv st := by
  subst hp; intro H locs ls hP hS hL; exact lv_ldc cx.1 cx.2.1 cx.2.2.2.1 (cx.2.2.2.2.1 _ hc) hd (k H locs ls hP hS hL)
theorem hg_ldcw (cx : hg_Cx E p s m args meth c cc nL own ret) {lv : List (Option Value)} {idx : Nat} {v : Int32} (hc : Cond.constant own idx v ∈ hg_U) (hd : decode cc pc = .ok (.ldc_w idx, 3)) (hp : pc + 3 = pc') (k : hg_G E p l e R s m args below meth c nL Q σ pc' lv (.int v :: st)) : hg_G E p l e R s m args below meth c nL Q σ pc lv st := by
  subst hp; intro H locs ls hP hS hL; exact lv_ldcw cx.1 cx.2.1 cx.2.2.2.1 (cx.2.2.2.2.1 _ hc) hd (k H locs ls hP hS hL)
theorem hg_ldc2 (cx : hg_Cx E p s m args meth c cc nL own ret) {lv : List (Option Value)} {idx : Nat} {v : Int64} (hc : Cond.constantLong own idx v ∈ hg_U) (hd : decode cc pc = .ok (.ldc2_w idx, 3)) (hp : pc + 3 = pc') (k : hg_G E p l e R s m args below meth c nL Q σ pc' lv (.long v :: st)) : hg_G E p l e R s m args below meth c nL Q σ pc lv st := by
  subst hp; intro H locs ls hP hS hL; exact lv_ldc2 cx.1 cx.2.1 cx.2.2.2.1 (cx.2.2.2.2.1 _ hc) hd (k H locs ls hP hS hL)
theorem hg_iload0 (cx : hg_Cx E p s m args meth c cc nL own ret) {r : List (Option Value)} {x : Int32} (hd : decode cc pc = .ok (.iload_n 0, 1)) (hp : pc + 1 = pc') (k : hg_G E p l e R s m args below meth c nL Q σ pc' (some (.int x) :: r) (.int x :: st)) : hg_G E p l e R s m args below meth c nL Q σ pc (some (.int x) :: r) st := by
  subst hp; intro H locs ls hP hS hL; exact lv_iload_n cx.1 cx.2.1 hd rfl (hL.2.2.2 0 _ rfl) (k H locs ls hP hS hL)
theorem hg_aload0 (cx : hg_Cx E p s m args meth c cc nL own ret) {r : List (Option Value)} {x : Nat} (hd : decode cc pc = .ok (.aload_n 0, 1)) (hp : pc + 1 = pc') (k : hg_G E p l e R s m args below meth c nL Q σ pc' (some (.ref x) :: r) (.ref x :: st)) : hg_G E p l e R s m args below meth c nL Q σ pc (some (.ref x) :: r) st := by
  subst hp; intro H locs ls hP hS hL; exact lv_aload_n cx.1 cx.2.1 hd rfl (hL.2.2.2 0 _ rfl) (k H locs ls hP hS hL)
theorem hg_lload0 (cx : hg_Cx E p s m args meth c cc nL own ret) {r : List (Option Value)} {x : Int64} (hd : decode cc pc = .ok (.lload_n 0, 1)) (hp : pc + 1 = pc') (k : hg_G E p l e R s m args below meth c nL Q σ pc' (some (.long x) :: r) (.long x :: st)) : hg_G E p l e R s m args below meth c nL Q σ pc (some (.long x) :: r) st := by
  subst hp; intro H locs ls hP hS hL; exact lv_lload_n cx.1 cx.2.1 hd rfl (hL.2.2.2 0 _ rfl) (k H locs ls hP hS hL)
theorem hg_istore0 (cx : hg_Cx E p s m args meth c cc nL own ret) {r : List (Option Value)} {o : Option Value} {x : Int32}  (hd : decode cc pc = .ok (.istore_n 0, 1)) (hp : pc + 1 = pc') (k : hg_G E p l e R s m args below meth c nL Q σ pc' (some (.int x) :: r) st) : hg_G E p l e R s m args below meth c nL Q σ pc (o :: r) (.int x :: st) := by
  subst hp; intro H locs ls hP hS hL; exact lv_istore_n cx.1 cx.2.1 hd rfl hL.has (by have := hL.2.1; simp at this; omega) rfl (fun ls2 h2 => k H locs ls2 hP hS (hL.put1 h2 (fun j w hj _ => by omega) (show 0 < _ by simp only [List.length_cons]; omega)))
theorem hg_astore0 (cx : hg_Cx E p s m args meth c cc nL own ret) {r : List (Option Value)} {o : Option Value} {x : Nat}  (hd : decode cc pc = .ok (.astore_n 0, 1)) (hp : pc + 1 = pc') (k : hg_G E p l e R s m args below meth c nL Q σ pc' (some (.ref x) :: r) st) : hg_G E p l e R s m args below meth c nL Q σ pc (o :: r) (.ref x :: st) := by
  subst hp; intro H locs ls hP hS hL; exact lv_astore_n cx.1 cx.2.1 hd rfl hL.has (by have := hL.2.1; simp at this; omega) rfl (fun ls2 h2 => k H locs ls2 hP hS (hL.put1 h2 (fun j w hj _ => by omega) (show 0 < _ by simp only [List.length_cons]; omega)))
theorem hg_lstore0 (cx : hg_Cx E p s m args meth c cc nL own ret) {r : List (Option Value)} {o o2 : Option Value} {x : Int64}  (hd : decode cc pc = .ok (.lstore_n 0, 1)) (hp : pc + 1 = pc') (k : hg_G E p l e R s m args below meth c nL Q σ pc' (some (.long x) :: none :: r) st) : hg_G E p l e R s m args below meth c nL Q σ pc (o :: o2 :: r) (.long x :: st) := by
  subst hp; intro H locs ls hP hS hL; exact lv_lstore_n cx.1 cx.2.1 hd rfl hL.has (by have := hL.2.1; simp at this; omega) rfl (fun ls2 h2 => k H locs ls2 hP hS (hL.put2 h2 (fun j w hj _ => by omega) (show 0 + 1 < _ by simp only [List.length_cons]; omega)))
theorem hg_iinc0p (cx : hg_Cx E p s m args meth c cc nL own ret) {r : List (Option Value)} {x : Int32} (hd : decode cc pc = .ok (.iinc 0 1, 3)) (hp : pc + 3 = pc') (k : hg_G E p l e R s m args below meth c nL Q σ pc' (some (.int (x + 1)) :: r) st) : hg_G E p l e R s m args below meth c nL Q σ pc (some (.int x) :: r) st := by
  subst hp; intro H locs ls hP hS hL
  obtain ⟨j, hj⟩ := List.getElem?_of_mem (hg_toL_mem.mpr (show (some (.int x) :: r)[0]? = some (some (.int x)) from rfl))
  exact lv_iinc cx.1 cx.2.1 hd hL.has hj rfl (by have := hL.2.1; simp at this; omega) rfl (fun ls2 h2 => k H locs ls2 hP hS (hL.put1 h2 (fun j w hj _ => by omega) (show 0 < _ by simp only [List.length_cons]; omega)))
theorem hg_iinc0m (cx : hg_Cx E p s m args meth c cc nL own ret) {r : List (Option Value)} {x : Int32} (hd : decode cc pc = .ok (.iinc 0 (-1), 3)) (hp : pc + 3 = pc') (k : hg_G E p l e R s m args below meth c nL Q σ pc' (some (.int (x + (-1))) :: r) st) : hg_G E p l e R s m args below meth c nL Q σ pc (some (.int x) :: r) st := by
  subst hp; intro H locs ls hP hS hL
  obtain ⟨j, hj⟩ := List.getElem?_of_mem (hg_toL_mem.mpr (show (some (.int x) :: r)[0]? = some (some (.int x)) from rfl))
  exact lv_iinc cx.1 cx.2.1 hd hL.has hj rfl (by have := hL.2.1; simp at this; omega) rfl (fun ls2 h2 => k H locs ls2 hP hS (hL.put1 h2 (fun j w hj _ => by omega) (show 0 < _ by simp only [List.length_cons]; omega)))
theorem hg_iload1 (cx : hg_Cx E p s m args meth c cc nL own ret) {a0 : Option Value} {r : List (Option Value)} {x : Int32} (hd : decode cc pc = .ok (.iload_n 1, 1)) (hp : pc + 1 = pc') (k : hg_G E p l e R s m args below meth c nL Q σ pc' (a0 :: some (.int x) :: r) (.int x :: st)) : hg_G E p l e R s m args below meth c nL Q σ pc (a0 :: some (.int x) :: r) st := by
  subst hp; intro H locs ls hP hS hL; exact lv_iload_n cx.1 cx.2.1 hd rfl (hL.2.2.2 1 _ rfl) (k H locs ls hP hS hL)
theorem hg_aload1 (cx : hg_Cx E p s m args meth c cc nL own ret) {a0 : Option Value} {r : List (Option Value)} {x : Nat} (hd : decode cc pc = .ok (.aload_n 1, 1)) (hp : pc + 1 = pc') (k : hg_G E p l e R s m args below meth c nL Q σ pc' (a0 :: some (.ref x) :: r) (.ref x :: st)) : hg_G E p l e R s m args below meth c nL Q σ pc (a0 :: some (.ref x) :: r) st := by
  subst hp; intro H locs ls hP hS hL; exact lv_aload_n cx.1 cx.2.1 hd rfl (hL.2.2.2 1 _ rfl) (k H locs ls hP hS hL)
theorem hg_lload1 (cx : hg_Cx E p s m args meth c cc nL own ret) {a0 : Option Value} {r : List (Option Value)} {x : Int64} (hd : decode cc pc = .ok (.lload_n 1, 1)) (hp : pc + 1 = pc') (k : hg_G E p l e R s m args below meth c nL Q σ pc' (a0 :: some (.long x) :: r) (.long x :: st)) : hg_G E p l e R s m args below meth c nL Q σ pc (a0 :: some (.long x) :: r) st := by
  subst hp; intro H locs ls hP hS hL; exact lv_lload_n cx.1 cx.2.1 hd rfl (hL.2.2.2 1 _ rfl) (k H locs ls hP hS hL)
theorem hg_istore1 (cx : hg_Cx E p s m args meth c cc nL own ret) {a0 : Option Value} {r : List (Option Value)} {o : Option Value} {x : Int32} (hq : hg_c1 a0 = true)  (hd : decode cc pc = .ok (.istore_n 1, 1)) (hp : pc + 1 = pc') (k : hg_G E p l e R s m args below meth c nL Q σ pc' (a0 :: some (.int x) :: r) st) : hg_G E p l e R s m args below meth c nL Q σ pc (a0 :: o :: r) (.int x :: st) := by
  subst hp; intro H locs ls hP hS hL; exact lv_istore_n cx.1 cx.2.1 hd rfl hL.has (by have := hL.2.1; simp at this; omega) rfl (fun ls2 h2 => k H locs ls2 hP hS (hL.put1 h2 (fun j w hj hw => by obtain rfl : j = 0 := (by omega); exact hg_c1_of hq hw) (show 1 < _ by simp only [List.length_cons]; omega)))
theorem hg_astore1 (cx : hg_Cx E p s m args meth c cc nL own ret) {a0 : Option Value} {r : List (Option Value)} {o : Option Value} {x : Nat} (hq : hg_c1 a0 = true)  (hd : decode cc pc = .ok (.astore_n 1, 1)) (hp : pc + 1 = pc') (k : hg_G E p l e R s m args below meth c nL Q σ pc' (a0 :: some (.ref x) :: r) st) : hg_G E p l e R s m args below meth c nL Q σ pc (a0 :: o :: r) (.ref x :: st) := by
  subst hp; intro H locs ls hP hS hL; exact lv_astore_n cx.1 cx.2.1 hd rfl hL.has (by have := hL.2.1; simp at this; omega) rfl (fun ls2 h2 => k H locs ls2 hP hS (hL.put1 h2 (fun j w hj hw => by obtain rfl : j = 0 := (by omega); exact hg_c1_of hq hw) (show 1 < _ by simp only [List.length_cons]; omega)))
theorem hg_lstore1 (cx : hg_Cx E p s m args meth c cc nL own ret) {a0 : Option Value} {r : List (Option Value)} {o o2 : Option Value} {x : Int64} (hq : hg_c1 a0 = true)  (hd : decode cc pc = .ok (.lstore_n 1, 1)) (hp : pc + 1 = pc') (k : hg_G E p l e R s m args below meth c nL Q σ pc' (a0 :: some (.long x) :: none :: r) st) : hg_G E p l e R s m args below meth c nL Q σ pc (a0 :: o :: o2 :: r) (.long x :: st) := by
  subst hp; intro H locs ls hP hS hL; exact lv_lstore_n cx.1 cx.2.1 hd rfl hL.has (by have := hL.2.1; simp at this; omega) rfl (fun ls2 h2 => k H locs ls2 hP hS (hL.put2 h2 (fun j w hj hw => by obtain rfl : j = 0 := (by omega); exact hg_c1_of hq hw) (show 1 + 1 < _ by simp only [List.length_cons]; omega)))
theorem hg_iinc1p (cx : hg_Cx E p s m args meth c cc nL own ret) {a0 : Option Value} {r : List (Option Value)} {x : Int32} (hq : hg_c1 a0 = true) (hd : decode cc pc = .ok (.iinc 1 1, 3)) (hp : pc + 3 = pc') (k : hg_G E p l e R s m args below meth c nL Q σ pc' (a0 :: some (.int (x + 1)) :: r) st) : hg_G E p l e R s m args below meth c nL Q σ pc (a0 :: some (.int x) :: r) st := by
  subst hp; intro H locs ls hP hS hL
  obtain ⟨j, hj⟩ := List.getElem?_of_mem (hg_toL_mem.mpr (show (a0 :: some (.int x) :: r)[1]? = some (some (.int x)) from rfl))
  exact lv_iinc cx.1 cx.2.1 hd hL.has hj rfl (by have := hL.2.1; simp at this; omega) rfl (fun ls2 h2 => k H locs ls2 hP hS (hL.put1 h2 (fun j w hj hw => by obtain rfl : j = 0 := (by omega); exact hg_c1_of hq hw) (show 1 < _ by simp only [List.length_cons]; omega)))
theorem hg_iinc1m (cx : hg_Cx E p s m args meth c cc nL own ret) {a0 : Option Value} {r : List (Option Value)} {x : Int32} (hq : hg_c1 a0 = true) (hd : decode cc pc = .ok (.iinc 1 (-1), 3)) (hp : pc + 3 = pc') (k : hg_G E p l e R s m args below meth c nL Q σ pc' (a0 :: some (.int (x + (-1))) :: r) st) : hg_G E p l e R s m args below meth c nL Q σ pc (a0 :: some (.int x) :: r) st := by
  subst hp; intro H locs ls hP hS hL
  obtain ⟨j, hj⟩ := List.getElem?_of_mem (hg_toL_mem.mpr (show (a0 :: some (.int x) :: r)[1]? = some (some (.int x)) from rfl))
  exact lv_iinc cx.1 cx.2.1 hd hL.has hj rfl (by have := hL.2.1; simp at this; omega) rfl (fun ls2 h2 => k H locs ls2 hP hS (hL.put1 h2 (fun j w hj hw => by obtain rfl : j = 0 := (by omega); exact hg_c1_of hq hw) (show 1 < _ by simp only [List.length_cons]; omega)))
theorem hg_iload2 (cx : hg_Cx E p s m args meth c cc nL own ret) {a0 a1 : Option Value} {r : List (Option Value)} {x : Int32} (hd : decode cc pc = .ok (.iload_n 2, 1)) (hp : pc + 1 = pc') (k : hg_G E p l e R s m args below meth c nL Q σ pc' (a0 :: a1 :: some (.int x) :: r) (.int x :: st)) : hg_G E p l e R s m args below meth c nL Q σ pc (a0 :: a1 :: some (.int x) :: r) st := by
  subst hp; intro H locs ls hP hS hL; exact lv_iload_n cx.1 cx.2.1 hd rfl (hL.2.2.2 2 _ rfl) (k H locs ls hP hS hL)
theorem hg_aload2 (cx : hg_Cx E p s m args meth c cc nL own ret) {a0 a1 : Option Value} {r : List (Option Value)} {x : Nat} (hd : decode cc pc = .ok (.aload_n 2, 1)) (hp : pc + 1 = pc') (k : hg_G E p l e R s m args below meth c nL Q σ pc' (a0 :: a1 :: some (.ref x) :: r) (.ref x :: st)) : hg_G E p l e R s m args below meth c nL Q σ pc (a0 :: a1 :: some (.ref x) :: r) st := by
  subst hp; intro H locs ls hP hS hL; exact lv_aload_n cx.1 cx.2.1 hd rfl (hL.2.2.2 2 _ rfl) (k H locs ls hP hS hL)
theorem hg_lload2 (cx : hg_Cx E p s m args meth c cc nL own ret) {a0 a1 : Option Value} {r : List (Option Value)} {x : Int64} (hd : decode cc pc = .ok (.lload_n 2, 1)) (hp : pc + 1 = pc') (k : hg_G E p l e R s m args below meth c nL Q σ pc' (a0 :: a1 :: some (.long x) :: r) (.long x :: st)) : hg_G E p l e R s m args below meth c nL Q σ pc (a0 :: a1 :: some (.long x) :: r) st := by
  subst hp; intro H locs ls hP hS hL; exact lv_lload_n cx.1 cx.2.1 hd rfl (hL.2.2.2 2 _ rfl) (k H locs ls hP hS hL)
theorem hg_istore2 (cx : hg_Cx E p s m args meth c cc nL own ret) {a0 a1 : Option Value} {r : List (Option Value)} {o : Option Value} {x : Int32} (hq : hg_c1 a1 = true)  (hd : decode cc pc = .ok (.istore_n 2, 1)) (hp : pc + 1 = pc') (k : hg_G E p l e R s m args below meth c nL Q σ pc' (a0 :: a1 :: some (.int x) :: r) st) : hg_G E p l e R s m args below meth c nL Q σ pc (a0 :: a1 :: o :: r) (.int x :: st) := by
  subst hp; intro H locs ls hP hS hL; exact lv_istore_n cx.1 cx.2.1 hd rfl hL.has (by have := hL.2.1; simp at this; omega) rfl (fun ls2 h2 => k H locs ls2 hP hS (hL.put1 h2 (fun j w hj hw => by obtain rfl : j = 1 := (by omega); exact hg_c1_of hq hw) (show 2 < _ by simp only [List.length_cons]; omega)))
theorem hg_astore2 (cx : hg_Cx E p s m args meth c cc nL own ret) {a0 a1 : Option Value} {r : List (Option Value)} {o : Option Value} {x : Nat} (hq : hg_c1 a1 = true)  (hd : decode cc pc = .ok (.astore_n 2, 1)) (hp : pc + 1 = pc') (k : hg_G E p l e R s m args below meth c nL Q σ pc' (a0 :: a1 :: some (.ref x) :: r) st) : hg_G E p l e R s m args below meth c nL Q σ pc (a0 :: a1 :: o :: r) (.ref x :: st) := by
  subst hp; intro H locs ls hP hS hL; exact lv_astore_n cx.1 cx.2.1 hd rfl hL.has (by have := hL.2.1; simp at this; omega) rfl (fun ls2 h2 => k H locs ls2 hP hS (hL.put1 h2 (fun j w hj hw => by obtain rfl : j = 1 := (by omega); exact hg_c1_of hq hw) (show 2 < _ by simp only [List.length_cons]; omega)))
theorem hg_lstore2 (cx : hg_Cx E p s m args meth c cc nL own ret) {a0 a1 : Option Value} {r : List (Option Value)} {o o2 : Option Value} {x : Int64} (hq : hg_c1 a1 = true)  (hd : decode cc pc = .ok (.lstore_n 2, 1)) (hp : pc + 1 = pc') (k : hg_G E p l e R s m args below meth c nL Q σ pc' (a0 :: a1 :: some (.long x) :: none :: r) st) : hg_G E p l e R s m args below meth c nL Q σ pc (a0 :: a1 :: o :: o2 :: r) (.long x :: st) := by
  subst hp; intro H locs ls hP hS hL; exact lv_lstore_n cx.1 cx.2.1 hd rfl hL.has (by have := hL.2.1; simp at this; omega) rfl (fun ls2 h2 => k H locs ls2 hP hS (hL.put2 h2 (fun j w hj hw => by obtain rfl : j = 1 := (by omega); exact hg_c1_of hq hw) (show 2 + 1 < _ by simp only [List.length_cons]; omega)))
theorem hg_iinc2p (cx : hg_Cx E p s m args meth c cc nL own ret) {a0 a1 : Option Value} {r : List (Option Value)} {x : Int32} (hq : hg_c1 a1 = true) (hd : decode cc pc = .ok (.iinc 2 1, 3)) (hp : pc + 3 = pc') (k : hg_G E p l e R s m args below meth c nL Q σ pc' (a0 :: a1 :: some (.int (x + 1)) :: r) st) : hg_G E p l e R s m args below meth c nL Q σ pc (a0 :: a1 :: some (.int x) :: r) st := by
  subst hp; intro H locs ls hP hS hL
  obtain ⟨j, hj⟩ := List.getElem?_of_mem (hg_toL_mem.mpr (show (a0 :: a1 :: some (.int x) :: r)[2]? = some (some (.int x)) from rfl))
  exact lv_iinc cx.1 cx.2.1 hd hL.has hj rfl (by have := hL.2.1; simp at this; omega) rfl (fun ls2 h2 => k H locs ls2 hP hS (hL.put1 h2 (fun j w hj hw => by obtain rfl : j = 1 := (by omega); exact hg_c1_of hq hw) (show 2 < _ by simp only [List.length_cons]; omega)))
theorem hg_iinc2m (cx : hg_Cx E p s m args meth c cc nL own ret) {a0 a1 : Option Value} {r : List (Option Value)} {x : Int32} (hq : hg_c1 a1 = true) (hd : decode cc pc = .ok (.iinc 2 (-1), 3)) (hp : pc + 3 = pc') (k : hg_G E p l e R s m args below meth c nL Q σ pc' (a0 :: a1 :: some (.int (x + (-1))) :: r) st) : hg_G E p l e R s m args below meth c nL Q σ pc (a0 :: a1 :: some (.int x) :: r) st := by
  subst hp; intro H locs ls hP hS hL
  obtain ⟨j, hj⟩ := List.getElem?_of_mem (hg_toL_mem.mpr (show (a0 :: a1 :: some (.int x) :: r)[2]? = some (some (.int x)) from rfl))
  exact lv_iinc cx.1 cx.2.1 hd hL.has hj rfl (by have := hL.2.1; simp at this; omega) rfl (fun ls2 h2 => k H locs ls2 hP hS (hL.put1 h2 (fun j w hj hw => by obtain rfl : j = 1 := (by omega); exact hg_c1_of hq hw) (show 2 < _ by simp only [List.length_cons]; omega)))
theorem hg_iload3 (cx : hg_Cx E p s m args meth c cc nL own ret) {a0 a1 a2 : Option Value} {r : List (Option Value)} {x : Int32} (hd : decode cc pc = .ok (.iload_n 3, 1)) (hp : pc + 1 = pc') (k : hg_G E p l e R s m args below meth c nL Q σ pc' (a0 :: a1 :: a2 :: some (.int x) :: r) (.int x :: st)) : hg_G E p l e R s m args below meth c nL Q σ pc (a0 :: a1 :: a2 :: some (.int x) :: r) st := by
  subst hp; intro H locs ls hP hS hL; exact lv_iload_n cx.1 cx.2.1 hd rfl (hL.2.2.2 3 _ rfl) (k H locs ls hP hS hL)
theorem hg_aload3 (cx : hg_Cx E p s m args meth c cc nL own ret) {a0 a1 a2 : Option Value} {r : List (Option Value)} {x : Nat} (hd : decode cc pc = .ok (.aload_n 3, 1)) (hp : pc + 1 = pc') (k : hg_G E p l e R s m args below meth c nL Q σ pc' (a0 :: a1 :: a2 :: some (.ref x) :: r) (.ref x :: st)) : hg_G E p l e R s m args below meth c nL Q σ pc (a0 :: a1 :: a2 :: some (.ref x) :: r) st := by
  subst hp; intro H locs ls hP hS hL; exact lv_aload_n cx.1 cx.2.1 hd rfl (hL.2.2.2 3 _ rfl) (k H locs ls hP hS hL)
theorem hg_lload3 (cx : hg_Cx E p s m args meth c cc nL own ret) {a0 a1 a2 : Option Value} {r : List (Option Value)} {x : Int64} (hd : decode cc pc = .ok (.lload_n 3, 1)) (hp : pc + 1 = pc') (k : hg_G E p l e R s m args below meth c nL Q σ pc' (a0 :: a1 :: a2 :: some (.long x) :: r) (.long x :: st)) : hg_G E p l e R s m args below meth c nL Q σ pc (a0 :: a1 :: a2 :: some (.long x) :: r) st := by
  subst hp; intro H locs ls hP hS hL; exact lv_lload_n cx.1 cx.2.1 hd rfl (hL.2.2.2 3 _ rfl) (k H locs ls hP hS hL)
theorem hg_istore3 (cx : hg_Cx E p s m args meth c cc nL own ret) {a0 a1 a2 : Option Value} {r : List (Option Value)} {o : Option Value} {x : Int32} (hq : hg_c1 a2 = true)  (hd : decode cc pc = .ok (.istore_n 3, 1)) (hp : pc + 1 = pc') (k : hg_G E p l e R s m args below meth c nL Q σ pc' (a0 :: a1 :: a2 :: some (.int x) :: r) st) : hg_G E p l e R s m args below meth c nL Q σ pc (a0 :: a1 :: a2 :: o :: r) (.int x :: st) := by
  subst hp; intro H locs ls hP hS hL; exact lv_istore_n cx.1 cx.2.1 hd rfl hL.has (by have := hL.2.1; simp at this; omega) rfl (fun ls2 h2 => k H locs ls2 hP hS (hL.put1 h2 (fun j w hj hw => by obtain rfl : j = 2 := (by omega); exact hg_c1_of hq hw) (show 3 < _ by simp only [List.length_cons]; omega)))
theorem hg_astore3 (cx : hg_Cx E p s m args meth c cc nL own ret) {a0 a1 a2 : Option Value} {r : List (Option Value)} {o : Option Value} {x : Nat} (hq : hg_c1 a2 = true)  (hd : decode cc pc = .ok (.astore_n 3, 1)) (hp : pc + 1 = pc') (k : hg_G E p l e R s m args below meth c nL Q σ pc' (a0 :: a1 :: a2 :: some (.ref x) :: r) st) : hg_G E p l e R s m args below meth c nL Q σ pc (a0 :: a1 :: a2 :: o :: r) (.ref x :: st) := by
  subst hp; intro H locs ls hP hS hL; exact lv_astore_n cx.1 cx.2.1 hd rfl hL.has (by have := hL.2.1; simp at this; omega) rfl (fun ls2 h2 => k H locs ls2 hP hS (hL.put1 h2 (fun j w hj hw => by obtain rfl : j = 2 := (by omega); exact hg_c1_of hq hw) (show 3 < _ by simp only [List.length_cons]; omega)))
theorem hg_lstore3 (cx : hg_Cx E p s m args meth c cc nL own ret) {a0 a1 a2 : Option Value} {r : List (Option Value)} {o o2 : Option Value} {x : Int64} (hq : hg_c1 a2 = true)  (hd : decode cc pc = .ok (.lstore_n 3, 1)) (hp : pc + 1 = pc') (k : hg_G E p l e R s m args below meth c nL Q σ pc' (a0 :: a1 :: a2 :: some (.long x) :: none :: r) st) : hg_G E p l e R s m args below meth c nL Q σ pc (a0 :: a1 :: a2 :: o :: o2 :: r) (.long x :: st) := by
  subst hp; intro H locs ls hP hS hL; exact lv_lstore_n cx.1 cx.2.1 hd rfl hL.has (by have := hL.2.1; simp at this; omega) rfl (fun ls2 h2 => k H locs ls2 hP hS (hL.put2 h2 (fun j w hj hw => by obtain rfl : j = 2 := (by omega); exact hg_c1_of hq hw) (show 3 + 1 < _ by simp only [List.length_cons]; omega)))
theorem hg_iinc3p (cx : hg_Cx E p s m args meth c cc nL own ret) {a0 a1 a2 : Option Value} {r : List (Option Value)} {x : Int32} (hq : hg_c1 a2 = true) (hd : decode cc pc = .ok (.iinc 3 1, 3)) (hp : pc + 3 = pc') (k : hg_G E p l e R s m args below meth c nL Q σ pc' (a0 :: a1 :: a2 :: some (.int (x + 1)) :: r) st) : hg_G E p l e R s m args below meth c nL Q σ pc (a0 :: a1 :: a2 :: some (.int x) :: r) st := by
  subst hp; intro H locs ls hP hS hL
  obtain ⟨j, hj⟩ := List.getElem?_of_mem (hg_toL_mem.mpr (show (a0 :: a1 :: a2 :: some (.int x) :: r)[3]? = some (some (.int x)) from rfl))
  exact lv_iinc cx.1 cx.2.1 hd hL.has hj rfl (by have := hL.2.1; simp at this; omega) rfl (fun ls2 h2 => k H locs ls2 hP hS (hL.put1 h2 (fun j w hj hw => by obtain rfl : j = 2 := (by omega); exact hg_c1_of hq hw) (show 3 < _ by simp only [List.length_cons]; omega)))
theorem hg_iinc3m (cx : hg_Cx E p s m args meth c cc nL own ret) {a0 a1 a2 : Option Value} {r : List (Option Value)} {x : Int32} (hq : hg_c1 a2 = true) (hd : decode cc pc = .ok (.iinc 3 (-1), 3)) (hp : pc + 3 = pc') (k : hg_G E p l e R s m args below meth c nL Q σ pc' (a0 :: a1 :: a2 :: some (.int (x + (-1))) :: r) st) : hg_G E p l e R s m args below meth c nL Q σ pc (a0 :: a1 :: a2 :: some (.int x) :: r) st := by
  subst hp; intro H locs ls hP hS hL
  obtain ⟨j, hj⟩ := List.getElem?_of_mem (hg_toL_mem.mpr (show (a0 :: a1 :: a2 :: some (.int x) :: r)[3]? = some (some (.int x)) from rfl))
  exact lv_iinc cx.1 cx.2.1 hd hL.has hj rfl (by have := hL.2.1; simp at this; omega) rfl (fun ls2 h2 => k H locs ls2 hP hS (hL.put1 h2 (fun j w hj hw => by obtain rfl : j = 2 := (by omega); exact hg_c1_of hq hw) (show 3 < _ by simp only [List.length_cons]; omega)))
theorem hg_iload4 (cx : hg_Cx E p s m args meth c cc nL own ret) {a0 a1 a2 a3 : Option Value} {r : List (Option Value)} {x : Int32} (hd : decode cc pc = .ok (.iload 4, 2)) (hp : pc + 2 = pc') (k : hg_G E p l e R s m args below meth c nL Q σ pc' (a0 :: a1 :: a2 :: a3 :: some (.int x) :: r) (.int x :: st)) : hg_G E p l e R s m args below meth c nL Q σ pc (a0 :: a1 :: a2 :: a3 :: some (.int x) :: r) st := by
  subst hp; intro H locs ls hP hS hL; exact lv_iload cx.1 cx.2.1 hd (hL.2.2.2 4 _ rfl) (k H locs ls hP hS hL)
theorem hg_aload4 (cx : hg_Cx E p s m args meth c cc nL own ret) {a0 a1 a2 a3 : Option Value} {r : List (Option Value)} {x : Nat} (hd : decode cc pc = .ok (.aload 4, 2)) (hp : pc + 2 = pc') (k : hg_G E p l e R s m args below meth c nL Q σ pc' (a0 :: a1 :: a2 :: a3 :: some (.ref x) :: r) (.ref x :: st)) : hg_G E p l e R s m args below meth c nL Q σ pc (a0 :: a1 :: a2 :: a3 :: some (.ref x) :: r) st := by
  subst hp; intro H locs ls hP hS hL; exact lv_aload cx.1 cx.2.1 hd (hL.2.2.2 4 _ rfl) (k H locs ls hP hS hL)
theorem hg_lload4 (cx : hg_Cx E p s m args meth c cc nL own ret) {a0 a1 a2 a3 : Option Value} {r : List (Option Value)} {x : Int64} (hd : decode cc pc = .ok (.lload 4, 2)) (hp : pc + 2 = pc') (k : hg_G E p l e R s m args below meth c nL Q σ pc' (a0 :: a1 :: a2 :: a3 :: some (.long x) :: r) (.long x :: st)) : hg_G E p l e R s m args below meth c nL Q σ pc (a0 :: a1 :: a2 :: a3 :: some (.long x) :: r) st := by
  subst hp; intro H locs ls hP hS hL; exact lv_lload cx.1 cx.2.1 hd (hL.2.2.2 4 _ rfl) (k H locs ls hP hS hL)
theorem hg_istore4 (cx : hg_Cx E p s m args meth c cc nL own ret) {a0 a1 a2 a3 : Option Value} {r : List (Option Value)} {o : Option Value} {x : Int32} (hq : hg_c1 a3 = true)  (hd : decode cc pc = .ok (.istore 4, 2)) (hp : pc + 2 = pc') (k : hg_G E p l e R s m args below meth c nL Q σ pc' (a0 :: a1 :: a2 :: a3 :: some (.int x) :: r) st) : hg_G E p l e R s m args below meth c nL Q σ pc (a0 :: a1 :: a2 :: a3 :: o :: r) (.int x :: st) := by
  subst hp; intro H locs ls hP hS hL; exact lv_istore cx.1 cx.2.1 hd hL.has (by have := hL.2.1; simp at this; omega) rfl (fun ls2 h2 => k H locs ls2 hP hS (hL.put1 h2 (fun j w hj hw => by obtain rfl : j = 3 := (by omega); exact hg_c1_of hq hw) (show 4 < _ by simp only [List.length_cons]; omega)))
theorem hg_astore4 (cx : hg_Cx E p s m args meth c cc nL own ret) {a0 a1 a2 a3 : Option Value} {r : List (Option Value)} {o : Option Value} {x : Nat} (hq : hg_c1 a3 = true)  (hd : decode cc pc = .ok (.astore 4, 2)) (hp : pc + 2 = pc') (k : hg_G E p l e R s m args below meth c nL Q σ pc' (a0 :: a1 :: a2 :: a3 :: some (.ref x) :: r) st) : hg_G E p l e R s m args below meth c nL Q σ pc (a0 :: a1 :: a2 :: a3 :: o :: r) (.ref x :: st) := by
  subst hp; intro H locs ls hP hS hL; exact lv_astore cx.1 cx.2.1 hd hL.has (by have := hL.2.1; simp at this; omega) rfl (fun ls2 h2 => k H locs ls2 hP hS (hL.put1 h2 (fun j w hj hw => by obtain rfl : j = 3 := (by omega); exact hg_c1_of hq hw) (show 4 < _ by simp only [List.length_cons]; omega)))
theorem hg_lstore4 (cx : hg_Cx E p s m args meth c cc nL own ret) {a0 a1 a2 a3 : Option Value} {r : List (Option Value)} {o o2 : Option Value} {x : Int64} (hq : hg_c1 a3 = true)  (hd : decode cc pc = .ok (.lstore 4, 2)) (hp : pc + 2 = pc') (k : hg_G E p l e R s m args below meth c nL Q σ pc' (a0 :: a1 :: a2 :: a3 :: some (.long x) :: none :: r) st) : hg_G E p l e R s m args below meth c nL Q σ pc (a0 :: a1 :: a2 :: a3 :: o :: o2 :: r) (.long x :: st) := by
  subst hp; intro H locs ls hP hS hL; exact lv_lstore cx.1 cx.2.1 hd hL.has (by have := hL.2.1; simp at this; omega) rfl (fun ls2 h2 => k H locs ls2 hP hS (hL.put2 h2 (fun j w hj hw => by obtain rfl : j = 3 := (by omega); exact hg_c1_of hq hw) (show 4 + 1 < _ by simp only [List.length_cons]; omega)))
theorem hg_iinc4p (cx : hg_Cx E p s m args meth c cc nL own ret) {a0 a1 a2 a3 : Option Value} {r : List (Option Value)} {x : Int32} (hq : hg_c1 a3 = true) (hd : decode cc pc = .ok (.iinc 4 1, 3)) (hp : pc + 3 = pc') (k : hg_G E p l e R s m args below meth c nL Q σ pc' (a0 :: a1 :: a2 :: a3 :: some (.int (x + 1)) :: r) st) : hg_G E p l e R s m args below meth c nL Q σ pc (a0 :: a1 :: a2 :: a3 :: some (.int x) :: r) st := by
  subst hp; intro H locs ls hP hS hL
  obtain ⟨j, hj⟩ := List.getElem?_of_mem (hg_toL_mem.mpr (show (a0 :: a1 :: a2 :: a3 :: some (.int x) :: r)[4]? = some (some (.int x)) from rfl))
  exact lv_iinc cx.1 cx.2.1 hd hL.has hj rfl (by have := hL.2.1; simp at this; omega) rfl (fun ls2 h2 => k H locs ls2 hP hS (hL.put1 h2 (fun j w hj hw => by obtain rfl : j = 3 := (by omega); exact hg_c1_of hq hw) (show 4 < _ by simp only [List.length_cons]; omega)))
theorem hg_iinc4m (cx : hg_Cx E p s m args meth c cc nL own ret) {a0 a1 a2 a3 : Option Value} {r : List (Option Value)} {x : Int32} (hq : hg_c1 a3 = true) (hd : decode cc pc = .ok (.iinc 4 (-1), 3)) (hp : pc + 3 = pc') (k : hg_G E p l e R s m args below meth c nL Q σ pc' (a0 :: a1 :: a2 :: a3 :: some (.int (x + (-1))) :: r) st) : hg_G E p l e R s m args below meth c nL Q σ pc (a0 :: a1 :: a2 :: a3 :: some (.int x) :: r) st := by
  subst hp; intro H locs ls hP hS hL
  obtain ⟨j, hj⟩ := List.getElem?_of_mem (hg_toL_mem.mpr (show (a0 :: a1 :: a2 :: a3 :: some (.int x) :: r)[4]? = some (some (.int x)) from rfl))
  exact lv_iinc cx.1 cx.2.1 hd hL.has hj rfl (by have := hL.2.1; simp at this; omega) rfl (fun ls2 h2 => k H locs ls2 hP hS (hL.put1 h2 (fun j w hj hw => by obtain rfl : j = 3 := (by omega); exact hg_c1_of hq hw) (show 4 < _ by simp only [List.length_cons]; omega)))
theorem hg_iload5 (cx : hg_Cx E p s m args meth c cc nL own ret) {a0 a1 a2 a3 a4 : Option Value} {r : List (Option Value)} {x : Int32} (hd : decode cc pc = .ok (.iload 5, 2)) (hp : pc + 2 = pc') (k : hg_G E p l e R s m args below meth c nL Q σ pc' (a0 :: a1 :: a2 :: a3 :: a4 :: some (.int x) :: r) (.int x :: st)) : hg_G E p l e R s m args below meth c nL Q σ pc (a0 :: a1 :: a2 :: a3 :: a4 :: some (.int x) :: r) st := by
  subst hp; intro H locs ls hP hS hL; exact lv_iload cx.1 cx.2.1 hd (hL.2.2.2 5 _ rfl) (k H locs ls hP hS hL)
theorem hg_aload5 (cx : hg_Cx E p s m args meth c cc nL own ret) {a0 a1 a2 a3 a4 : Option Value} {r : List (Option Value)} {x : Nat} (hd : decode cc pc = .ok (.aload 5, 2)) (hp : pc + 2 = pc') (k : hg_G E p l e R s m args below meth c nL Q σ pc' (a0 :: a1 :: a2 :: a3 :: a4 :: some (.ref x) :: r) (.ref x :: st)) : hg_G E p l e R s m args below meth c nL Q σ pc (a0 :: a1 :: a2 :: a3 :: a4 :: some (.ref x) :: r) st := by
  subst hp; intro H locs ls hP hS hL; exact lv_aload cx.1 cx.2.1 hd (hL.2.2.2 5 _ rfl) (k H locs ls hP hS hL)
theorem hg_lload5 (cx : hg_Cx E p s m args meth c cc nL own ret) {a0 a1 a2 a3 a4 : Option Value} {r : List (Option Value)} {x : Int64} (hd : decode cc pc = .ok (.lload 5, 2)) (hp : pc + 2 = pc') (k : hg_G E p l e R s m args below meth c nL Q σ pc' (a0 :: a1 :: a2 :: a3 :: a4 :: some (.long x) :: r) (.long x :: st)) : hg_G E p l e R s m args below meth c nL Q σ pc (a0 :: a1 :: a2 :: a3 :: a4 :: some (.long x) :: r) st := by
  subst hp; intro H locs ls hP hS hL; exact lv_lload cx.1 cx.2.1 hd (hL.2.2.2 5 _ rfl) (k H locs ls hP hS hL)
theorem hg_istore5 (cx : hg_Cx E p s m args meth c cc nL own ret) {a0 a1 a2 a3 a4 : Option Value} {r : List (Option Value)} {o : Option Value} {x : Int32} (hq : hg_c1 a4 = true)  (hd : decode cc pc = .ok (.istore 5, 2)) (hp : pc + 2 = pc') (k : hg_G E p l e R s m args below meth c nL Q σ pc' (a0 :: a1 :: a2 :: a3 :: a4 :: some (.int x) :: r) st) : hg_G E p l e R s m args below meth c nL Q σ pc (a0 :: a1 :: a2 :: a3 :: a4 :: o :: r) (.int x :: st) := by
  subst hp; intro H locs ls hP hS hL; exact lv_istore cx.1 cx.2.1 hd hL.has (by have := hL.2.1; simp at this; omega) rfl (fun ls2 h2 => k H locs ls2 hP hS (hL.put1 h2 (fun j w hj hw => by obtain rfl : j = 4 := (by omega); exact hg_c1_of hq hw) (show 5 < _ by simp only [List.length_cons]; omega)))
theorem hg_astore5 (cx : hg_Cx E p s m args meth c cc nL own ret) {a0 a1 a2 a3 a4 : Option Value} {r : List (Option Value)} {o : Option Value} {x : Nat} (hq : hg_c1 a4 = true)  (hd : decode cc pc = .ok (.astore 5, 2)) (hp : pc + 2 = pc') (k : hg_G E p l e R s m args below meth c nL Q σ pc' (a0 :: a1 :: a2 :: a3 :: a4 :: some (.ref x) :: r) st) : hg_G E p l e R s m args below meth c nL Q σ pc (a0 :: a1 :: a2 :: a3 :: a4 :: o :: r) (.ref x :: st) := by
  subst hp; intro H locs ls hP hS hL; exact lv_astore cx.1 cx.2.1 hd hL.has (by have := hL.2.1; simp at this; omega) rfl (fun ls2 h2 => k H locs ls2 hP hS (hL.put1 h2 (fun j w hj hw => by obtain rfl : j = 4 := (by omega); exact hg_c1_of hq hw) (show 5 < _ by simp only [List.length_cons]; omega)))
theorem hg_lstore5 (cx : hg_Cx E p s m args meth c cc nL own ret) {a0 a1 a2 a3 a4 : Option Value} {r : List (Option Value)} {o o2 : Option Value} {x : Int64} (hq : hg_c1 a4 = true)  (hd : decode cc pc = .ok (.lstore 5, 2)) (hp : pc + 2 = pc') (k : hg_G E p l e R s m args below meth c nL Q σ pc' (a0 :: a1 :: a2 :: a3 :: a4 :: some (.long x) :: none :: r) st) : hg_G E p l e R s m args below meth c nL Q σ pc (a0 :: a1 :: a2 :: a3 :: a4 :: o :: o2 :: r) (.long x :: st) := by
  subst hp; intro H locs ls hP hS hL; exact lv_lstore cx.1 cx.2.1 hd hL.has (by have := hL.2.1; simp at this; omega) rfl (fun ls2 h2 => k H locs ls2 hP hS (hL.put2 h2 (fun j w hj hw => by obtain rfl : j = 4 := (by omega); exact hg_c1_of hq hw) (show 5 + 1 < _ by simp only [List.length_cons]; omega)))
theorem hg_iinc5p (cx : hg_Cx E p s m args meth c cc nL own ret) {a0 a1 a2 a3 a4 : Option Value} {r : List (Option Value)} {x : Int32} (hq : hg_c1 a4 = true) (hd : decode cc pc = .ok (.iinc 5 1, 3)) (hp : pc + 3 = pc') (k : hg_G E p l e R s m args below meth c nL Q σ pc' (a0 :: a1 :: a2 :: a3 :: a4 :: some (.int (x + 1)) :: r) st) : hg_G E p l e R s m args below meth c nL Q σ pc (a0 :: a1 :: a2 :: a3 :: a4 :: some (.int x) :: r) st := by
  subst hp; intro H locs ls hP hS hL
  obtain ⟨j, hj⟩ := List.getElem?_of_mem (hg_toL_mem.mpr (show (a0 :: a1 :: a2 :: a3 :: a4 :: some (.int x) :: r)[5]? = some (some (.int x)) from rfl))
  exact lv_iinc cx.1 cx.2.1 hd hL.has hj rfl (by have := hL.2.1; simp at this; omega) rfl (fun ls2 h2 => k H locs ls2 hP hS (hL.put1 h2 (fun j w hj hw => by obtain rfl : j = 4 := (by omega); exact hg_c1_of hq hw) (show 5 < _ by simp only [List.length_cons]; omega)))
theorem hg_iinc5m (cx : hg_Cx E p s m args meth c cc nL own ret) {a0 a1 a2 a3 a4 : Option Value} {r : List (Option Value)} {x : Int32} (hq : hg_c1 a4 = true) (hd : decode cc pc = .ok (.iinc 5 (-1), 3)) (hp : pc + 3 = pc') (k : hg_G E p l e R s m args below meth c nL Q σ pc' (a0 :: a1 :: a2 :: a3 :: a4 :: some (.int (x + (-1))) :: r) st) : hg_G E p l e R s m args below meth c nL Q σ pc (a0 :: a1 :: a2 :: a3 :: a4 :: some (.int x) :: r) st := by
  subst hp; intro H locs ls hP hS hL
  obtain ⟨j, hj⟩ := List.getElem?_of_mem (hg_toL_mem.mpr (show (a0 :: a1 :: a2 :: a3 :: a4 :: some (.int x) :: r)[5]? = some (some (.int x)) from rfl))
  exact lv_iinc cx.1 cx.2.1 hd hL.has hj rfl (by have := hL.2.1; simp at this; omega) rfl (fun ls2 h2 => k H locs ls2 hP hS (hL.put1 h2 (fun j w hj hw => by obtain rfl : j = 4 := (by omega); exact hg_c1_of hq hw) (show 5 < _ by simp only [List.length_cons]; omega)))
theorem hg_iload6 (cx : hg_Cx E p s m args meth c cc nL own ret) {a0 a1 a2 a3 a4 a5 : Option Value} {r : List (Option Value)} {x : Int32} (hd : decode cc pc = .ok (.iload 6, 2)) (hp : pc + 2 = pc') (k : hg_G E p l e R s m args below meth c nL Q σ pc' (a0 :: a1 :: a2 :: a3 :: a4 :: a5 :: some (.int x) :: r) (.int x :: st)) : hg_G E p l e R s m args below meth c nL Q σ pc (a0 :: a1 :: a2 :: a3 :: a4 :: a5 :: some (.int x) :: r) st := by
  subst hp; intro H locs ls hP hS hL; exact lv_iload cx.1 cx.2.1 hd (hL.2.2.2 6 _ rfl) (k H locs ls hP hS hL)
theorem hg_aload6 (cx : hg_Cx E p s m args meth c cc nL own ret) {a0 a1 a2 a3 a4 a5 : Option Value} {r : List (Option Value)} {x : Nat} (hd : decode cc pc = .ok (.aload 6, 2)) (hp : pc + 2 = pc') (k : hg_G E p l e R s m args below meth c nL Q σ pc' (a0 :: a1 :: a2 :: a3 :: a4 :: a5 :: some (.ref x) :: r) (.ref x :: st)) : hg_G E p l e R s m args below meth c nL Q σ pc (a0 :: a1 :: a2 :: a3 :: a4 :: a5 :: some (.ref x) :: r) st := by
  subst hp; intro H locs ls hP hS hL; exact lv_aload cx.1 cx.2.1 hd (hL.2.2.2 6 _ rfl) (k H locs ls hP hS hL)
theorem hg_lload6 (cx : hg_Cx E p s m args meth c cc nL own ret) {a0 a1 a2 a3 a4 a5 : Option Value} {r : List (Option Value)} {x : Int64} (hd : decode cc pc = .ok (.lload 6, 2)) (hp : pc + 2 = pc') (k : hg_G E p l e R s m args below meth c nL Q σ pc' (a0 :: a1 :: a2 :: a3 :: a4 :: a5 :: some (.long x) :: r) (.long x :: st)) : hg_G E p l e R s m args below meth c nL Q σ pc (a0 :: a1 :: a2 :: a3 :: a4 :: a5 :: some (.long x) :: r) st := by
  subst hp; intro H locs ls hP hS hL; exact lv_lload cx.1 cx.2.1 hd (hL.2.2.2 6 _ rfl) (k H locs ls hP hS hL)
theorem hg_istore6 (cx : hg_Cx E p s m args meth c cc nL own ret) {a0 a1 a2 a3 a4 a5 : Option Value} {r : List (Option Value)} {o : Option Value} {x : Int32} (hq : hg_c1 a5 = true)  (hd : decode cc pc = .ok (.istore 6, 2)) (hp : pc + 2 = pc') (k : hg_G E p l e R s m args below meth c nL Q σ pc' (a0 :: a1 :: a2 :: a3 :: a4 :: a5 :: some (.int x) :: r) st) : hg_G E p l e R s m args below meth c nL Q σ pc (a0 :: a1 :: a2 :: a3 :: a4 :: a5 :: o :: r) (.int x :: st) := by
  subst hp; intro H locs ls hP hS hL; exact lv_istore cx.1 cx.2.1 hd hL.has (by have := hL.2.1; simp at this; omega) rfl (fun ls2 h2 => k H locs ls2 hP hS (hL.put1 h2 (fun j w hj hw => by obtain rfl : j = 5 := (by omega); exact hg_c1_of hq hw) (show 6 < _ by simp only [List.length_cons]; omega)))
theorem hg_astore6 (cx : hg_Cx E p s m args meth c cc nL own ret) {a0 a1 a2 a3 a4 a5 : Option Value} {r : List (Option Value)} {o : Option Value} {x : Nat} (hq : hg_c1 a5 = true)  (hd : decode cc pc = .ok (.astore 6, 2)) (hp : pc + 2 = pc') (k : hg_G E p l e R s m args below meth c nL Q σ pc' (a0 :: a1 :: a2 :: a3 :: a4 :: a5 :: some (.ref x) :: r) st) : hg_G E p l e R s m args below meth c nL Q σ pc (a0 :: a1 :: a2 :: a3 :: a4 :: a5 :: o :: r) (.ref x :: st) := by
  subst hp; intro H locs ls hP hS hL; exact lv_astore cx.1 cx.2.1 hd hL.has (by have := hL.2.1; simp at this; omega) rfl (fun ls2 h2 => k H locs ls2 hP hS (hL.put1 h2 (fun j w hj hw => by obtain rfl : j = 5 := (by omega); exact hg_c1_of hq hw) (show 6 < _ by simp only [List.length_cons]; omega)))
theorem hg_lstore6 (cx : hg_Cx E p s m args meth c cc nL own ret) {a0 a1 a2 a3 a4 a5 : Option Value} {r : List (Option Value)} {o o2 : Option Value} {x : Int64} (hq : hg_c1 a5 = true)  (hd : decode cc pc = .ok (.lstore 6, 2)) (hp : pc + 2 = pc') (k : hg_G E p l e R s m args below meth c nL Q σ pc' (a0 :: a1 :: a2 :: a3 :: a4 :: a5 :: some (.long x) :: none :: r) st) : hg_G E p l e R s m args below meth c nL Q σ pc (a0 :: a1 :: a2 :: a3 :: a4 :: a5 :: o :: o2 :: r) (.long x :: st) := by
  subst hp; intro H locs ls hP hS hL; exact lv_lstore cx.1 cx.2.1 hd hL.has (by have := hL.2.1; simp at this; omega) rfl (fun ls2 h2 => k H locs ls2 hP hS (hL.put2 h2 (fun j w hj hw => by obtain rfl : j = 5 := (by omega); exact hg_c1_of hq hw) (show 6 + 1 < _ by simp only [List.length_cons]; omega)))
theorem hg_iinc6p (cx : hg_Cx E p s m args meth c cc nL own ret) {a0 a1 a2 a3 a4 a5 : Option Value} {r : List (Option Value)} {x : Int32} (hq : hg_c1 a5 = true) (hd : decode cc pc = .ok (.iinc 6 1, 3)) (hp : pc + 3 = pc') (k : hg_G E p l e R s m args below meth c nL Q σ pc' (a0 :: a1 :: a2 :: a3 :: a4 :: a5 :: some (.int (x + 1)) :: r) st) : hg_G E p l e R s m args below meth c nL Q σ pc (a0 :: a1 :: a2 :: a3 :: a4 :: a5 :: some (.int x) :: r) st := by
  subst hp; intro H locs ls hP hS hL
  obtain ⟨j, hj⟩ := List.getElem?_of_mem (hg_toL_mem.mpr (show (a0 :: a1 :: a2 :: a3 :: a4 :: a5 :: some (.int x) :: r)[6]? = some (some (.int x)) from rfl))
  exact lv_iinc cx.1 cx.2.1 hd hL.has hj rfl (by have := hL.2.1; simp at this; omega) rfl (fun ls2 h2 => k H locs ls2 hP hS (hL.put1 h2 (fun j w hj hw => by obtain rfl : j = 5 := (by omega); exact hg_c1_of hq hw) (show 6 < _ by simp only [List.length_cons]; omega)))
theorem hg_iinc6m (cx : hg_Cx E p s m args meth c cc nL own ret) {a0 a1 a2 a3 a4 a5 : Option Value} {r : List (Option Value)} {x : Int32} (hq : hg_c1 a5 = true) (hd : decode cc pc = .ok (.iinc 6 (-1), 3)) (hp : pc + 3 = pc') (k : hg_G E p l e R s m args below meth c nL Q σ pc' (a0 :: a1 :: a2 :: a3 :: a4 :: a5 :: some (.int (x + (-1))) :: r) st) : hg_G E p l e R s m args below meth c nL Q σ pc (a0 :: a1 :: a2 :: a3 :: a4 :: a5 :: some (.int x) :: r) st := by
  subst hp; intro H locs ls hP hS hL
  obtain ⟨j, hj⟩ := List.getElem?_of_mem (hg_toL_mem.mpr (show (a0 :: a1 :: a2 :: a3 :: a4 :: a5 :: some (.int x) :: r)[6]? = some (some (.int x)) from rfl))
  exact lv_iinc cx.1 cx.2.1 hd hL.has hj rfl (by have := hL.2.1; simp at this; omega) rfl (fun ls2 h2 => k H locs ls2 hP hS (hL.put1 h2 (fun j w hj hw => by obtain rfl : j = 5 := (by omega); exact hg_c1_of hq hw) (show 6 < _ by simp only [List.length_cons]; omega)))
theorem hg_iload7 (cx : hg_Cx E p s m args meth c cc nL own ret) {a0 a1 a2 a3 a4 a5 a6 : Option Value} {r : List (Option Value)} {x : Int32} (hd : decode cc pc = .ok (.iload 7, 2)) (hp : pc + 2 = pc') (k : hg_G E p l e R s m args below meth c nL Q σ pc' (a0 :: a1 :: a2 :: a3 :: a4 :: a5 :: a6 :: some (.int x) :: r) (.int x :: st)) : hg_G E p l e R s m args below meth c nL Q σ pc (a0 :: a1 :: a2 :: a3 :: a4 :: a5 :: a6 :: some (.int x) :: r) st := by
  subst hp; intro H locs ls hP hS hL; exact lv_iload cx.1 cx.2.1 hd (hL.2.2.2 7 _ rfl) (k H locs ls hP hS hL)
theorem hg_aload7 (cx : hg_Cx E p s m args meth c cc nL own ret) {a0 a1 a2 a3 a4 a5 a6 : Option Value} {r : List (Option Value)} {x : Nat} (hd : decode cc pc = .ok (.aload 7, 2)) (hp : pc + 2 = pc') (k : hg_G E p l e R s m args below meth c nL Q σ pc' (a0 :: a1 :: a2 :: a3 :: a4 :: a5 :: a6 :: some (.ref x) :: r) (.ref x :: st)) : hg_G E p l e R s m args below meth c nL Q σ pc (a0 :: a1 :: a2 :: a3 :: a4 :: a5 :: a6 :: some (.ref x) :: r) st := by
  subst hp; intro H locs ls hP hS hL; exact lv_aload cx.1 cx.2.1 hd (hL.2.2.2 7 _ rfl) (k H locs ls hP hS hL)
theorem hg_lload7 (cx : hg_Cx E p s m args meth c cc nL own ret) {a0 a1 a2 a3 a4 a5 a6 : Option Value} {r : List (Option Value)} {x : Int64} (hd : decode cc pc = .ok (.lload 7, 2)) (hp : pc + 2 = pc') (k : hg_G E p l e R s m args below meth c nL Q σ pc' (a0 :: a1 :: a2 :: a3 :: a4 :: a5 :: a6 :: some (.long x) :: r) (.long x :: st)) : hg_G E p l e R s m args below meth c nL Q σ pc (a0 :: a1 :: a2 :: a3 :: a4 :: a5 :: a6 :: some (.long x) :: r) st := by
  subst hp; intro H locs ls hP hS hL; exact lv_lload cx.1 cx.2.1 hd (hL.2.2.2 7 _ rfl) (k H locs ls hP hS hL)
theorem hg_istore7 (cx : hg_Cx E p s m args meth c cc nL own ret) {a0 a1 a2 a3 a4 a5 a6 : Option Value} {r : List (Option Value)} {o : Option Value} {x : Int32} (hq : hg_c1 a6 = true)  (hd : decode cc pc = .ok (.istore 7, 2)) (hp : pc + 2 = pc') (k : hg_G E p l e R s m args below meth c nL Q σ pc' (a0 :: a1 :: a2 :: a3 :: a4 :: a5 :: a6 :: some (.int x) :: r) st) : hg_G E p l e R s m args below meth c nL Q σ pc (a0 :: a1 :: a2 :: a3 :: a4 :: a5 :: a6 :: o :: r) (.int x :: st) := by
  subst hp; intro H locs ls hP hS hL; exact lv_istore cx.1 cx.2.1 hd hL.has (by have := hL.2.1; simp at this; omega) rfl (fun ls2 h2 => k H locs ls2 hP hS (hL.put1 h2 (fun j w hj hw => by obtain rfl : j = 6 := (by omega); exact hg_c1_of hq hw) (show 7 < _ by simp only [List.length_cons]; omega)))
theorem hg_astore7 (cx : hg_Cx E p s m args meth c cc nL own ret) {a0 a1 a2 a3 a4 a5 a6 : Option Value} {r : List (Option Value)} {o : Option Value} {x : Nat} (hq : hg_c1 a6 = true)  (hd : decode cc pc = .ok (.astore 7, 2)) (hp : pc + 2 = pc') (k : hg_G E p l e R s m args below meth c nL Q σ pc' (a0 :: a1 :: a2 :: a3 :: a4 :: a5 :: a6 :: some (.ref x) :: r) st) : hg_G E p l e R s m args below meth c nL Q σ pc (a0 :: a1 :: a2 :: a3 :: a4 :: a5 :: a6 :: o :: r) (.ref x :: st) := by
  subst hp; intro H locs ls hP hS hL; exact lv_astore cx.1 cx.2.1 hd hL.has (by have := hL.2.1; simp at this; omega) rfl (fun ls2 h2 => k H locs ls2 hP hS (hL.put1 h2 (fun j w hj hw => by obtain rfl : j = 6 := (by omega); exact hg_c1_of hq hw) (show 7 < _ by simp only [List.length_cons]; omega)))
theorem hg_lstore7 (cx : hg_Cx E p s m args meth c cc nL own ret) {a0 a1 a2 a3 a4 a5 a6 : Option Value} {r : List (Option Value)} {o o2 : Option Value} {x : Int64} (hq : hg_c1 a6 = true)  (hd : decode cc pc = .ok (.lstore 7, 2)) (hp : pc + 2 = pc') (k : hg_G E p l e R s m args below meth c nL Q σ pc' (a0 :: a1 :: a2 :: a3 :: a4 :: a5 :: a6 :: some (.long x) :: none :: r) st) : hg_G E p l e R s m args below meth c nL Q σ pc (a0 :: a1 :: a2 :: a3 :: a4 :: a5 :: a6 :: o :: o2 :: r) (.long x :: st) := by
  subst hp; intro H locs ls hP hS hL; exact lv_lstore cx.1 cx.2.1 hd hL.has (by have := hL.2.1; simp at this; omega) rfl (fun ls2 h2 => k H locs ls2 hP hS (hL.put2 h2 (fun j w hj hw => by obtain rfl : j = 6 := (by omega); exact hg_c1_of hq hw) (show 7 + 1 < _ by simp only [List.length_cons]; omega)))
theorem hg_iinc7p (cx : hg_Cx E p s m args meth c cc nL own ret) {a0 a1 a2 a3 a4 a5 a6 : Option Value} {r : List (Option Value)} {x : Int32} (hq : hg_c1 a6 = true) (hd : decode cc pc = .ok (.iinc 7 1, 3)) (hp : pc + 3 = pc') (k : hg_G E p l e R s m args below meth c nL Q σ pc' (a0 :: a1 :: a2 :: a3 :: a4 :: a5 :: a6 :: some (.int (x + 1)) :: r) st) : hg_G E p l e R s m args below meth c nL Q σ pc (a0 :: a1 :: a2 :: a3 :: a4 :: a5 :: a6 :: some (.int x) :: r) st := by
  subst hp; intro H locs ls hP hS hL
  obtain ⟨j, hj⟩ := List.getElem?_of_mem (hg_toL_mem.mpr (show (a0 :: a1 :: a2 :: a3 :: a4 :: a5 :: a6 :: some (.int x) :: r)[7]? = some (some (.int x)) from rfl))
  exact lv_iinc cx.1 cx.2.1 hd hL.has hj rfl (by have := hL.2.1; simp at this; omega) rfl (fun ls2 h2 => k H locs ls2 hP hS (hL.put1 h2 (fun j w hj hw => by obtain rfl : j = 6 := (by omega); exact hg_c1_of hq hw) (show 7 < _ by simp only [List.length_cons]; omega)))
theorem hg_iinc7m (cx : hg_Cx E p s m args meth c cc nL own ret) {a0 a1 a2 a3 a4 a5 a6 : Option Value} {r : List (Option Value)} {x : Int32} (hq : hg_c1 a6 = true) (hd : decode cc pc = .ok (.iinc 7 (-1), 3)) (hp : pc + 3 = pc') (k : hg_G E p l e R s m args below meth c nL Q σ pc' (a0 :: a1 :: a2 :: a3 :: a4 :: a5 :: a6 :: some (.int (x + (-1))) :: r) st) : hg_G E p l e R s m args below meth c nL Q σ pc (a0 :: a1 :: a2 :: a3 :: a4 :: a5 :: a6 :: some (.int x) :: r) st := by
  subst hp; intro H locs ls hP hS hL
  obtain ⟨j, hj⟩ := List.getElem?_of_mem (hg_toL_mem.mpr (show (a0 :: a1 :: a2 :: a3 :: a4 :: a5 :: a6 :: some (.int x) :: r)[7]? = some (some (.int x)) from rfl))
  exact lv_iinc cx.1 cx.2.1 hd hL.has hj rfl (by have := hL.2.1; simp at this; omega) rfl (fun ls2 h2 => k H locs ls2 hP hS (hL.put1 h2 (fun j w hj hw => by obtain rfl : j = 6 := (by omega); exact hg_c1_of hq hw) (show 7 < _ by simp only [List.length_cons]; omega)))
theorem hg_iload8 (cx : hg_Cx E p s m args meth c cc nL own ret) {a0 a1 a2 a3 a4 a5 a6 a7 : Option Value} {r : List (Option Value)} {x : Int32} (hd : decode cc pc = .ok (.iload 8, 2)) (hp : pc + 2 = pc') (k : hg_G E p l e R s m args below meth c nL Q σ pc' (a0 :: a1 :: a2 :: a3 :: a4 :: a5 :: a6 :: a7 :: some (.int x) :: r) (.int x :: st)) : hg_G E p l e R s m args below meth c nL Q σ pc (a0 :: a1 :: a2 :: a3 :: a4 :: a5 :: a6 :: a7 :: some (.int x) :: r) st := by
  subst hp; intro H locs ls hP hS hL; exact lv_iload cx.1 cx.2.1 hd (hL.2.2.2 8 _ rfl) (k H locs ls hP hS hL)
theorem hg_aload8 (cx : hg_Cx E p s m args meth c cc nL own ret) {a0 a1 a2 a3 a4 a5 a6 a7 : Option Value} {r : List (Option Value)} {x : Nat} (hd : decode cc pc = .ok (.aload 8, 2)) (hp : pc + 2 = pc') (k : hg_G E p l e R s m args below meth c nL Q σ pc' (a0 :: a1 :: a2 :: a3 :: a4 :: a5 :: a6 :: a7 :: some (.ref x) :: r) (.ref x :: st)) : hg_G E p l e R s m args below meth c nL Q σ pc (a0 :: a1 :: a2 :: a3 :: a4 :: a5 :: a6 :: a7 :: some (.ref x) :: r) st := by
  subst hp; intro H locs ls hP hS hL; exact lv_aload cx.1 cx.2.1 hd (hL.2.2.2 8 _ rfl) (k H locs ls hP hS hL)
theorem hg_lload8 (cx : hg_Cx E p s m args meth c cc nL own ret) {a0 a1 a2 a3 a4 a5 a6 a7 : Option Value} {r : List (Option Value)} {x : Int64} (hd : decode cc pc = .ok (.lload 8, 2)) (hp : pc + 2 = pc') (k : hg_G E p l e R s m args below meth c nL Q σ pc' (a0 :: a1 :: a2 :: a3 :: a4 :: a5 :: a6 :: a7 :: some (.long x) :: r) (.long x :: st)) : hg_G E p l e R s m args below meth c nL Q σ pc (a0 :: a1 :: a2 :: a3 :: a4 :: a5 :: a6 :: a7 :: some (.long x) :: r) st := by
  subst hp; intro H locs ls hP hS hL; exact lv_lload cx.1 cx.2.1 hd (hL.2.2.2 8 _ rfl) (k H locs ls hP hS hL)
theorem hg_istore8 (cx : hg_Cx E p s m args meth c cc nL own ret) {a0 a1 a2 a3 a4 a5 a6 a7 : Option Value} {r : List (Option Value)} {o : Option Value} {x : Int32} (hq : hg_c1 a7 = true)  (hd : decode cc pc = .ok (.istore 8, 2)) (hp : pc + 2 = pc') (k : hg_G E p l e R s m args below meth c nL Q σ pc' (a0 :: a1 :: a2 :: a3 :: a4 :: a5 :: a6 :: a7 :: some (.int x) :: r) st) : hg_G E p l e R s m args below meth c nL Q σ pc (a0 :: a1 :: a2 :: a3 :: a4 :: a5 :: a6 :: a7 :: o :: r) (.int x :: st) := by
  subst hp; intro H locs ls hP hS hL; exact lv_istore cx.1 cx.2.1 hd hL.has (by have := hL.2.1; simp at this; omega) rfl (fun ls2 h2 => k H locs ls2 hP hS (hL.put1 h2 (fun j w hj hw => by obtain rfl : j = 7 := (by omega); exact hg_c1_of hq hw) (show 8 < _ by simp only [List.length_cons]; omega)))
theorem hg_astore8 (cx : hg_Cx E p s m args meth c cc nL own ret) {a0 a1 a2 a3 a4 a5 a6 a7 : Option Value} {r : List (Option Value)} {o : Option Value} {x : Nat} (hq : hg_c1 a7 = true)  (hd : decode cc pc = .ok (.astore 8, 2)) (hp : pc + 2 = pc') (k : hg_G E p l e R s m args below meth c nL Q σ pc' (a0 :: a1 :: a2 :: a3 :: a4 :: a5 :: a6 :: a7 :: some (.ref x) :: r) st) : hg_G E p l e R s m args below meth c nL Q σ pc (a0 :: a1 :: a2 :: a3 :: a4 :: a5 :: a6 :: a7 :: o :: r) (.ref x :: st) := by
  subst hp; intro H locs ls hP hS hL; exact lv_astore cx.1 cx.2.1 hd hL.has (by have := hL.2.1; simp at this; omega) rfl (fun ls2 h2 => k H locs ls2 hP hS (hL.put1 h2 (fun j w hj hw => by obtain rfl : j = 7 := (by omega); exact hg_c1_of hq hw) (show 8 < _ by simp only [List.length_cons]; omega)))
theorem hg_lstore8 (cx : hg_Cx E p s m args meth c cc nL own ret) {a0 a1 a2 a3 a4 a5 a6 a7 : Option Value} {r : List (Option Value)} {o o2 : Option Value} {x : Int64} (hq : hg_c1 a7 = true)  (hd : decode cc pc = .ok (.lstore 8, 2)) (hp : pc + 2 = pc') (k : hg_G E p l e R s m args below meth c nL Q σ pc' (a0 :: a1 :: a2 :: a3 :: a4 :: a5 :: a6 :: a7 :: some (.long x) :: none :: r) st) : hg_G E p l e R s m args below meth c nL Q σ pc (a0 :: a1 :: a2 :: a3 :: a4 :: a5 :: a6 :: a7 :: o :: o2 :: r) (.long x :: st) := by
  subst hp; intro H locs ls hP hS hL; exact lv_lstore cx.1 cx.2.1 hd hL.has (by have := hL.2.1; simp at this; omega) rfl (fun ls2 h2 => k H locs ls2 hP hS (hL.put2 h2 (fun j w hj hw => by obtain rfl : j = 7 := (by omega); exact hg_c1_of hq hw) (show 8 + 1 < _ by simp only [List.length_cons]; omega)))
theorem hg_iinc8p (cx : hg_Cx E p s m args meth c cc nL own ret) {a0 a1 a2 a3 a4 a5 a6 a7 : Option Value} {r : List (Option Value)} {x : Int32} (hq : hg_c1 a7 = true) (hd : decode cc pc = .ok (.iinc 8 1, 3)) (hp : pc + 3 = pc') (k : hg_G E p l e R s m args below meth c nL Q σ pc' (a0 :: a1 :: a2 :: a3 :: a4 :: a5 :: a6 :: a7 :: some (.int (x + 1)) :: r) st) : hg_G E p l e R s m args below meth c nL Q σ pc (a0 :: a1 :: a2 :: a3 :: a4 :: a5 :: a6 :: a7 :: some (.int x) :: r) st := by
  subst hp; intro H locs ls hP hS hL
  obtain ⟨j, hj⟩ := List.getElem?_of_mem (hg_toL_mem.mpr (show (a0 :: a1 :: a2 :: a3 :: a4 :: a5 :: a6 :: a7 :: some (.int x) :: r)[8]? = some (some (.int x)) from rfl))
  exact lv_iinc cx.1 cx.2.1 hd hL.has hj rfl (by have := hL.2.1; simp at this; omega) rfl (fun ls2 h2 => k H locs ls2 hP hS (hL.put1 h2 (fun j w hj hw => by obtain rfl : j = 7 := (by omega); exact hg_c1_of hq hw) (show 8 < _ by simp only [List.length_cons]; omega)))
theorem hg_iinc8m (cx : hg_Cx E p s m args meth c cc nL own ret) {a0 a1 a2 a3 a4 a5 a6 a7 : Option Value} {r : List (Option Value)} {x : Int32} (hq : hg_c1 a7 = true) (hd : decode cc pc = .ok (.iinc 8 (-1), 3)) (hp : pc + 3 = pc') (k : hg_G E p l e R s m args below meth c nL Q σ pc' (a0 :: a1 :: a2 :: a3 :: a4 :: a5 :: a6 :: a7 :: some (.int (x + (-1))) :: r) st) : hg_G E p l e R s m args below meth c nL Q σ pc (a0 :: a1 :: a2 :: a3 :: a4 :: a5 :: a6 :: a7 :: some (.int x) :: r) st := by
  subst hp; intro H locs ls hP hS hL
  obtain ⟨j, hj⟩ := List.getElem?_of_mem (hg_toL_mem.mpr (show (a0 :: a1 :: a2 :: a3 :: a4 :: a5 :: a6 :: a7 :: some (.int x) :: r)[8]? = some (some (.int x)) from rfl))
  exact lv_iinc cx.1 cx.2.1 hd hL.has hj rfl (by have := hL.2.1; simp at this; omega) rfl (fun ls2 h2 => k H locs ls2 hP hS (hL.put1 h2 (fun j w hj hw => by obtain rfl : j = 7 := (by omega); exact hg_c1_of hq hw) (show 8 < _ by simp only [List.length_cons]; omega)))
theorem hg_if_eq (cx : hg_Cx E p s m args meth c cc nL own ret) {lv : List (Option Value)} {x : Int32} {off : Int} (tgt : Nat) (hd : decode cc pc = .ok (.ifCond .eq off, 3)) (ht : (pc : Int) + off = (tgt : Int)) (hp : pc + 3 = pc') (kt : x = 0 → hg_G E p l e R s m args below meth c nL Q σ tgt lv st) (kf : ¬ x = 0 → hg_G E p l e R s m args below meth c nL Q σ pc' lv st) : hg_G E p l e R s m args below meth c nL Q σ pc lv (.int x :: st) := by
  subst hp; intro H locs ls hP hS hL; exact lv_if_eq cx.1 cx.2.1 hd ht (fun h => kt h H locs ls hP hS hL) (fun h => kf h H locs ls hP hS hL)
theorem hg_if_ne (cx : hg_Cx E p s m args meth c cc nL own ret) {lv : List (Option Value)} {x : Int32} {off : Int} (tgt : Nat) (hd : decode cc pc = .ok (.ifCond .ne off, 3)) (ht : (pc : Int) + off = (tgt : Int)) (hp : pc + 3 = pc') (kt : ¬ x = 0 → hg_G E p l e R s m args below meth c nL Q σ tgt lv st) (kf : x = 0 → hg_G E p l e R s m args below meth c nL Q σ pc' lv st) : hg_G E p l e R s m args below meth c nL Q σ pc lv (.int x :: st) := by
  subst hp; intro H locs ls hP hS hL; exact lv_if_ne cx.1 cx.2.1 hd ht (fun h => kt h H locs ls hP hS hL) (fun h => kf h H locs ls hP hS hL)
theorem hg_if_lt (cx : hg_Cx E p s m args meth c cc nL own ret) {lv : List (Option Value)} {x : Int32} {off : Int} (tgt : Nat) (hd : decode cc pc = .ok (.ifCond .lt off, 3)) (ht : (pc : Int) + off = (tgt : Int)) (hp : pc + 3 = pc') (kt : x < 0 → hg_G E p l e R s m args below meth c nL Q σ tgt lv st) (kf : ¬ x < 0 → hg_G E p l e R s m args below meth c nL Q σ pc' lv st) : hg_G E p l e R s m args below meth c nL Q σ pc lv (.int x :: st) := by
  subst hp; intro H locs ls hP hS hL; exact lv_if_lt cx.1 cx.2.1 hd ht (fun h => kt h H locs ls hP hS hL) (fun h => kf h H locs ls hP hS hL)
theorem hg_if_ge (cx : hg_Cx E p s m args meth c cc nL own ret) {lv : List (Option Value)} {x : Int32} {off : Int} (tgt : Nat) (hd : decode cc pc = .ok (.ifCond .ge off, 3)) (ht : (pc : Int) + off = (tgt : Int)) (hp : pc + 3 = pc') (kt : 0 ≤ x → hg_G E p l e R s m args below meth c nL Q σ tgt lv st) (kf : ¬ 0 ≤ x → hg_G E p l e R s m args below meth c nL Q σ pc' lv st) : hg_G E p l e R s m args below meth c nL Q σ pc lv (.int x :: st) := by
  subst hp; intro H locs ls hP hS hL; exact lv_if_ge cx.1 cx.2.1 hd ht (fun h => kt h H locs ls hP hS hL) (fun h => kf h H locs ls hP hS hL)
theorem hg_if_gt (cx : hg_Cx E p s m args meth c cc nL own ret) {lv : List (Option Value)} {x : Int32} {off : Int} (tgt : Nat) (hd : decode cc pc = .ok (.ifCond .gt off, 3)) (ht : (pc : Int) + off = (tgt : Int)) (hp : pc + 3 = pc') (kt : 0 < x → hg_G E p l e R s m args below meth c nL Q σ tgt lv st) (kf : ¬ 0 < x → hg_G E p l e R s m args below meth c nL Q σ pc' lv st) : hg_G E p l e R s m args below meth c nL Q σ pc lv (.int x :: st) := by
  subst hp; intro H locs ls hP hS hL; exact lv_if_gt cx.1 cx.2.1 hd ht (fun h => kt h H locs ls hP hS hL) (fun h => kf h H locs ls hP hS hL)
theorem hg_if_le (cx : hg_Cx E p s m args meth c cc nL own ret) {lv : List (Option Value)} {x : Int32} {off : Int} (tgt : Nat) (hd : decode cc pc = .ok (.ifCond .le off, 3)) (ht : (pc : Int) + off = (tgt : Int)) (hp : pc + 3 = pc') (kt : x ≤ 0 → hg_G E p l e R s m args below meth c nL Q σ tgt lv st) (kf : ¬ x ≤ 0 → hg_G E p l e R s m args below meth c nL Q σ pc' lv st) : hg_G E p l e R s m args below meth c nL Q σ pc lv (.int x :: st) := by
  subst hp; intro H locs ls hP hS hL; exact lv_if_le cx.1 cx.2.1 hd ht (fun h => kt h H locs ls hP hS hL) (fun h => kf h H locs ls hP hS hL)
theorem hg_icmp_eq (cx : hg_Cx E p s m args meth c cc nL own ret) {lv : List (Option Value)} {x y : Int32} {off : Int} (tgt : Nat) (hd : decode cc pc = .ok (.if_icmp .eq off, 3)) (ht : (pc : Int) + off = (tgt : Int)) (hp : pc + 3 = pc') (kt : x = y → hg_G E p l e R s m args below meth c nL Q σ tgt lv st) (kf : ¬ x = y → hg_G E p l e R s m args below meth c nL Q σ pc' lv st) : hg_G E p l e R s m args below meth c nL Q σ pc lv (.int y :: .int x :: st) := by
  subst hp; intro H locs ls hP hS hL; exact lv_icmp_eq cx.1 cx.2.1 hd ht (fun h => kt h H locs ls hP hS hL) (fun h => kf h H locs ls hP hS hL)
theorem hg_icmp_ne (cx : hg_Cx E p s m args meth c cc nL own ret) {lv : List (Option Value)} {x y : Int32} {off : Int} (tgt : Nat) (hd : decode cc pc = .ok (.if_icmp .ne off, 3)) (ht : (pc : Int) + off = (tgt : Int)) (hp : pc + 3 = pc') (kt : ¬ x = y → hg_G E p l e R s m args below meth c nL Q σ tgt lv st) (kf : x = y → hg_G E p l e R s m args below meth c nL Q σ pc' lv st) : hg_G E p l e R s m args below meth c nL Q σ pc lv (.int y :: .int x :: st) := by
  subst hp; intro H locs ls hP hS hL; exact lv_icmp_ne cx.1 cx.2.1 hd ht (fun h => kt h H locs ls hP hS hL) (fun h => kf h H locs ls hP hS hL)
theorem hg_icmp_lt (cx : hg_Cx E p s m args meth c cc nL own ret) {lv : List (Option Value)} {x y : Int32} {off : Int} (tgt : Nat) (hd : decode cc pc = .ok (.if_icmp .lt off, 3)) (ht : (pc : Int) + off = (tgt : Int)) (hp : pc + 3 = pc') (kt : x < y → hg_G E p l e R s m args below meth c nL Q σ tgt lv st) (kf : ¬ x < y → hg_G E p l e R s m args below meth c nL Q σ pc' lv st) : hg_G E p l e R s m args below meth c nL Q σ pc lv (.int y :: .int x :: st) := by
  subst hp; intro H locs ls hP hS hL; exact lv_icmp_lt cx.1 cx.2.1 hd ht (fun h => kt h H locs ls hP hS hL) (fun h => kf h H locs ls hP hS hL)
theorem hg_icmp_ge (cx : hg_Cx E p s m args meth c cc nL own ret) {lv : List (Option Value)} {x y : Int32} {off : Int} (tgt : Nat) (hd : decode cc pc = .ok (.if_icmp .ge off, 3)) (ht : (pc : Int) + off = (tgt : Int)) (hp : pc + 3 = pc') (kt : y ≤ x → hg_G E p l e R s m args below meth c nL Q σ tgt lv st) (kf : ¬ y ≤ x → hg_G E p l e R s m args below meth c nL Q σ pc' lv st) : hg_G E p l e R s m args below meth c nL Q σ pc lv (.int y :: .int x :: st) := by
  subst hp; intro H locs ls hP hS hL; exact lv_icmp_ge cx.1 cx.2.1 hd ht (fun h => kt h H locs ls hP hS hL) (fun h => kf h H locs ls hP hS hL)
theorem hg_icmp_gt (cx : hg_Cx E p s m args meth c cc nL own ret) {lv : List (Option Value)} {x y : Int32} {off : Int} (tgt : Nat) (hd : decode cc pc = .ok (.if_icmp .gt off, 3)) (ht : (pc : Int) + off = (tgt : Int)) (hp : pc + 3 = pc') (kt : y < x → hg_G E p l e R s m args below meth c nL Q σ tgt lv st) (kf : ¬ y < x → hg_G E p l e R s m args below meth c nL Q σ pc' lv st) : hg_G E p l e R s m args below meth c nL Q σ pc lv (.int y :: .int x :: st) := by
  subst hp; intro H locs ls hP hS hL; exact lv_icmp_gt cx.1 cx.2.1 hd ht (fun h => kt h H locs ls hP hS hL) (fun h => kf h H locs ls hP hS hL)
theorem hg_icmp_le (cx : hg_Cx E p s m args meth c cc nL own ret) {lv : List (Option Value)} {x y : Int32} {off : Int} (tgt : Nat) (hd : decode cc pc = .ok (.if_icmp .le off, 3)) (ht : (pc : Int) + off = (tgt : Int)) (hp : pc + 3 = pc') (kt : x ≤ y → hg_G E p l e R s m args below meth c nL Q σ tgt lv st) (kf : ¬ x ≤ y → hg_G E p l e R s m args below meth c nL Q σ pc' lv st) : hg_G E p l e R s m args below meth c nL Q σ pc lv (.int y :: .int x :: st) := by
  subst hp; intro H locs ls hP hS hL; exact lv_icmp_le cx.1 cx.2.1 hd ht (fun h => kt h H locs ls hP hS hL) (fun h => kf h H locs ls hP hS hL)
theorem hg_goto (cx : hg_Cx E p s m args meth c cc nL own ret) {lv : List (Option Value)} {off : Int} (tgt : Nat) (hd : decode cc pc = .ok (.goto off, 3)) (ht : (pc : Int) + off = (tgt : Int)) (k : hg_G E p l e R s m args below meth c nL Q σ tgt lv st) : hg_G E p l e R s m args below meth c nL Q σ pc lv st := by
  intro H locs ls hP hS hL; exact lv_goto cx.1 cx.2.1 hd ht (k H locs ls hP hS hL)
theorem hg_tsw (cx : hg_Cx E p s m args meth c cc nL own ret) {lv : List (Option Value)} {x : Int32} {dflt lo hi : Int} {offs : Array Int} {len : Nat} (ks : List Int32) (tg : List Nat) (dt : Nat) (hd : decode cc pc = .ok (.tableswitch dflt lo hi offs, len)) (h1 : (List.range ks.length).all (fun i => decide ((ks.getD i 0).toInt = lo + i) && decide ((offs[i]?).map (fun o => (pc : Int) + o) = some ((tg.getD i 0 : Nat) : Int))) = true) (h2 : hi = lo + (ks.length : Int) - 1 ∧ (pc : Int) + dflt = (dt : Int)) (kd : (∀ v ∈ ks, ¬ x = v) → hg_G E p l e R s m args below meth c nL Q σ dt lv st) (kc : ∀ (i : Nat) (v : Int32) (t : Nat), ks[i]? = some v → tg.getD i 0 = t → x = v → hg_G E p l e R s m args below meth c nL Q σ t lv st) : hg_G E p l e R s m args below meth c nL Q σ pc lv (.int x :: st) := by
  intro H locs ls hP hS hL
  have hall := fun i (hi : i < ks.length) => List.all_eq_true.mp h1 i (List.mem_range.mpr hi)
  simp only [Bool.and_eq_true, decide_eq_true_eq] at hall
  by_cases hin : x.toInt < lo ∨ hi < x.toInt
  · refine lv_tableOut cx.1 cx.2.1 hd hin h2.2 (kd (fun v hv hx => ?_) H locs ls hP hS hL)
    obtain ⟨i, hi⟩ := List.getElem?_of_mem hv
    have hl : i < ks.length := (List.getElem?_eq_some_iff.mp hi).1
    have h3 := (hall i hl).1
    rw [List.getD_eq_getElem?_getD, hi] at h3
    simp only [Option.getD_some] at h3
    rw [hx, h3] at hin
    omega
  · have hl : (x.toInt - lo).toNat < ks.length := by omega
    obtain ⟨h3, h4⟩ := hall _ hl
    have hv : ks[(x.toInt - lo).toNat]? = some x := by
      rw [List.getElem?_eq_getElem hl]
      congr 1
      apply Int32.toInt_inj.mp
      rw [List.getD_eq_getElem?_getD, List.getElem?_eq_getElem hl, Option.getD_some] at h3
      rw [h3]; omega
    cases ho : offs[(x.toInt - lo).toNat]? with
    | none => rw [ho] at h4; cases h4
    | some off =>
      rw [ho] at h4
      exact lv_tableIn cx.1 cx.2.1 hd (by omega) (by omega) ho (Option.some.inj h4) (kc _ x _ hv rfl rfl H locs ls hP hS hL)
theorem hg_iret (cx : hg_Cx E p s m args meth c cc nL own (some .int)) {lv : List (Option Value)} {post : Option Value → hg_Mem → Prop} {x : Int32} (hd : decode cc pc = .ok (.ireturn, 1)) (hq : post (some (.int x)) σ) : hg_G E p l e R s m args below meth c nL (MQ below (hg_Qc E post) args s 0 0 (hg_AW E)) σ pc lv [.int x] := by
  intro H locs ls hP hS hL; have hlk := cx.2.2.2.2.2.2.2; exact W.iret cx.1 cx.2.1 cx.2.2.2.2.2.2.1 (fun t ht hW => ⟨_, σ, rfl, hq, by rw [ht]; exact hP, hS.F ht⟩) hS.2.2 hd hlk
theorem hg_zret (cx : hg_Cx E p s m args meth c cc nL own (some .boolean)) {lv : List (Option Value)} {post : Option Value → hg_Mem → Prop} {x : Int32} (hn : narrow .boolean (.int x) = .int x) (hd : decode cc pc = .ok (.ireturn, 1)) (hq : post (some (.int x)) σ) : hg_G E p l e R s m args below meth c nL (MQ below (hg_Qc E post) args s 0 0 (hg_AW E)) σ pc lv [.int x] := by
  intro H locs ls hP hS hL; have hlk := cx.2.2.2.2.2.2.2; exact W.zret cx.1 cx.2.1 cx.2.2.2.2.2.2.1 hn (fun t ht hW => ⟨_, σ, rfl, hq, by rw [ht]; exact hP, hS.F ht⟩) hS.2.2 hd hlk
theorem hg_cret (cx : hg_Cx E p s m args meth c cc nL own (some .char)) {lv : List (Option Value)} {post : Option Value → hg_Mem → Prop} {x : Int32} (hn : narrow .char (.int x) = .int x) (hd : decode cc pc = .ok (.ireturn, 1)) (hq : post (some (.int x)) σ) : hg_G E p l e R s m args below meth c nL (MQ below (hg_Qc E post) args s 0 0 (hg_AW E)) σ pc lv [.int x] := by
  intro H locs ls hP hS hL; have hlk := cx.2.2.2.2.2.2.2; exact W.zret cx.1 cx.2.1 cx.2.2.2.2.2.2.1 hn (fun t ht hW => ⟨_, σ, rfl, hq, by rw [ht]; exact hP, hS.F ht⟩) hS.2.2 hd hlk
theorem hg_bret (cx : hg_Cx E p s m args meth c cc nL own (some .byte)) {lv : List (Option Value)} {post : Option Value → hg_Mem → Prop} {x : Int32} (hn : narrow .byte (.int x) = .int x) (hd : decode cc pc = .ok (.ireturn, 1)) (hq : post (some (.int x)) σ) : hg_G E p l e R s m args below meth c nL (MQ below (hg_Qc E post) args s 0 0 (hg_AW E)) σ pc lv [.int x] := by
  intro H locs ls hP hS hL; have hlk := cx.2.2.2.2.2.2.2; exact W.zret cx.1 cx.2.1 cx.2.2.2.2.2.2.1 hn (fun t ht hW => ⟨_, σ, rfl, hq, by rw [ht]; exact hP, hS.F ht⟩) hS.2.2 hd hlk
theorem hg_lret (cx : hg_Cx E p s m args meth c cc nL own (some .long)) {lv : List (Option Value)} {post : Option Value → hg_Mem → Prop} {x : Int64} (hd : decode cc pc = .ok (.lreturn, 1)) (hq : post (some (.long x)) σ) : hg_G E p l e R s m args below meth c nL (MQ below (hg_Qc E post) args s 0 0 (hg_AW E)) σ pc lv [.long x] := by
  intro H locs ls hP hS hL; have hlk := cx.2.2.2.2.2.2.2; exact W.lret cx.1 cx.2.1 cx.2.2.2.2.2.2.1 (fun t ht hW => ⟨_, σ, rfl, hq, by rw [ht]; exact hP, hS.F ht⟩) hS.2.2 hd hlk
theorem hg_vret (cx : hg_Cx E p s m args meth c cc nL own (none)) {lv : List (Option Value)} {post : Option Value → hg_Mem → Prop}  (hd : decode cc pc = .ok (.return_, 1)) (hq : post (none) σ) : hg_G E p l e R s m args below meth c nL (MQ below (hg_Qc E post) args s 0 0 (hg_AW E)) σ pc lv [] := by
  intro H locs ls hP hS hL; have hlk := cx.2.2.2.2.2.2.2; exact W.vret cx.1 cx.2.1 cx.2.2.2.2.2.2.1 (fun t ht hW => ⟨_, σ, rfl, hq, by rw [ht]; exact hP, hS.F ht⟩) hS.2.2 hd hlk
theorem hg_aret {cn : String} (cx : hg_Cx E p s m args meth c cc nL own (some (.object cn))) {lv : List (Option Value)} {post : Option Value → hg_Mem → Prop} {x : Nat} (hd : decode cc pc = .ok (.areturn, 1)) (hq : post (some (.ref x)) σ) : hg_G E p l e R s m args below meth c nL (MQ below (hg_Qc E post) args s 0 0 (hg_AW E)) σ pc lv [.ref x] := by
  intro H locs ls hP hS hL; have hlk := cx.2.2.2.2.2.2.2; exact W.aret cx.1 cx.2.1 cx.2.2.2.2.2.2.1 (Or.inl ⟨_, rfl⟩) (Or.inr ⟨_, rfl⟩) (fun t ht hW => ⟨_, σ, rfl, hq, by rw [ht]; exact hP, hS.F ht⟩) hS.2.2 hd hlk
theorem hg_get (cx : hg_Cx E p s m args meth c cc nL own ret) {lv : List (Option Value)} {i : Nat} {ref C : String} {T : u_T} {N ci idx : Nat} {fs : List Value} (hi : i < 60) (he : hg_ce E i (σ.1 i) (σ.2 i) = .inr (ci, fs)) (hin : ∀ w ∈ u_ws C T N, w ∈ hg_U) (hc : vwCl[ci]? = some (C, T, N)) (k : Nat) (hk : k < N) (hr : ref = (T k).1) (hlink : Cond.fieldLink own idx ref (T k).2.1 (T k).2.2.1 ∈ hg_U) {v : Value} (hv : fs[k]? = some v) (hd : decode cc pc = .ok (.getfield idx, 3)) (hp : pc + 3 = pc') (kk : hg_G E p l e R s m args below meth c nL Q σ pc' lv (v :: st)) : hg_G E p l e R s m args below meth c nL Q σ pc lv (.ref (hg_ad E i) :: st) := by
  subst hp; subst hr; intro H locs ls hP hS hL; exact va_get cx.1 cx.2.1 cx.2.2.2.2.1 hin cx.2.2.2.1 cx.2.2.2.2.2.1.1 hP i ((hg_wl_at E σ hi).trans (by rw [he])) hc k hk (cx.2.2.2.2.1 _ hlink) (fun _ h => h) hv hd (kk H locs ls hP hS hL)
theorem hg_put (cx : hg_Cx E p s m args meth c cc nL own ret) {lv : List (Option Value)} {i : Nat} {ref C : String} {T : u_T} {N ci idx : Nat} {fs : List Value} {x : Int32} (hi : i < 60) (he : hg_ce E i (σ.1 i) (σ.2 i) = .inr (ci, fs)) (hin : ∀ w ∈ u_ws C T N, w ∈ hg_U) (ty0 : Nat → FieldType) (hty : ∀ k, k < N → parseFieldDescriptor (T k).2.2.1 = some (ty0 k)) (hnm : ∀ a, a < N → ∀ b, b < N → a ≠ b → (T a).2.1 ≠ (T b).2.1) (hc : vwCl[ci]? = some (C, T, N)) (k : Nat) (hk : k < N) (hr : ref = (T k).1) (hlink : Cond.fieldLink own idx ref (T k).2.1 (T k).2.2.1 ∈ hg_U) (hfin : (T k).2.2.2 = false) {ty : FieldType} (hdd : parseFieldDescriptor (T k).2.2.1 = some ty) (hn : narrow ty (.int x) = .int x) (hfit : fits ty (.int x) = true) (hl : k < fs.length) (he' : hg_ce E i (va_up (σ.1 i) k x) (σ.2 i) = .inr (ci, fs.set k (.int x))) (hd : decode cc pc = .ok (.putfield idx, 3)) (hp : pc + 3 = pc') (kk : hg_G E p l e R s m args below meth c nL Q (hg_sI σ i k x) pc' lv st) : hg_G E p l e R s m args below meth c nL Q σ pc lv (.int x :: .ref (hg_ad E i) :: st) := by
  subst hp; subst hr; intro H locs ls hP hS hL
  refine va_put cx.1 cx.2.1 cx.2.2.2.2.1 hin ty0 hty hnm cx.2.2.2.1 cx.2.2.2.2.2.1.1 hP (hg_wl_D cx.2.2.2.2.2.1.2.1 σ) hS i ((hg_wl_at E σ hi).trans (by rw [he])) hc k hk (cx.2.2.2.2.1 _ hlink) (fun _ h => h) hfin hdd hn hfit hl hd (fun H1 locs1 hP1 hD1 hS1 => kk H1 locs1 ls ?_ hS1 hL)
  rw [hg_wl_set E σ (hg_sI σ i k x) i (by rw [← he']; simp [hg_sI, va_up]) (fun j hj => by simp [hg_sI, va_up, hj]) (fun j hj => rfl)] at hP1
  exact hP1
theorem hg_iald (cx : hg_Cx E p s m args meth c cc nL own ret) {lv : List (Option Value)} {i n : Nat} {x : Int32} {f : Nat → Int32} (hi : i < 60) (he : hg_ce E i (σ.1 i) (σ.2 i) = .inl (hg_cA E 0, n, .inl f)) (hin : vp_in x n) (hd : decode cc pc = .ok (.iaload, 1)) (hp : pc + 1 = pc') (kk : hg_G E p l e R s m args below meth c nL Q σ pc' lv (.int (f x.toNatClampNeg) :: st)) : hg_G E p l e R s m args below meth c nL Q σ pc lv (.int x :: .ref (hg_ad E i) :: st) := by
  subst hp; intro H locs ls hP hS hL; exact va_iald cx.1 cx.2.1 cx.2.2.2.2.2.1.1 hP i 0 ((hg_wl_at E σ hi).trans (by rw [he])) rfl hin hd (kk H locs ls hP hS hL)
theorem hg_lald (cx : hg_Cx E p s m args meth c cc nL own ret) {lv : List (Option Value)} {i n : Nat} {x : Int32} {f : Nat → Int64} (hi : i < 60) (he : hg_ce E i (σ.1 i) (σ.2 i) = .inl (hg_cA E 1, n, .inr (.inl f))) (hin : vp_in x n) (hd : decode cc pc = .ok (.laload, 1)) (hp : pc + 1 = pc') (kk : hg_G E p l e R s m args below meth c nL Q σ pc' lv (.long (f x.toNatClampNeg) :: st)) : hg_G E p l e R s m args below meth c nL Q σ pc lv (.int x :: .ref (hg_ad E i) :: st) := by
  subst hp; intro H locs ls hP hS hL; exact va_lald cx.1 cx.2.1 cx.2.2.2.2.2.1.1 hP i 1 ((hg_wl_at E σ hi).trans (by rw [he])) rfl hin hd (kk H locs ls hP hS hL)
theorem hg_aald (cx : hg_Cx E p s m args meth c cc nL own ret) {lv : List (Option Value)} {i n t0 : Nat} {x : Int32} {cA : ClassId} {Cn : String} {f : Nat → Option Nat} {a : Nat} (hi : i < 60) (he : hg_ce E i (σ.1 i) (σ.2 i) = .inl (cA, n, .inr (.inr (.inr (.inr f))))) (ht : (hg_tys E)[t0]? = some (cA, .object Cn)) (hin : vp_in x n) (ha : f x.toNatClampNeg = some a) (hd : decode cc pc = .ok (.aaload, 1)) (hp : pc + 1 = pc') (kk : hg_G E p l e R s m args below meth c nL Q σ pc' lv (.ref a :: st)) : hg_G E p l e R s m args below meth c nL Q σ pc lv (.int x :: .ref (hg_ad E i) :: st) := by
  subst hp; intro H locs ls hP hS hL; exact va_aldq cx.1 cx.2.1 cx.2.2.2.2.2.1.1 hP i t0 ((hg_wl_at E σ hi).trans (by rw [he])) ht hin hd (by rw [ha]; exact kk H locs ls hP hS hL)
theorem hg_iast (cx : hg_Cx E p s m args meth c cc nL own ret) {lv : List (Option Value)} {i n : Nat} {x y : Int32} {f : Nat → Int32} (hi : i < 60) (he : hg_ce E i (σ.1 i) (σ.2 i) = .inl (hg_cA E 0, n, .inl f)) (hin : vp_in x n) (he' : hg_ce E i (va_up (σ.1 i) x.toNatClampNeg y) (σ.2 i) = .inl (hg_cA E 0, n, .inl (upd f x.toNatClampNeg y))) (hd : decode cc pc = .ok (.iastore, 1)) (hp : pc + 1 = pc') (kk : hg_G E p l e R s m args below meth c nL Q (hg_sI σ i x.toNatClampNeg y) pc' lv st) : hg_G E p l e R s m args below meth c nL Q σ pc lv (.int y :: .int x :: .ref (hg_ad E i) :: st) := by
  subst hp; intro H locs ls hP hS hL
  refine va_iast cx.1 cx.2.1 cx.2.2.2.2.2.1.1 hP (hg_wl_D cx.2.2.2.2.2.1.2.1 σ) hS i 0 ((hg_wl_at E σ hi).trans (by rw [he])) rfl hin hd (fun H1 locs1 hP1 hD1 hS1 => kk H1 locs1 ls ?_ hS1 hL)
  rw [hg_wl_set E σ (hg_sI σ i x.toNatClampNeg y) i (by rw [← he']; simp [hg_sI, va_up]) (fun j hj => by simp [hg_sI, va_up, hj]) (fun j hj => rfl)] at hP1
  exact hP1
theorem hg_last (cx : hg_Cx E p s m args meth c cc nL own ret) {lv : List (Option Value)} {i n : Nat} {x : Int32} {y : Int64} {f : Nat → Int64} (hi : i < 60) (he : hg_ce E i (σ.1 i) (σ.2 i) = .inl (hg_cA E 1, n, .inr (.inl f))) (hin : vp_in x n) (he' : hg_ce E i (σ.1 i) (va_up (σ.2 i) x.toNatClampNeg y) = .inl (hg_cA E 1, n, .inr (.inl (vp_updL f x.toNatClampNeg y)))) (hd : decode cc pc = .ok (.lastore, 1)) (hp : pc + 1 = pc') (kk : hg_G E p l e R s m args below meth c nL Q (hg_sL σ i x.toNatClampNeg y) pc' lv st) : hg_G E p l e R s m args below meth c nL Q σ pc lv (.long y :: .int x :: .ref (hg_ad E i) :: st) := by
  subst hp; intro H locs ls hP hS hL
  refine va_last cx.1 cx.2.1 cx.2.2.2.2.2.1.1 hP (hg_wl_D cx.2.2.2.2.2.1.2.1 σ) hS i 1 ((hg_wl_at E σ hi).trans (by rw [he])) rfl hin hd (fun H1 locs1 hP1 hD1 hS1 => kk H1 locs1 ls ?_ hS1 hL)
  rw [hg_wl_set E σ (hg_sL σ i x.toNatClampNeg y) i (by rw [← he']; simp [hg_sL, va_up]) (fun j hj => rfl) (fun j hj => by simp [hg_sL, va_up, hj])] at hP1
  exact hP1
theorem hg_alen (cx : hg_Cx E p s m args meth c cc nL own ret) {lv : List (Option Value)} {i t0 : Nat} {cA : ClassId} {x : vp_A} {ty : FieldType} {v : Int32} (hi : i < 60) (he : hg_ce E i (σ.1 i) (σ.2 i) = .inl (cA, x)) (ht : (hg_tys E)[t0]? = some (cA, ty)) (hv : Int32.ofNat x.1 = v) (hd : decode cc pc = .ok (.arraylength, 1)) (hp : pc + 1 = pc') (kk : hg_G E p l e R s m args below meth c nL Q σ pc' lv (.int v :: st)) : hg_G E p l e R s m args below meth c nL Q σ pc lv (.ref (hg_ad E i) :: st) := by
  subst hp; intro H locs ls hP hS hL; exact va_alen cx.1 cx.2.1 cx.2.2.2.2.2.1.1 hP i t0 ((hg_wl_at E σ hi).trans (by rw [he])) ht hv hd (kk H locs ls hP hS hL)
theorem hg_run {post : Option Value → hg_Mem → Prop} {lv : List (Option Value)} {st0 : List Value} {av : Array Value} (cx : hg_Cx E p s m args meth c cc nL own ret)
    (hr : ∀ (H : Heap) (locs : List Loc) (ls : Array Slot), va_P E.1 vwCl (hg_wl E σ) H → va_S (hg_AW E) s.heap H locs → hg_LV ls nL lv → va_Run p l e R s m args below meth c H locs 0 0 0 0 (F0 m pc ls st0) st (hg_Qc E post av) (hg_AW E)) (hp : pc + 3 = pc')
    (kk : ∀ v τ, post v τ → hg_G E p l e R s m args below meth c nL Q τ pc' lv (v.toList ++ st)) : hg_G E p l e R s m args below meth c nL Q σ pc lv st0 := by
  subst hp; intro H locs ls hP hS hL T hT X
  obtain ⟨v, st₀, t, T', L, h0, X', hL', e1, e2, ⟨v', τ, hv, hpost, hP', hz, hk⟩, go⟩ := hr H locs ls hP hS hL T hT X
  cases hv
  rw [h0] at hz hk
  obtain ⟨t2, a1, b1⟩ := kk v τ hpost T'.heap (locs ++ L) ls (by rw [e1]; exact hP') ⟨Nat.le_trans hS.1 (by rw [e1]; exact hz), fun q h1 h2 => by rw [e1, hk q (Nat.lt_of_lt_of_le h1 hS.1) h2]; exact hS.2.1 q h1 h2, fun q hq => by
    rcases List.mem_append.mp hq with h | h
    · exact hS.2.2 q h
    · exact hL' q h⟩ hL T' rfl X'
  exact ⟨t2, go t2 a1, b1⟩
theorem hg_pre (hK : hg_KW E s) {H : Heap} {locs : List Loc} (hP : va_P E.1 vwCl (hg_wl E σ) H) (hS : va_S (hg_AW E) s.heap H locs) {av : List Value} : PreS s H (va_Pc av (fun U => va_P E.1 vwCl (hg_wl E σ) U.heap ∧ hg_KW E U)) av :=
  ⟨fun a U g mk q => ⟨q.1, q.2.1, q.2.2.calling⟩, fun U hU hW => ⟨rfl, by rw [hU]; exact hP, hK.warm hW (fun a h1 h2 => by rw [hU]; exact hS.2.1 a h1 h2)⟩⟩
theorem hg_cb {idx maxL n : Nat} {y : MethodName} {bytes : ByteArray} {ry : Option FieldType} {rm : Room} (hts : ∀ w ∈ hg_U, w.before args s = true) (lk : hg_Lk own idx y bytes maxL ry n) (hrm : rm.cells = 0 ∧ rm.slots = 0 ∧ rm.frames + 1 ≤ R.frames ∧ 8 + (maxL + 11) + rm.locals ≤ R.locals) : CallB R s args own idx y bytes maxL ry (hg_wU y bytes maxL ry) rm 0 0 n :=
  callB_of n hts (hg_goodIn lk.2.1) rfl hrm.1 hrm.2.1 (hts _ lk.2.2.1) (hts _ lk.1) lk.2.2.2 hrm.2.2
theorem hg_callV {idx maxL n i ci : Nat} {y : MethodName} {bytes : ByteArray} {ry : Option FieldType} {rm : Room} {post : Option Value → hg_Mem → Prop} {lv : List (Option Value)} {As : List Value} {st0 : List Value} {fs : List Value} {rc : vw_C} (cx : hg_Cx E p s m args meth c cc nL own ret) (lk : hg_Lk own idx y bytes maxL ry n) (hse : Cond.instanceMethod y ∈ hg_U ∧ Cond.selects y.cls y y ∈ hg_U)
    (K : hg_C l E y bytes maxL ry rm (.ref (hg_ad E i) :: As) σ post) (hrm : rm.cells = 0 ∧ rm.slots = 0 ∧ rm.frames + 1 ≤ R.frames ∧ 8 + (maxL + 11) + rm.locals ≤ R.locals) (hi : i < 60) (he : hg_ce E i (σ.1 i) (σ.2 i) = .inr (ci, fs)) (hc : vwCl[ci]? = some rc) (hn : rc.1 = y.cls) (hlen : As.length = n) (hst : st0 = As.reverse ++ .ref (hg_ad E i) :: st) (hcat : (st.map fun v => v.category).sum ≤ 8)
    (hd : decode cc pc = .ok (.invokevirtual idx, 3)) (hp : pc + 3 = pc') (kk : ∀ v τ, post v τ → hg_G E p l e R s m args below meth c nL Q τ pc' lv (v.toList ++ st)) : hg_G E p l e R s m args below meth c nL Q σ pc lv st0 := by
  refine hg_run (av := (Value.ref (hg_ad E i) :: As).toArray) cx (fun H locs ls hP hS hL => ?_) hp kk
  have hpre := hg_pre cx.2.2.2.2.2.1 hP hS (av := .ref (hg_ad E i) :: As)
  have hrecv := va_recv cx.2.2.2.2.2.1.1 hP hc ((hg_wl_at E σ hi).trans (by rw [he]))
  rw [hn] at hrecv
  exact va_runV (C := y.cls) ⟨cx.1, cx.2.1, cx.2.2.1, cx.2.2.2.1, cx.2.2.2.2.1⟩ K ⟨hg_cb cx.2.2.2.2.1 lk hrm, cx.2.2.2.2.1 _ hse.1, cx.2.2.2.2.1 _ hse.2⟩ ⟨hpre.1, hrecv, hpre.2⟩ rfl hlen hL.1 hst (lv_room hcat) hd ⟨Nat.zero_le _, Nat.zero_le _⟩
theorem hg_callS {idx maxL n : Nat} {y : MethodName} {bytes : ByteArray} {ry : Option FieldType} {rm : Room} {post : Option Value → hg_Mem → Prop} {lv : List (Option Value)} {As : List Value} {st0 : List Value} (cx : hg_Cx E p s m args meth c cc nL own ret) (lk : hg_Lk own idx y bytes maxL ry n) (hse : Cond.static y ∈ hg_U)
    (K : hg_C l E y bytes maxL ry rm As σ post) (hrm : rm.cells = 0 ∧ rm.slots = 0 ∧ rm.frames + 1 ≤ R.frames ∧ 8 + (maxL + 11) + rm.locals ≤ R.locals) (hlen : As.length = n) (hst : st0 = As.reverse ++ st) (hcat : (st.map fun v => v.category).sum ≤ 8)
    (hd : decode cc pc = .ok (.invokestatic idx, 3)) (hp : pc + 3 = pc') (kk : ∀ v τ, post v τ → hg_G E p l e R s m args below meth c nL Q τ pc' lv (v.toList ++ st)) : hg_G E p l e R s m args below meth c nL Q σ pc lv st0 := by
  refine hg_run (av := As.toArray) cx (fun H locs ls hP hS hL => ?_) hp kk
  exact va_runS ⟨cx.1, cx.2.1, cx.2.2.1, cx.2.2.2.1, cx.2.2.2.2.1⟩ K ⟨hg_cb cx.2.2.2.2.1 lk hrm, cx.2.2.2.2.1 _ hse⟩ (hg_pre cx.2.2.2.2.2.1 hP hS) rfl hlen hL.1 hst (lv_room hcat) hd ⟨Nat.zero_le _, Nat.zero_le _⟩
theorem hg_callSN {idx maxL n : Nat} {y : MethodName} {bytes : ByteArray} {ry : Option FieldType} {rm : Room} {host : String} {post : Option Value → hg_Mem → Prop} {lv : List (Option Value)} {As : List Value} {st0 : List Value} (cx : hg_Cx E p s m args meth c cc nL own ret) (lk : hg_LkN own idx y bytes maxL ry n host) (hse : Cond.static y ∈ hg_U)
    (K : hg_C l E y bytes maxL ry rm As σ post) (hrm : rm.cells = 0 ∧ rm.slots = 0 ∧ rm.frames + 1 ≤ R.frames ∧ 8 + (maxL + 11) + rm.locals ≤ R.locals) (hlen : As.length = n) (hst : st0 = As.reverse ++ st) (hcat : (st.map fun v => v.category).sum ≤ 8)
    (hd : decode cc pc = .ok (.invokestatic idx, 3)) (hp : pc + 3 = pc') (kk : ∀ v τ, post v τ → hg_G E p l e R s m args below meth c nL Q τ pc' lv (v.toList ++ st)) : hg_G E p l e R s m args below meth c nL Q σ pc lv st0 := by
  refine hg_run (av := As.toArray) cx (fun H locs ls hP hS hL => ?_) hp kk
  exact va_runSN ⟨cx.1, cx.2.1, cx.2.2.1, cx.2.2.2.1, cx.2.2.2.2.1⟩ K ⟨va_cnB n cx.2.2.2.2.1 (hg_goodIn lk.2.1) rfl hrm.1 hrm.2.1 (cx.2.2.2.2.2.1.2.2.2.2 _ lk.1) (cx.2.2.2.2.1 _ lk.2.2.1) lk.2.2.2 hrm.2.2, cx.2.2.2.2.1 _ hse, trivial⟩ (hg_pre cx.2.2.2.2.2.1 hP hS) rfl hlen hL.1 hst (lv_room hcat) hd ⟨Nat.zero_le _, Nat.zero_le _⟩
end HGR
/-- the posts by kind of answer -/
theorem hg_kI {P : Option Value → hg_Mem → Prop} {f : Int32 → hg_Mem → Prop} (h : ∀ r τ, f r τ → P (some (.int r)) τ) : ∀ v τ, hg_pi f v τ → P v τ := fun _ τ ⟨r, e, hf⟩ => e ▸ h r τ hf
theorem hg_kL {P : Option Value → hg_Mem → Prop} {f : Int64 → hg_Mem → Prop} (h : ∀ r τ, f r τ → P (some (.long r)) τ) : ∀ v τ, hg_pl f v τ → P v τ := fun _ τ ⟨r, e, hf⟩ => e ▸ h r τ hf
theorem hg_kR {P : Option Value → hg_Mem → Prop} {f : Nat → hg_Mem → Prop} (h : ∀ r τ, f r τ → P (some (.ref r)) τ) : ∀ v τ, hg_pr f v τ → P v τ := fun _ τ ⟨r, e, hf⟩ => e ▸ h r τ hf
theorem hg_kV {P : Option Value → hg_Mem → Prop} {f : hg_Mem → Prop} (h : ∀ τ, f τ → P none τ) : ∀ v τ, hg_pv f v τ → P v τ := fun _ τ ⟨e, hf⟩ => e ▸ h τ hf
theorem hg_LVof (av : List Value) {nL : Nat} {lv : List (Option Value)} (hl : hg_lvs av nL = lv) (hlen : lv.length = nL) (hle : (lg_sl av).length ≤ nL) (hm : ∀ (i : Nat) (v : Value), lv[i]? = some (some v) → (i, v) ∈ lv_args 0 av) : hg_LV ((lg_sl av ++ List.replicate (nL - (lg_sl av).length) Slot.unset).toArray) nL lv := by
  have h := lv_entry av (n := nL) hle
  exact ⟨h.1, hlen, h.2.1, fun i v hv => h.2.2 (i, v) (hm i v hv)⟩
theorem hg_lvs_args (av : List Value) : ∀ (k i : Nat) (v : Value), (av.flatMap (fun v => if v.category = 2 then [some v, none] else [some v]))[i]? = some (some v) → (k + i, v) ∈ lv_args k av := by
  induction av with
  | nil => intro k i v h; simp at h
  | cons w av ih =>
    intro k i v h
    rw [List.flatMap_cons] at h
    by_cases hc : w.category = 2
    · rw [if_pos hc] at h
      simp only [lv_args, hc, if_true]
      match i, h with
      | 0, h => simp at h; subst h; exact List.mem_cons_self
      | 1, h => simp at h
      | i + 2, h =>
        have h2 := ih (k + 2) i v (by simpa using h)
        exact List.mem_cons_of_mem _ (by rw [show k + (i + 2) = k + 2 + i by omega]; exact h2)
    · rw [if_neg hc] at h
      simp only [lv_args, hc, if_false]
      match i, h with
      | 0, h => simp at h; subst h; exact List.mem_cons_self
      | i + 1, h =>
        have h2 := ih (k + 1) i v (by simpa using h)
        exact List.mem_cons_of_mem _ (by rw [show k + (i + 1) = k + 1 + i by omega]; exact h2)
theorem hg_sl_len (av : List Value) : (lg_sl av).length = (av.flatMap (fun v => if v.category = 2 then [some v, none] else [some v])).length := by
  induction av with
  | nil => rfl
  | cons w av ih =>
    unfold lg_sl at ih ⊢
    rw [List.flatMap_cons, List.flatMap_cons, List.length_append, List.length_append, ih]
    congr 1
    by_cases hc : w.category = 2
    · simp [hc]
    · simp [hc]
/-- a contract out of its walk -/
theorem hg_intro {l : Launch} {E : hg_Wd} {y : MethodName} {cc : ByteArray} {nL : Nat} {ret : Option FieldType} {rm : Room} {av : List Value} {σ : hg_Mem} {post : Option Value → hg_Mem → Prop} (hy : plainName y.cls = true) (lv : List (Option Value)) (hlv : hg_lvs av nL = lv) (hle : (lg_sl av).length ≤ nL)
    (body : ∀ (p : Program) (e : Env) (s : State) (m : MethodId) (args : Array Value) (below : List Frame) (meth : Method) (c : Code), hg_Cx E p s m args meth c cc nL y.cls ret → hg_G E p l e rm s m args below meth c nL (MQ below (hg_Qc E post) args s 0 0 (hg_AW E)) σ 0 lv []) : hg_C l E y cc nL ret rm av σ post := by
  refine Met.ofW (cc := cc) (maxL := nL) (ret := ret) hy rfl ?_
  intro p e s m args below meth c s₁ B hml hv
  obtain ⟨rfl, hP, hK⟩ := hv
  have hts := atoms_spec (ws := hg_wU y cc nL ret) B.pre
  have hown : s.vm.findClass y.cls = some m.cls := findClass_of_methodNamed B.named
  rw [lg_entry_eq]
  subst hlv
  have hlen : (hg_lvs av nL).length = nL := by
    have h1 := hg_sl_len av
    unfold hg_lvs
    rw [List.length_append, List.length_replicate, ← h1]
    omega
  refine body p e s m _ below meth c ⟨B.exec, B.bytes, hml, hown, fun w hw => hts w (List.mem_cons_of_mem _ hw), hK, B.returns, B.notSynchronized⟩ s.heap [] _ hP va_S.rf (hg_LVof av rfl hlen hle (fun i v h => ?_))
  unfold hg_lvs at h
  rcases Nat.lt_or_ge i (av.flatMap (fun v : Value => if v.category = 2 then [some v, none] else [some v])).length with q | q
  · rw [List.getElem?_append_left q] at h
    have h2 := hg_lvs_args av 0 i v h
    rwa [Nat.zero_add] at h2
  · rw [List.getElem?_append_right q] at h
    have h3 := List.eq_of_mem_replicate (List.mem_of_getElem? h)
    cases h3
/-- loops: a measure that falls -/
theorem hg_loop {α : Type} {P : α → Prop} {I : α → Prop} (μ : α → Nat) (h : ∀ x, I x → (∀ y, I y → μ y < μ x → P y) → P x) : ∀ x, I x → P x := by
  have aux : ∀ n x, μ x ≤ n → I x → P x := by
    intro n
    induction n with
    | zero => exact fun x hn hI => h x hI (fun y _ hy => absurd hy (by omega))
    | succ n ih => exact fun x hn hI => h x hI (fun y hIy hy => ih y (by omega) hIy)
  exact fun x hI => aux (μ x) x (Nat.le_refl _) hI
end
section
theorem hg_inX0 : ∀ w ∈ wsX00, w ∈ hg_U := by decide +kernel
theorem hg_inX1 : ∀ w ∈ wsX10, w ∈ hg_U := by decide +kernel
theorem hg_inX2 : ∀ w ∈ wsX20, w ∈ hg_U := by decide +kernel
theorem hg_inX3 : ∀ w ∈ wsX30, w ∈ hg_U := by decide +kernel
theorem hg_inX4 : ∀ w ∈ wsX40, w ∈ hg_U := by decide +kernel
theorem hg_inX5 : ∀ w ∈ wsX50, w ∈ hg_U := by decide +kernel
theorem hg_inX6 : ∀ w ∈ wsX60, w ∈ hg_U := by decide +kernel
theorem hg_ceI8 (E : hg_Wd) (f : Nat → Int32) (g : Nat → Int64) : hg_ce E 8 f g = .inl (hg_cA E 0, 120, .inl f) := rfl
theorem hg_ceI11 (E : hg_Wd) (f : Nat → Int32) (g : Nat → Int64) : hg_ce E 11 f g = .inl (hg_cA E 0, 7, .inl f) := rfl
theorem hg_ceI51 (E : hg_Wd) (f : Nat → Int32) (g : Nat → Int64) : hg_ce E 51 f g = .inl (hg_cA E 0, 64, .inl f) := rfl
theorem hg_ceI52 (E : hg_Wd) (f : Nat → Int32) (g : Nat → Int64) : hg_ce E 52 f g = .inl (hg_cA E 0, 64, .inl f) := rfl
theorem hg_ceI53 (E : hg_Wd) (f : Nat → Int32) (g : Nat → Int64) : hg_ce E 53 f g = .inl (hg_cA E 0, 64, .inl f) := rfl
theorem hg_ceI54 (E : hg_Wd) (f : Nat → Int32) (g : Nat → Int64) : hg_ce E 54 f g = .inl (hg_cA E 0, 7, .inl f) := rfl
theorem hg_ceI55 (E : hg_Wd) (f : Nat → Int32) (g : Nat → Int64) : hg_ce E 55 f g = .inl (hg_cA E 0, 10, .inl f) := rfl
theorem hg_ceI56 (E : hg_Wd) (f : Nat → Int32) (g : Nat → Int64) : hg_ce E 56 f g = .inl (hg_cA E 0, 120, .inl f) := rfl
theorem hg_ceI57 (E : hg_Wd) (f : Nat → Int32) (g : Nat → Int64) : hg_ce E 57 f g = .inl (hg_cA E 0, 4, .inl f) := rfl
theorem hg_ceI58 (E : hg_Wd) (f : Nat → Int32) (g : Nat → Int64) : hg_ce E 58 f g = .inl (hg_cA E 0, 4, .inl f) := rfl
theorem hg_ceL59 (E : hg_Wd) (f : Nat → Int32) (g : Nat → Int64) : hg_ce E 59 f g = .inl (hg_cA E 1, 160, .inr (.inl g)) := rfl
theorem hg_ceS10 (E : hg_Wd) (f : Nat → Int32) (g : Nat → Int64) : hg_ce E 10 f g = .inl (hg_cA E 3, 4, .inr (.inr (.inr (.inr (fun j => some (hg_ad E (12 + j))))))) := rfl
section HGL
variable {E : hg_Wd} {p : Program} {l : Launch} {e : Env} {R : Room} {s : State} {m : MethodId} {args : Array Value} {below : List Frame} {meth : Method} {c : Code} {cc : ByteArray} {nL : Nat} {ret : Option FieldType} {Q : State → Prop} {σ : hg_Mem} {pc pc' : Nat} {st : List Value} {lv : List (Option Value)}
theorem gf_X5_10 (cx : hg_Cx E p s m args meth c cc nL RX5 ret) (hd : decode cc pc = .ok (.getfield 10, 3)) (hp : pc + 3 = pc') (kk : hg_G E p l e R s m args below meth c nL Q σ pc' lv (.ref (hg_ad E 1) :: st)) : hg_G E p l e R s m args below meth c nL Q σ pc lv (.ref (hg_ad E 0) :: st) := hg_get (i := 0) cx (by decide) rfl hg_inX5 rfl 0 (by decide) rfl (hg_Uin (List.mem_of_getElem? (i := 221) (by decide +kernel)) (by decide +kernel)) rfl hd hp kk
theorem gf_X5_16 (cx : hg_Cx E p s m args meth c cc nL RX5 ret) (hd : decode cc pc = .ok (.getfield 16, 3)) (hp : pc + 3 = pc') (kk : hg_G E p l e R s m args below meth c nL Q σ pc' lv (.ref (hg_ad E 2) :: st)) : hg_G E p l e R s m args below meth c nL Q σ pc lv (.ref (hg_ad E 0) :: st) := hg_get (i := 0) cx (by decide) rfl hg_inX5 rfl 1 (by decide) rfl (hg_Uin (List.mem_of_getElem? (i := 222) (by decide +kernel)) (by decide +kernel)) rfl hd hp kk
theorem gf_X5_19 (cx : hg_Cx E p s m args meth c cc nL RX5 ret) (hd : decode cc pc = .ok (.getfield 19, 3)) (hp : pc + 3 = pc') (kk : hg_G E p l e R s m args below meth c nL Q σ pc' lv (.ref (hg_ad E 3) :: st)) : hg_G E p l e R s m args below meth c nL Q σ pc lv (.ref (hg_ad E 0) :: st) := hg_get (i := 0) cx (by decide) rfl hg_inX5 rfl 2 (by decide) rfl (hg_Uin (List.mem_of_getElem? (i := 223) (by decide +kernel)) (by decide +kernel)) rfl hd hp kk
theorem gf_X5_25 (cx : hg_Cx E p s m args meth c cc nL RX5 ret) (hd : decode cc pc = .ok (.getfield 25, 3)) (hp : pc + 3 = pc') (kk : hg_G E p l e R s m args below meth c nL Q σ pc' lv (.ref (hg_ad E 7) :: st)) : hg_G E p l e R s m args below meth c nL Q σ pc lv (.ref (hg_ad E 0) :: st) := hg_get (i := 0) cx (by decide) rfl hg_inX5 rfl 4 (by decide) rfl (hg_Uin (List.mem_of_getElem? (i := 225) (by decide +kernel)) (by decide +kernel)) rfl hd hp kk
theorem gf_X5_34 (cx : hg_Cx E p s m args meth c cc nL RX5 ret) (hd : decode cc pc = .ok (.getfield 34, 3)) (hp : pc + 3 = pc') (kk : hg_G E p l e R s m args below meth c nL Q σ pc' lv (.ref (hg_ad E 9) :: st)) : hg_G E p l e R s m args below meth c nL Q σ pc lv (.ref (hg_ad E 0) :: st) := hg_get (i := 0) cx (by decide) rfl hg_inX5 rfl 5 (by decide) rfl (hg_Uin (List.mem_of_getElem? (i := 226) (by decide +kernel)) (by decide +kernel)) rfl hd hp kk
theorem gf_X5_40 (cx : hg_Cx E p s m args meth c cc nL RX5 ret) (hd : decode cc pc = .ok (.getfield 40, 3)) (hp : pc + 3 = pc') (kk : hg_G E p l e R s m args below meth c nL Q σ pc' lv (.ref (hg_ad E 10) :: st)) : hg_G E p l e R s m args below meth c nL Q σ pc lv (.ref (hg_ad E 0) :: st) := hg_get (i := 0) cx (by decide) rfl hg_inX5 rfl 6 (by decide) rfl (hg_Uin (List.mem_of_getElem? (i := 227) (by decide +kernel)) (by decide +kernel)) rfl hd hp kk
theorem gf_X5_44 (cx : hg_Cx E p s m args meth c cc nL RX5 ret) (hd : decode cc pc = .ok (.getfield 44, 3)) (hp : pc + 3 = pc') (kk : hg_G E p l e R s m args below meth c nL Q σ pc' lv (.ref (hg_ad E 11) :: st)) : hg_G E p l e R s m args below meth c nL Q σ pc lv (.ref (hg_ad E 0) :: st) := hg_get (i := 0) cx (by decide) rfl hg_inX5 rfl 7 (by decide) rfl (hg_Uin (List.mem_of_getElem? (i := 228) (by decide +kernel)) (by decide +kernel)) rfl hd hp kk
theorem gf_X5_58 (cx : hg_Cx E p s m args meth c cc nL RX5 ret) {i : Nat} (h1 : 1 ≤ i) (h2 : i < 4) (hd : decode cc pc = .ok (.getfield 58, 3)) (hp : pc + 3 = pc') (kk : hg_G E p l e R s m args below meth c nL Q σ pc' lv (.int (σ.1 i 1) :: st)) : hg_G E p l e R s m args below meth c nL Q σ pc lv (.ref (hg_ad E i) :: st) := hg_get (i := i) cx (by omega) (hg_ceTab E _ _ h1 h2) hg_inX3 rfl 1 (by decide) rfl (hg_Uin (List.mem_of_getElem? (i := 128) (by decide +kernel)) (by decide +kernel)) rfl hd hp kk
theorem pf_X5_58 (cx : hg_Cx E p s m args meth c cc nL RX5 ret) {i : Nat} (h1 : 1 ≤ i) (h2 : i < 4) {x : Int32} (hd : decode cc pc = .ok (.putfield 58, 3)) (hp : pc + 3 = pc') (kk : hg_G E p l e R s m args below meth c nL Q (hg_sI σ i 1 x) pc' lv st) : hg_G E p l e R s m args below meth c nL Q σ pc lv (.int x :: .ref (hg_ad E i) :: st) := hg_put (i := i) (ty := .int) cx (by omega) (hg_ceTab E _ _ h1 h2) hg_inX3 tyX3 tyX3_ok nmX3 rfl 1 (by decide) rfl (hg_Uin (List.mem_of_getElem? (i := 128) (by decide +kernel)) (by decide +kernel)) rfl (by decide +kernel) rfl rfl (Nat.le_of_ble_eq_true rfl) ((hg_ceTab E _ _ h1 h2).trans rfl) hd hp kk
theorem gf_X5_62 (cx : hg_Cx E p s m args meth c cc nL RX5 ret) {i : Nat} (h1 : 1 ≤ i) (h2 : i < 4) (hd : decode cc pc = .ok (.getfield 62, 3)) (hp : pc + 3 = pc') (kk : hg_G E p l e R s m args below meth c nL Q σ pc' lv (.int (σ.1 i 2) :: st)) : hg_G E p l e R s m args below meth c nL Q σ pc lv (.ref (hg_ad E i) :: st) := hg_get (i := i) cx (by omega) (hg_ceTab E _ _ h1 h2) hg_inX3 rfl 2 (by decide) rfl (hg_Uin (List.mem_of_getElem? (i := 131) (by decide +kernel)) (by decide +kernel)) rfl hd hp kk
theorem pf_X5_62 (cx : hg_Cx E p s m args meth c cc nL RX5 ret) {i : Nat} (h1 : 1 ≤ i) (h2 : i < 4) {x : Int32} (hd : decode cc pc = .ok (.putfield 62, 3)) (hp : pc + 3 = pc') (kk : hg_G E p l e R s m args below meth c nL Q (hg_sI σ i 2 x) pc' lv st) : hg_G E p l e R s m args below meth c nL Q σ pc lv (.int x :: .ref (hg_ad E i) :: st) := hg_put (i := i) (ty := .int) cx (by omega) (hg_ceTab E _ _ h1 h2) hg_inX3 tyX3 tyX3_ok nmX3 rfl 2 (by decide) rfl (hg_Uin (List.mem_of_getElem? (i := 131) (by decide +kernel)) (by decide +kernel)) rfl (by decide +kernel) rfl rfl (Nat.le_of_ble_eq_true rfl) ((hg_ceTab E _ _ h1 h2).trans rfl) hd hp kk
theorem gf_X5_65 (cx : hg_Cx E p s m args meth c cc nL RX5 ret) {i : Nat} (h1 : 1 ≤ i) (h2 : i < 4) (hd : decode cc pc = .ok (.getfield 65, 3)) (hp : pc + 3 = pc') (kk : hg_G E p l e R s m args below meth c nL Q σ pc' lv (.int (σ.1 i 0) :: st)) : hg_G E p l e R s m args below meth c nL Q σ pc lv (.ref (hg_ad E i) :: st) := hg_get (i := i) cx (by omega) (hg_ceTab E _ _ h1 h2) hg_inX3 rfl 0 (by decide) rfl (hg_Uin (List.mem_of_getElem? (i := 126) (by decide +kernel)) (by decide +kernel)) rfl hd hp kk
theorem pf_X5_65 (cx : hg_Cx E p s m args meth c cc nL RX5 ret) {i : Nat} (h1 : 1 ≤ i) (h2 : i < 4) {x : Int32} (hd : decode cc pc = .ok (.putfield 65, 3)) (hp : pc + 3 = pc') (kk : hg_G E p l e R s m args below meth c nL Q (hg_sI σ i 0 x) pc' lv st) : hg_G E p l e R s m args below meth c nL Q σ pc lv (.int x :: .ref (hg_ad E i) :: st) := hg_put (i := i) (ty := .int) cx (by omega) (hg_ceTab E _ _ h1 h2) hg_inX3 tyX3 tyX3_ok nmX3 rfl 0 (by decide) rfl (hg_Uin (List.mem_of_getElem? (i := 126) (by decide +kernel)) (by decide +kernel)) rfl (by decide +kernel) rfl rfl (Nat.le_of_ble_eq_true rfl) ((hg_ceTab E _ _ h1 h2).trans rfl) hd hp kk
theorem gf_X5_75 (cx : hg_Cx E p s m args meth c cc nL RX5 ret) {i : Nat} (h1 : 1 ≤ i) (h2 : i < 4) (hd : decode cc pc = .ok (.getfield 75, 3)) (hp : pc + 3 = pc') (kk : hg_G E p l e R s m args below meth c nL Q σ pc' lv (.int (σ.1 i 5) :: st)) : hg_G E p l e R s m args below meth c nL Q σ pc lv (.ref (hg_ad E i) :: st) := hg_get (i := i) cx (by omega) (hg_ceTab E _ _ h1 h2) hg_inX3 rfl 5 (by decide) rfl (hg_Uin (List.mem_of_getElem? (i := 139) (by decide +kernel)) (by decide +kernel)) rfl hd hp kk
theorem pf_X5_75 (cx : hg_Cx E p s m args meth c cc nL RX5 ret) {i : Nat} (h1 : 1 ≤ i) (h2 : i < 4) {x : Int32} (hd : decode cc pc = .ok (.putfield 75, 3)) (hp : pc + 3 = pc') (kk : hg_G E p l e R s m args below meth c nL Q (hg_sI σ i 5 x) pc' lv st) : hg_G E p l e R s m args below meth c nL Q σ pc lv (.int x :: .ref (hg_ad E i) :: st) := hg_put (i := i) (ty := .int) cx (by omega) (hg_ceTab E _ _ h1 h2) hg_inX3 tyX3 tyX3_ok nmX3 rfl 5 (by decide) rfl (hg_Uin (List.mem_of_getElem? (i := 139) (by decide +kernel)) (by decide +kernel)) rfl (by decide +kernel) rfl rfl (Nat.le_of_ble_eq_true rfl) ((hg_ceTab E _ _ h1 h2).trans rfl) hd hp kk
theorem gf_X5_78 (cx : hg_Cx E p s m args meth c cc nL RX5 ret) {i : Nat} (h1 : 1 ≤ i) (h2 : i < 4) (hd : decode cc pc = .ok (.getfield 78, 3)) (hp : pc + 3 = pc') (kk : hg_G E p l e R s m args below meth c nL Q σ pc' lv (.int (σ.1 i 6) :: st)) : hg_G E p l e R s m args below meth c nL Q σ pc lv (.ref (hg_ad E i) :: st) := hg_get (i := i) cx (by omega) (hg_ceTab E _ _ h1 h2) hg_inX3 rfl 6 (by decide) rfl (hg_Uin (List.mem_of_getElem? (i := 141) (by decide +kernel)) (by decide +kernel)) rfl hd hp kk
theorem pf_X5_78 (cx : hg_Cx E p s m args meth c cc nL RX5 ret) {i : Nat} (h1 : 1 ≤ i) (h2 : i < 4) {x : Int32} (hd : decode cc pc = .ok (.putfield 78, 3)) (hp : pc + 3 = pc') (kk : hg_G E p l e R s m args below meth c nL Q (hg_sI σ i 6 x) pc' lv st) : hg_G E p l e R s m args below meth c nL Q σ pc lv (.int x :: .ref (hg_ad E i) :: st) := hg_put (i := i) (ty := .int) cx (by omega) (hg_ceTab E _ _ h1 h2) hg_inX3 tyX3 tyX3_ok nmX3 rfl 6 (by decide) rfl (hg_Uin (List.mem_of_getElem? (i := 141) (by decide +kernel)) (by decide +kernel)) rfl (by decide +kernel) rfl rfl (Nat.le_of_ble_eq_true rfl) ((hg_ceTab E _ _ h1 h2).trans rfl) hd hp kk
theorem gf_X5_96 (cx : hg_Cx E p s m args meth c cc nL RX5 ret) {i : Nat} (h1 : 1 ≤ i) (h2 : i < 4) (hd : decode cc pc = .ok (.getfield 96, 3)) (hp : pc + 3 = pc') (kk : hg_G E p l e R s m args below meth c nL Q σ pc' lv (.int (σ.1 i 3) :: st)) : hg_G E p l e R s m args below meth c nL Q σ pc lv (.ref (hg_ad E i) :: st) := hg_get (i := i) cx (by omega) (hg_ceTab E _ _ h1 h2) hg_inX3 rfl 3 (by decide) rfl (hg_Uin (List.mem_of_getElem? (i := 135) (by decide +kernel)) (by decide +kernel)) rfl hd hp kk
theorem pf_X5_96 (cx : hg_Cx E p s m args meth c cc nL RX5 ret) {i : Nat} (h1 : 1 ≤ i) (h2 : i < 4) {x : Int32} (hd : decode cc pc = .ok (.putfield 96, 3)) (hp : pc + 3 = pc') (kk : hg_G E p l e R s m args below meth c nL Q (hg_sI σ i 3 x) pc' lv st) : hg_G E p l e R s m args below meth c nL Q σ pc lv (.int x :: .ref (hg_ad E i) :: st) := hg_put (i := i) (ty := .int) cx (by omega) (hg_ceTab E _ _ h1 h2) hg_inX3 tyX3 tyX3_ok nmX3 rfl 3 (by decide) rfl (hg_Uin (List.mem_of_getElem? (i := 135) (by decide +kernel)) (by decide +kernel)) rfl (by decide +kernel) rfl rfl (Nat.le_of_ble_eq_true rfl) ((hg_ceTab E _ _ h1 h2).trans rfl) hd hp kk
theorem gf_X5_103 (cx : hg_Cx E p s m args meth c cc nL RX5 ret) {i : Nat} (h1 : 1 ≤ i) (h2 : i < 4) (hd : decode cc pc = .ok (.getfield 103, 3)) (hp : pc + 3 = pc') (kk : hg_G E p l e R s m args below meth c nL Q σ pc' lv (.ref (hg_ad E (i + 3)) :: st)) : hg_G E p l e R s m args below meth c nL Q σ pc lv (.ref (hg_ad E i) :: st) := hg_get (i := i) cx (by omega) (hg_ceTab E _ _ h1 h2) hg_inX3 rfl 4 (by decide) rfl (hg_Uin (List.mem_of_getElem? (i := 138) (by decide +kernel)) (by decide +kernel)) rfl hd hp kk
theorem gf_X5_131 (cx : hg_Cx E p s m args meth c cc nL RX5 ret) {i : Nat} (h1 : 20 ≤ i) (h2 : i < 50) (hd : decode cc pc = .ok (.getfield 131, 3)) (hp : pc + 3 = pc') (kk : hg_G E p l e R s m args below meth c nL Q σ pc' lv (.int (σ.1 i 0) :: st)) : hg_G E p l e R s m args below meth c nL Q σ pc lv (.ref (hg_ad E i) :: st) := hg_get (i := i) cx (by omega) (hg_ceDel E _ _ h1 h2) hg_inX1 rfl 0 (by decide) rfl (hg_Uin (List.mem_of_getElem? (i := 94) (by decide +kernel)) (by decide +kernel)) rfl hd hp kk
theorem pf_X5_131 (cx : hg_Cx E p s m args meth c cc nL RX5 ret) {i : Nat} (h1 : 20 ≤ i) (h2 : i < 50) {x : Int32} (hd : decode cc pc = .ok (.putfield 131, 3)) (hp : pc + 3 = pc') (kk : hg_G E p l e R s m args below meth c nL Q (hg_sI σ i 0 x) pc' lv st) : hg_G E p l e R s m args below meth c nL Q σ pc lv (.int x :: .ref (hg_ad E i) :: st) := hg_put (i := i) (ty := .int) cx (by omega) (hg_ceDel E _ _ h1 h2) hg_inX1 tyX1 tyX1_ok nmX1 rfl 0 (by decide) rfl (hg_Uin (List.mem_of_getElem? (i := 94) (by decide +kernel)) (by decide +kernel)) rfl (by decide +kernel) rfl rfl (Nat.le_of_ble_eq_true rfl) ((hg_ceDel E _ _ h1 h2).trans rfl) hd hp kk
theorem gf_X5_137 (cx : hg_Cx E p s m args meth c cc nL RX5 ret) {i : Nat} (h1 : 20 ≤ i) (h2 : i < 50) (hd : decode cc pc = .ok (.getfield 137, 3)) (hp : pc + 3 = pc') (kk : hg_G E p l e R s m args below meth c nL Q σ pc' lv (.int (σ.1 i 1) :: st)) : hg_G E p l e R s m args below meth c nL Q σ pc lv (.ref (hg_ad E i) :: st) := hg_get (i := i) cx (by omega) (hg_ceDel E _ _ h1 h2) hg_inX1 rfl 1 (by decide) rfl (hg_Uin (List.mem_of_getElem? (i := 97) (by decide +kernel)) (by decide +kernel)) rfl hd hp kk
theorem pf_X5_137 (cx : hg_Cx E p s m args meth c cc nL RX5 ret) {i : Nat} (h1 : 20 ≤ i) (h2 : i < 50) {x : Int32} (hd : decode cc pc = .ok (.putfield 137, 3)) (hp : pc + 3 = pc') (kk : hg_G E p l e R s m args below meth c nL Q (hg_sI σ i 1 x) pc' lv st) : hg_G E p l e R s m args below meth c nL Q σ pc lv (.int x :: .ref (hg_ad E i) :: st) := hg_put (i := i) (ty := .int) cx (by omega) (hg_ceDel E _ _ h1 h2) hg_inX1 tyX1 tyX1_ok nmX1 rfl 1 (by decide) rfl (hg_Uin (List.mem_of_getElem? (i := 97) (by decide +kernel)) (by decide +kernel)) rfl (by decide +kernel) rfl rfl (Nat.le_of_ble_eq_true rfl) ((hg_ceDel E _ _ h1 h2).trans rfl) hd hp kk
theorem gf_X5_158 (cx : hg_Cx E p s m args meth c cc nL RX5 ret) {i : Nat} (h1 : 20 ≤ i) (h2 : i < 50) (hd : decode cc pc = .ok (.getfield 158, 3)) (hp : pc + 3 = pc') (kk : hg_G E p l e R s m args below meth c nL Q σ pc' lv (.int (σ.1 i 3) :: st)) : hg_G E p l e R s m args below meth c nL Q σ pc lv (.ref (hg_ad E i) :: st) := hg_get (i := i) cx (by omega) (hg_ceDel E _ _ h1 h2) hg_inX1 rfl 3 (by decide) rfl (hg_Uin (List.mem_of_getElem? (i := 101) (by decide +kernel)) (by decide +kernel)) rfl hd hp kk
theorem pf_X5_158 (cx : hg_Cx E p s m args meth c cc nL RX5 ret) {i : Nat} (h1 : 20 ≤ i) (h2 : i < 50) {x : Int32} (hd : decode cc pc = .ok (.putfield 158, 3)) (hp : pc + 3 = pc') (kk : hg_G E p l e R s m args below meth c nL Q (hg_sI σ i 3 x) pc' lv st) : hg_G E p l e R s m args below meth c nL Q σ pc lv (.int x :: .ref (hg_ad E i) :: st) := hg_put (i := i) (ty := .int) cx (by omega) (hg_ceDel E _ _ h1 h2) hg_inX1 tyX1 tyX1_ok nmX1 rfl 3 (by decide) rfl (hg_Uin (List.mem_of_getElem? (i := 101) (by decide +kernel)) (by decide +kernel)) rfl (by decide +kernel) rfl rfl (Nat.le_of_ble_eq_true rfl) ((hg_ceDel E _ _ h1 h2).trans rfl) hd hp kk
theorem gf_X5_161 (cx : hg_Cx E p s m args meth c cc nL RX5 ret) {i : Nat} (h1 : 20 ≤ i) (h2 : i < 50) (hd : decode cc pc = .ok (.getfield 161, 3)) (hp : pc + 3 = pc') (kk : hg_G E p l e R s m args below meth c nL Q σ pc' lv (.int (σ.1 i 5) :: st)) : hg_G E p l e R s m args below meth c nL Q σ pc lv (.ref (hg_ad E i) :: st) := hg_get (i := i) cx (by omega) (hg_ceDel E _ _ h1 h2) hg_inX1 rfl 5 (by decide) rfl (hg_Uin (List.mem_of_getElem? (i := 108) (by decide +kernel)) (by decide +kernel)) rfl hd hp kk
theorem pf_X5_161 (cx : hg_Cx E p s m args meth c cc nL RX5 ret) {i : Nat} (h1 : 20 ≤ i) (h2 : i < 50) {x : Int32} (hd : decode cc pc = .ok (.putfield 161, 3)) (hp : pc + 3 = pc') (kk : hg_G E p l e R s m args below meth c nL Q (hg_sI σ i 5 x) pc' lv st) : hg_G E p l e R s m args below meth c nL Q σ pc lv (.int x :: .ref (hg_ad E i) :: st) := hg_put (i := i) (ty := .int) cx (by omega) (hg_ceDel E _ _ h1 h2) hg_inX1 tyX1 tyX1_ok nmX1 rfl 5 (by decide) rfl (hg_Uin (List.mem_of_getElem? (i := 108) (by decide +kernel)) (by decide +kernel)) rfl (by decide +kernel) rfl rfl (Nat.le_of_ble_eq_true rfl) ((hg_ceDel E _ _ h1 h2).trans rfl) hd hp kk
theorem gf_X5_169 (cx : hg_Cx E p s m args meth c cc nL RX5 ret) {i : Nat} (h1 : 20 ≤ i) (h2 : i < 50) (hd : decode cc pc = .ok (.getfield 169, 3)) (hp : pc + 3 = pc') (kk : hg_G E p l e R s m args below meth c nL Q σ pc' lv (.int (σ.1 i 2) :: st)) : hg_G E p l e R s m args below meth c nL Q σ pc lv (.ref (hg_ad E i) :: st) := hg_get (i := i) cx (by omega) (hg_ceDel E _ _ h1 h2) hg_inX1 rfl 2 (by decide) rfl (hg_Uin (List.mem_of_getElem? (i := 99) (by decide +kernel)) (by decide +kernel)) rfl hd hp kk
theorem pf_X5_169 (cx : hg_Cx E p s m args meth c cc nL RX5 ret) {i : Nat} (h1 : 20 ≤ i) (h2 : i < 50) {x : Int32} (hd : decode cc pc = .ok (.putfield 169, 3)) (hp : pc + 3 = pc') (kk : hg_G E p l e R s m args below meth c nL Q (hg_sI σ i 2 x) pc' lv st) : hg_G E p l e R s m args below meth c nL Q σ pc lv (.int x :: .ref (hg_ad E i) :: st) := hg_put (i := i) (ty := .int) cx (by omega) (hg_ceDel E _ _ h1 h2) hg_inX1 tyX1 tyX1_ok nmX1 rfl 2 (by decide) rfl (hg_Uin (List.mem_of_getElem? (i := 99) (by decide +kernel)) (by decide +kernel)) rfl (by decide +kernel) rfl rfl (Nat.le_of_ble_eq_true rfl) ((hg_ceDel E _ _ h1 h2).trans rfl) hd hp kk
theorem gf_X5_172 (cx : hg_Cx E p s m args meth c cc nL RX5 ret) {i : Nat} (h1 : 20 ≤ i) (h2 : i < 50) (hd : decode cc pc = .ok (.getfield 172, 3)) (hp : pc + 3 = pc') (kk : hg_G E p l e R s m args below meth c nL Q σ pc' lv (.int (σ.1 i 4) :: st)) : hg_G E p l e R s m args below meth c nL Q σ pc lv (.ref (hg_ad E i) :: st) := hg_get (i := i) cx (by omega) (hg_ceDel E _ _ h1 h2) hg_inX1 rfl 4 (by decide) rfl (hg_Uin (List.mem_of_getElem? (i := 104) (by decide +kernel)) (by decide +kernel)) rfl hd hp kk
theorem pf_X5_172 (cx : hg_Cx E p s m args meth c cc nL RX5 ret) {i : Nat} (h1 : 20 ≤ i) (h2 : i < 50) {x : Int32} (hd : decode cc pc = .ok (.putfield 172, 3)) (hp : pc + 3 = pc') (kk : hg_G E p l e R s m args below meth c nL Q (hg_sI σ i 4 x) pc' lv st) : hg_G E p l e R s m args below meth c nL Q σ pc lv (.int x :: .ref (hg_ad E i) :: st) := hg_put (i := i) (ty := .int) cx (by omega) (hg_ceDel E _ _ h1 h2) hg_inX1 tyX1 tyX1_ok nmX1 rfl 4 (by decide) rfl (hg_Uin (List.mem_of_getElem? (i := 104) (by decide +kernel)) (by decide +kernel)) rfl (by decide +kernel) rfl rfl (Nat.le_of_ble_eq_true rfl) ((hg_ceDel E _ _ h1 h2).trans rfl) hd hp kk
theorem gf_X5_185 (cx : hg_Cx E p s m args meth c cc nL RX5 ret) (hd : decode cc pc = .ok (.getfield 185, 3)) (hp : pc + 3 = pc') (kk : hg_G E p l e R s m args below meth c nL Q σ pc' lv (.int (σ.1 7 1) :: st)) : hg_G E p l e R s m args below meth c nL Q σ pc lv (.ref (hg_ad E 7) :: st) := hg_get (i := 7) cx (by decide) rfl hg_inX4 rfl 1 (by decide) rfl (hg_Uin (List.mem_of_getElem? (i := 168) (by decide +kernel)) (by decide +kernel)) rfl hd hp kk
theorem pf_X5_185 (cx : hg_Cx E p s m args meth c cc nL RX5 ret) {x : Int32} (hd : decode cc pc = .ok (.putfield 185, 3)) (hp : pc + 3 = pc') (kk : hg_G E p l e R s m args below meth c nL Q (hg_sI σ 7 1 x) pc' lv st) : hg_G E p l e R s m args below meth c nL Q σ pc lv (.int x :: .ref (hg_ad E 7) :: st) := hg_put (i := 7) (ty := .int) cx (by decide) rfl hg_inX4 tyX4 tyX4_ok nmX4 rfl 1 (by decide) rfl (hg_Uin (List.mem_of_getElem? (i := 168) (by decide +kernel)) (by decide +kernel)) rfl (by decide +kernel) rfl rfl (Nat.le_of_ble_eq_true rfl) rfl hd hp kk
theorem gf_X5_203 (cx : hg_Cx E p s m args meth c cc nL RX5 ret) {i : Nat} (h1 : 12 ≤ i) (h2 : i < 16) (hd : decode cc pc = .ok (.getfield 203, 3)) (hp : pc + 3 = pc') (kk : hg_G E p l e R s m args below meth c nL Q σ pc' lv (.int (σ.1 i 2) :: st)) : hg_G E p l e R s m args below meth c nL Q σ pc lv (.ref (hg_ad E i) :: st) := hg_get (i := i) cx (by omega) (hg_ceShe E _ _ h1 h2) hg_inX2 rfl 2 (by decide) rfl (hg_Uin (List.mem_of_getElem? (i := 212) (by decide +kernel)) (by decide +kernel)) rfl hd hp kk
theorem pf_X5_203 (cx : hg_Cx E p s m args meth c cc nL RX5 ret) {i : Nat} (h1 : 12 ≤ i) (h2 : i < 16) {x : Int32} (hd : decode cc pc = .ok (.putfield 203, 3)) (hp : pc + 3 = pc') (kk : hg_G E p l e R s m args below meth c nL Q (hg_sI σ i 2 x) pc' lv st) : hg_G E p l e R s m args below meth c nL Q σ pc lv (.int x :: .ref (hg_ad E i) :: st) := hg_put (i := i) (ty := .int) cx (by omega) (hg_ceShe E _ _ h1 h2) hg_inX2 tyX2 tyX2_ok nmX2 rfl 2 (by decide) rfl (hg_Uin (List.mem_of_getElem? (i := 212) (by decide +kernel)) (by decide +kernel)) rfl (by decide +kernel) rfl rfl (Nat.le_of_ble_eq_true rfl) ((hg_ceShe E _ _ h1 h2).trans rfl) hd hp kk
theorem gf_X5_208 (cx : hg_Cx E p s m args meth c cc nL RX5 ret) {i : Nat} (h1 : 12 ≤ i) (h2 : i < 16) (hd : decode cc pc = .ok (.getfield 208, 3)) (hp : pc + 3 = pc') (kk : hg_G E p l e R s m args below meth c nL Q σ pc' lv (.ref (hg_ad E (i + 4)) :: st)) : hg_G E p l e R s m args below meth c nL Q σ pc lv (.ref (hg_ad E i) :: st) := hg_get (i := i) cx (by omega) (hg_ceShe E _ _ h1 h2) hg_inX2 rfl 0 (by decide) rfl (hg_Uin (List.mem_of_getElem? (i := 208) (by decide +kernel)) (by decide +kernel)) rfl hd hp kk
theorem gf_X5_215 (cx : hg_Cx E p s m args meth c cc nL RX5 ret) {i : Nat} (h1 : 12 ≤ i) (h2 : i < 16) (hd : decode cc pc = .ok (.getfield 215, 3)) (hp : pc + 3 = pc') (kk : hg_G E p l e R s m args below meth c nL Q σ pc' lv (.int (σ.1 i 1) :: st)) : hg_G E p l e R s m args below meth c nL Q σ pc lv (.ref (hg_ad E i) :: st) := hg_get (i := i) cx (by omega) (hg_ceShe E _ _ h1 h2) hg_inX2 rfl 1 (by decide) rfl (hg_Uin (List.mem_of_getElem? (i := 210) (by decide +kernel)) (by decide +kernel)) rfl hd hp kk
theorem pf_X5_215 (cx : hg_Cx E p s m args meth c cc nL RX5 ret) {i : Nat} (h1 : 12 ≤ i) (h2 : i < 16) {x : Int32} (hd : decode cc pc = .ok (.putfield 215, 3)) (hp : pc + 3 = pc') (kk : hg_G E p l e R s m args below meth c nL Q (hg_sI σ i 1 x) pc' lv st) : hg_G E p l e R s m args below meth c nL Q σ pc lv (.int x :: .ref (hg_ad E i) :: st) := hg_put (i := i) (ty := .int) cx (by omega) (hg_ceShe E _ _ h1 h2) hg_inX2 tyX2 tyX2_ok nmX2 rfl 1 (by decide) rfl (hg_Uin (List.mem_of_getElem? (i := 210) (by decide +kernel)) (by decide +kernel)) rfl (by decide +kernel) rfl rfl (Nat.le_of_ble_eq_true rfl) ((hg_ceShe E _ _ h1 h2).trans rfl) hd hp kk
theorem gf_X5_237 (cx : hg_Cx E p s m args meth c cc nL RX5 ret) (hd : decode cc pc = .ok (.getfield 237, 3)) (hp : pc + 3 = pc') (kk : hg_G E p l e R s m args below meth c nL Q σ pc' lv (.int (σ.1 0 3) :: st)) : hg_G E p l e R s m args below meth c nL Q σ pc lv (.ref (hg_ad E 0) :: st) := hg_get (i := 0) cx (by decide) rfl hg_inX5 rfl 3 (by decide) rfl (hg_Uin (List.mem_of_getElem? (i := 224) (by decide +kernel)) (by decide +kernel)) rfl hd hp kk
theorem pf_X5_237 (cx : hg_Cx E p s m args meth c cc nL RX5 ret) {x : Int32} (hz : narrow .boolean (.int x) = .int x ∧ fits .boolean (.int x) = true) (hd : decode cc pc = .ok (.putfield 237, 3)) (hp : pc + 3 = pc') (kk : hg_G E p l e R s m args below meth c nL Q (hg_sI σ 0 3 x) pc' lv st) : hg_G E p l e R s m args below meth c nL Q σ pc lv (.int x :: .ref (hg_ad E 0) :: st) := hg_put (i := 0) (ty := .boolean) cx (by decide) rfl hg_inX5 tyX5 tyX5_ok nmX5 rfl 3 (by decide) rfl (hg_Uin (List.mem_of_getElem? (i := 224) (by decide +kernel)) (by decide +kernel)) rfl (by decide +kernel) hz.1 hz.2 (Nat.le_of_ble_eq_true rfl) rfl hd hp kk
theorem gf_X0_9 (cx : hg_Cx E p s m args meth c cc nL RX0 ret) (hd : decode cc pc = .ok (.getfield 9, 3)) (hp : pc + 3 = pc') (kk : hg_G E p l e R s m args below meth c nL Q σ pc' lv (.ref (hg_ad E 7) :: st)) : hg_G E p l e R s m args below meth c nL Q σ pc lv (.ref (hg_ad E 9) :: st) := hg_get (i := 9) cx (by decide) rfl hg_inX0 rfl 0 (by decide) rfl (hg_Uin (List.mem_of_getElem? (i := 181) (by decide +kernel)) (by decide +kernel)) rfl hd hp kk
theorem gf_X0_15 (cx : hg_Cx E p s m args meth c cc nL RX0 ret) (hd : decode cc pc = .ok (.getfield 15, 3)) (hp : pc + 3 = pc') (kk : hg_G E p l e R s m args below meth c nL Q σ pc' lv (.ref (hg_ad E 2) :: st)) : hg_G E p l e R s m args below meth c nL Q σ pc lv (.ref (hg_ad E 9) :: st) := hg_get (i := 9) cx (by decide) rfl hg_inX0 rfl 1 (by decide) rfl (hg_Uin (List.mem_of_getElem? (i := 182) (by decide +kernel)) (by decide +kernel)) rfl hd hp kk
theorem gf_X0_19 (cx : hg_Cx E p s m args meth c cc nL RX0 ret) (hd : decode cc pc = .ok (.getfield 19, 3)) (hp : pc + 3 = pc') (kk : hg_G E p l e R s m args below meth c nL Q σ pc' lv (.int (σ.1 9 4) :: st)) : hg_G E p l e R s m args below meth c nL Q σ pc lv (.ref (hg_ad E 9) :: st) := hg_get (i := 9) cx (by decide) rfl hg_inX0 rfl 4 (by decide) rfl (hg_Uin (List.mem_of_getElem? (i := 185) (by decide +kernel)) (by decide +kernel)) rfl hd hp kk
theorem pf_X0_19 (cx : hg_Cx E p s m args meth c cc nL RX0 ret) {x : Int32} (hd : decode cc pc = .ok (.putfield 19, 3)) (hp : pc + 3 = pc') (kk : hg_G E p l e R s m args below meth c nL Q (hg_sI σ 9 4 x) pc' lv st) : hg_G E p l e R s m args below meth c nL Q σ pc lv (.int x :: .ref (hg_ad E 9) :: st) := hg_put (i := 9) (ty := .int) cx (by decide) rfl hg_inX0 tyX0 tyX0_ok nmX0 rfl 4 (by decide) rfl (hg_Uin (List.mem_of_getElem? (i := 185) (by decide +kernel)) (by decide +kernel)) rfl (by decide +kernel) rfl rfl (Nat.le_of_ble_eq_true rfl) rfl hd hp kk
theorem gf_X0_30 (cx : hg_Cx E p s m args meth c cc nL RX0 ret) (hd : decode cc pc = .ok (.getfield 30, 3)) (hp : pc + 3 = pc') (kk : hg_G E p l e R s m args below meth c nL Q σ pc' lv (.int (σ.1 9 3) :: st)) : hg_G E p l e R s m args below meth c nL Q σ pc lv (.ref (hg_ad E 9) :: st) := hg_get (i := 9) cx (by decide) rfl hg_inX0 rfl 3 (by decide) rfl (hg_Uin (List.mem_of_getElem? (i := 184) (by decide +kernel)) (by decide +kernel)) rfl hd hp kk
theorem pf_X0_30 (cx : hg_Cx E p s m args meth c cc nL RX0 ret) {x : Int32} (hd : decode cc pc = .ok (.putfield 30, 3)) (hp : pc + 3 = pc') (kk : hg_G E p l e R s m args below meth c nL Q (hg_sI σ 9 3 x) pc' lv st) : hg_G E p l e R s m args below meth c nL Q σ pc lv (.int x :: .ref (hg_ad E 9) :: st) := hg_put (i := 9) (ty := .int) cx (by decide) rfl hg_inX0 tyX0 tyX0_ok nmX0 rfl 3 (by decide) rfl (hg_Uin (List.mem_of_getElem? (i := 184) (by decide +kernel)) (by decide +kernel)) rfl (by decide +kernel) rfl rfl (Nat.le_of_ble_eq_true rfl) rfl hd hp kk
theorem gf_X0_33 (cx : hg_Cx E p s m args meth c cc nL RX0 ret) (hd : decode cc pc = .ok (.getfield 33, 3)) (hp : pc + 3 = pc') (kk : hg_G E p l e R s m args below meth c nL Q σ pc' lv (.int (σ.1 9 2) :: st)) : hg_G E p l e R s m args below meth c nL Q σ pc lv (.ref (hg_ad E 9) :: st) := hg_get (i := 9) cx (by decide) rfl hg_inX0 rfl 2 (by decide) rfl (hg_Uin (List.mem_of_getElem? (i := 183) (by decide +kernel)) (by decide +kernel)) rfl hd hp kk
theorem pf_X0_33 (cx : hg_Cx E p s m args meth c cc nL RX0 ret) {x : Int32} (hd : decode cc pc = .ok (.putfield 33, 3)) (hp : pc + 3 = pc') (kk : hg_G E p l e R s m args below meth c nL Q (hg_sI σ 9 2 x) pc' lv st) : hg_G E p l e R s m args below meth c nL Q σ pc lv (.int x :: .ref (hg_ad E 9) :: st) := hg_put (i := 9) (ty := .int) cx (by decide) rfl hg_inX0 tyX0 tyX0_ok nmX0 rfl 2 (by decide) rfl (hg_Uin (List.mem_of_getElem? (i := 183) (by decide +kernel)) (by decide +kernel)) rfl (by decide +kernel) rfl rfl (Nat.le_of_ble_eq_true rfl) rfl hd hp kk
theorem gf_X0_36 (cx : hg_Cx E p s m args meth c cc nL RX0 ret) (hd : decode cc pc = .ok (.getfield 36, 3)) (hp : pc + 3 = pc') (kk : hg_G E p l e R s m args below meth c nL Q σ pc' lv (.int (σ.1 7 1) :: st)) : hg_G E p l e R s m args below meth c nL Q σ pc lv (.ref (hg_ad E 7) :: st) := hg_get (i := 7) cx (by decide) rfl hg_inX4 rfl 1 (by decide) rfl (hg_Uin (List.mem_of_getElem? (i := 167) (by decide +kernel)) (by decide +kernel)) rfl hd hp kk
theorem pf_X0_36 (cx : hg_Cx E p s m args meth c cc nL RX0 ret) {x : Int32} (hd : decode cc pc = .ok (.putfield 36, 3)) (hp : pc + 3 = pc') (kk : hg_G E p l e R s m args below meth c nL Q (hg_sI σ 7 1 x) pc' lv st) : hg_G E p l e R s m args below meth c nL Q σ pc lv (.int x :: .ref (hg_ad E 7) :: st) := hg_put (i := 7) (ty := .int) cx (by decide) rfl hg_inX4 tyX4 tyX4_ok nmX4 rfl 1 (by decide) rfl (hg_Uin (List.mem_of_getElem? (i := 167) (by decide +kernel)) (by decide +kernel)) rfl (by decide +kernel) rfl rfl (Nat.le_of_ble_eq_true rfl) rfl hd hp kk
theorem gf_X0_77 (cx : hg_Cx E p s m args meth c cc nL RX0 ret) {i : Nat} (h1 : 1 ≤ i) (h2 : i < 4) (hd : decode cc pc = .ok (.getfield 77, 3)) (hp : pc + 3 = pc') (kk : hg_G E p l e R s m args below meth c nL Q σ pc' lv (.ref (hg_ad E (i + 3)) :: st)) : hg_G E p l e R s m args below meth c nL Q σ pc lv (.ref (hg_ad E i) :: st) := hg_get (i := i) cx (by omega) (hg_ceTab E _ _ h1 h2) hg_inX3 rfl 4 (by decide) rfl (hg_Uin (List.mem_of_getElem? (i := 137) (by decide +kernel)) (by decide +kernel)) rfl hd hp kk
theorem gf_X0_81 (cx : hg_Cx E p s m args meth c cc nL RX0 ret) {i : Nat} (h1 : 1 ≤ i) (h2 : i < 4) (hd : decode cc pc = .ok (.getfield 81, 3)) (hp : pc + 3 = pc') (kk : hg_G E p l e R s m args below meth c nL Q σ pc' lv (.int (σ.1 i 3) :: st)) : hg_G E p l e R s m args below meth c nL Q σ pc lv (.ref (hg_ad E i) :: st) := hg_get (i := i) cx (by omega) (hg_ceTab E _ _ h1 h2) hg_inX3 rfl 3 (by decide) rfl (hg_Uin (List.mem_of_getElem? (i := 134) (by decide +kernel)) (by decide +kernel)) rfl hd hp kk
theorem pf_X0_81 (cx : hg_Cx E p s m args meth c cc nL RX0 ret) {i : Nat} (h1 : 1 ≤ i) (h2 : i < 4) {x : Int32} (hd : decode cc pc = .ok (.putfield 81, 3)) (hp : pc + 3 = pc') (kk : hg_G E p l e R s m args below meth c nL Q (hg_sI σ i 3 x) pc' lv st) : hg_G E p l e R s m args below meth c nL Q σ pc lv (.int x :: .ref (hg_ad E i) :: st) := hg_put (i := i) (ty := .int) cx (by omega) (hg_ceTab E _ _ h1 h2) hg_inX3 tyX3 tyX3_ok nmX3 rfl 3 (by decide) rfl (hg_Uin (List.mem_of_getElem? (i := 134) (by decide +kernel)) (by decide +kernel)) rfl (by decide +kernel) rfl rfl (Nat.le_of_ble_eq_true rfl) ((hg_ceTab E _ _ h1 h2).trans rfl) hd hp kk
theorem gf_X0_89 (cx : hg_Cx E p s m args meth c cc nL RX0 ret) (hd : decode cc pc = .ok (.getfield 89, 3)) (hp : pc + 3 = pc') (kk : hg_G E p l e R s m args below meth c nL Q σ pc' lv (.int (σ.1 9 5) :: st)) : hg_G E p l e R s m args below meth c nL Q σ pc lv (.ref (hg_ad E 9) :: st) := hg_get (i := 9) cx (by decide) rfl hg_inX0 rfl 5 (by decide) rfl (hg_Uin (List.mem_of_getElem? (i := 186) (by decide +kernel)) (by decide +kernel)) rfl hd hp kk
theorem pf_X0_89 (cx : hg_Cx E p s m args meth c cc nL RX0 ret) {x : Int32} (hd : decode cc pc = .ok (.putfield 89, 3)) (hp : pc + 3 = pc') (kk : hg_G E p l e R s m args below meth c nL Q (hg_sI σ 9 5 x) pc' lv st) : hg_G E p l e R s m args below meth c nL Q σ pc lv (.int x :: .ref (hg_ad E 9) :: st) := hg_put (i := 9) (ty := .int) cx (by decide) rfl hg_inX0 tyX0 tyX0_ok nmX0 rfl 5 (by decide) rfl (hg_Uin (List.mem_of_getElem? (i := 186) (by decide +kernel)) (by decide +kernel)) rfl (by decide +kernel) rfl rfl (Nat.le_of_ble_eq_true rfl) rfl hd hp kk
theorem gf_X0_92 (cx : hg_Cx E p s m args meth c cc nL RX0 ret) {i : Nat} (h1 : 20 ≤ i) (h2 : i < 50) (hd : decode cc pc = .ok (.getfield 92, 3)) (hp : pc + 3 = pc') (kk : hg_G E p l e R s m args below meth c nL Q σ pc' lv (.int (σ.1 i 1) :: st)) : hg_G E p l e R s m args below meth c nL Q σ pc lv (.ref (hg_ad E i) :: st) := hg_get (i := i) cx (by omega) (hg_ceDel E _ _ h1 h2) hg_inX1 rfl 1 (by decide) rfl (hg_Uin (List.mem_of_getElem? (i := 96) (by decide +kernel)) (by decide +kernel)) rfl hd hp kk
theorem pf_X0_92 (cx : hg_Cx E p s m args meth c cc nL RX0 ret) {i : Nat} (h1 : 20 ≤ i) (h2 : i < 50) {x : Int32} (hd : decode cc pc = .ok (.putfield 92, 3)) (hp : pc + 3 = pc') (kk : hg_G E p l e R s m args below meth c nL Q (hg_sI σ i 1 x) pc' lv st) : hg_G E p l e R s m args below meth c nL Q σ pc lv (.int x :: .ref (hg_ad E i) :: st) := hg_put (i := i) (ty := .int) cx (by omega) (hg_ceDel E _ _ h1 h2) hg_inX1 tyX1 tyX1_ok nmX1 rfl 1 (by decide) rfl (hg_Uin (List.mem_of_getElem? (i := 96) (by decide +kernel)) (by decide +kernel)) rfl (by decide +kernel) rfl rfl (Nat.le_of_ble_eq_true rfl) ((hg_ceDel E _ _ h1 h2).trans rfl) hd hp kk
theorem gf_X0_98 (cx : hg_Cx E p s m args meth c cc nL RX0 ret) {i : Nat} (h1 : 20 ≤ i) (h2 : i < 50) (hd : decode cc pc = .ok (.getfield 98, 3)) (hp : pc + 3 = pc') (kk : hg_G E p l e R s m args below meth c nL Q σ pc' lv (.int (σ.1 i 4) :: st)) : hg_G E p l e R s m args below meth c nL Q σ pc lv (.ref (hg_ad E i) :: st) := hg_get (i := i) cx (by omega) (hg_ceDel E _ _ h1 h2) hg_inX1 rfl 4 (by decide) rfl (hg_Uin (List.mem_of_getElem? (i := 103) (by decide +kernel)) (by decide +kernel)) rfl hd hp kk
theorem pf_X0_98 (cx : hg_Cx E p s m args meth c cc nL RX0 ret) {i : Nat} (h1 : 20 ≤ i) (h2 : i < 50) {x : Int32} (hd : decode cc pc = .ok (.putfield 98, 3)) (hp : pc + 3 = pc') (kk : hg_G E p l e R s m args below meth c nL Q (hg_sI σ i 4 x) pc' lv st) : hg_G E p l e R s m args below meth c nL Q σ pc lv (.int x :: .ref (hg_ad E i) :: st) := hg_put (i := i) (ty := .int) cx (by omega) (hg_ceDel E _ _ h1 h2) hg_inX1 tyX1 tyX1_ok nmX1 rfl 4 (by decide) rfl (hg_Uin (List.mem_of_getElem? (i := 103) (by decide +kernel)) (by decide +kernel)) rfl (by decide +kernel) rfl rfl (Nat.le_of_ble_eq_true rfl) ((hg_ceDel E _ _ h1 h2).trans rfl) hd hp kk
theorem gf_X0_102 (cx : hg_Cx E p s m args meth c cc nL RX0 ret) {i : Nat} (h1 : 20 ≤ i) (h2 : i < 50) (hd : decode cc pc = .ok (.getfield 102, 3)) (hp : pc + 3 = pc') (kk : hg_G E p l e R s m args below meth c nL Q σ pc' lv (.int (σ.1 i 5) :: st)) : hg_G E p l e R s m args below meth c nL Q σ pc lv (.ref (hg_ad E i) :: st) := hg_get (i := i) cx (by omega) (hg_ceDel E _ _ h1 h2) hg_inX1 rfl 5 (by decide) rfl (hg_Uin (List.mem_of_getElem? (i := 106) (by decide +kernel)) (by decide +kernel)) rfl hd hp kk
theorem pf_X0_102 (cx : hg_Cx E p s m args meth c cc nL RX0 ret) {i : Nat} (h1 : 20 ≤ i) (h2 : i < 50) {x : Int32} (hd : decode cc pc = .ok (.putfield 102, 3)) (hp : pc + 3 = pc') (kk : hg_G E p l e R s m args below meth c nL Q (hg_sI σ i 5 x) pc' lv st) : hg_G E p l e R s m args below meth c nL Q σ pc lv (.int x :: .ref (hg_ad E i) :: st) := hg_put (i := i) (ty := .int) cx (by omega) (hg_ceDel E _ _ h1 h2) hg_inX1 tyX1 tyX1_ok nmX1 rfl 5 (by decide) rfl (hg_Uin (List.mem_of_getElem? (i := 106) (by decide +kernel)) (by decide +kernel)) rfl (by decide +kernel) rfl rfl (Nat.le_of_ble_eq_true rfl) ((hg_ceDel E _ _ h1 h2).trans rfl) hd hp kk
theorem gf_X0_105 (cx : hg_Cx E p s m args meth c cc nL RX0 ret) {i : Nat} (h1 : 1 ≤ i) (h2 : i < 4) (hd : decode cc pc = .ok (.getfield 105, 3)) (hp : pc + 3 = pc') (kk : hg_G E p l e R s m args below meth c nL Q σ pc' lv (.int (σ.1 i 1) :: st)) : hg_G E p l e R s m args below meth c nL Q σ pc lv (.ref (hg_ad E i) :: st) := hg_get (i := i) cx (by omega) (hg_ceTab E _ _ h1 h2) hg_inX3 rfl 1 (by decide) rfl (hg_Uin (List.mem_of_getElem? (i := 129) (by decide +kernel)) (by decide +kernel)) rfl hd hp kk
theorem pf_X0_105 (cx : hg_Cx E p s m args meth c cc nL RX0 ret) {i : Nat} (h1 : 1 ≤ i) (h2 : i < 4) {x : Int32} (hd : decode cc pc = .ok (.putfield 105, 3)) (hp : pc + 3 = pc') (kk : hg_G E p l e R s m args below meth c nL Q (hg_sI σ i 1 x) pc' lv st) : hg_G E p l e R s m args below meth c nL Q σ pc lv (.int x :: .ref (hg_ad E i) :: st) := hg_put (i := i) (ty := .int) cx (by omega) (hg_ceTab E _ _ h1 h2) hg_inX3 tyX3 tyX3_ok nmX3 rfl 1 (by decide) rfl (hg_Uin (List.mem_of_getElem? (i := 129) (by decide +kernel)) (by decide +kernel)) rfl (by decide +kernel) rfl rfl (Nat.le_of_ble_eq_true rfl) ((hg_ceTab E _ _ h1 h2).trans rfl) hd hp kk
theorem gf_X0_109 (cx : hg_Cx E p s m args meth c cc nL RX0 ret) {i : Nat} (h1 : 1 ≤ i) (h2 : i < 4) (hd : decode cc pc = .ok (.getfield 109, 3)) (hp : pc + 3 = pc') (kk : hg_G E p l e R s m args below meth c nL Q σ pc' lv (.int (σ.1 i 2) :: st)) : hg_G E p l e R s m args below meth c nL Q σ pc lv (.ref (hg_ad E i) :: st) := hg_get (i := i) cx (by omega) (hg_ceTab E _ _ h1 h2) hg_inX3 rfl 2 (by decide) rfl (hg_Uin (List.mem_of_getElem? (i := 132) (by decide +kernel)) (by decide +kernel)) rfl hd hp kk
theorem pf_X0_109 (cx : hg_Cx E p s m args meth c cc nL RX0 ret) {i : Nat} (h1 : 1 ≤ i) (h2 : i < 4) {x : Int32} (hd : decode cc pc = .ok (.putfield 109, 3)) (hp : pc + 3 = pc') (kk : hg_G E p l e R s m args below meth c nL Q (hg_sI σ i 2 x) pc' lv st) : hg_G E p l e R s m args below meth c nL Q σ pc lv (.int x :: .ref (hg_ad E i) :: st) := hg_put (i := i) (ty := .int) cx (by omega) (hg_ceTab E _ _ h1 h2) hg_inX3 tyX3 tyX3_ok nmX3 rfl 2 (by decide) rfl (hg_Uin (List.mem_of_getElem? (i := 132) (by decide +kernel)) (by decide +kernel)) rfl (by decide +kernel) rfl rfl (Nat.le_of_ble_eq_true rfl) ((hg_ceTab E _ _ h1 h2).trans rfl) hd hp kk
theorem gf_X0_155 (cx : hg_Cx E p s m args meth c cc nL RX0 ret) (hd : decode cc pc = .ok (.getfield 155, 3)) (hp : pc + 3 = pc') (kk : hg_G E p l e R s m args below meth c nL Q σ pc' lv (.ref (hg_ad E 8) :: st)) : hg_G E p l e R s m args below meth c nL Q σ pc lv (.ref (hg_ad E 7) :: st) := hg_get (i := 7) cx (by decide) rfl hg_inX4 rfl 0 (by decide) rfl (hg_Uin (List.mem_of_getElem? (i := 165) (by decide +kernel)) (by decide +kernel)) rfl hd hp kk
theorem gf_X1_9 (cx : hg_Cx E p s m args meth c cc nL RX1 ret) {i : Nat} (h1 : 20 ≤ i) (h2 : i < 50) (hd : decode cc pc = .ok (.getfield 9, 3)) (hp : pc + 3 = pc') (kk : hg_G E p l e R s m args below meth c nL Q σ pc' lv (.int (σ.1 i 0) :: st)) : hg_G E p l e R s m args below meth c nL Q σ pc lv (.ref (hg_ad E i) :: st) := hg_get (i := i) cx (by omega) (hg_ceDel E _ _ h1 h2) hg_inX1 rfl 0 (by decide) rfl (hg_Uin (List.mem_of_getElem? (i := 93) (by decide +kernel)) (by decide +kernel)) rfl hd hp kk
theorem pf_X1_9 (cx : hg_Cx E p s m args meth c cc nL RX1 ret) {i : Nat} (h1 : 20 ≤ i) (h2 : i < 50) {x : Int32} (hd : decode cc pc = .ok (.putfield 9, 3)) (hp : pc + 3 = pc') (kk : hg_G E p l e R s m args below meth c nL Q (hg_sI σ i 0 x) pc' lv st) : hg_G E p l e R s m args below meth c nL Q σ pc lv (.int x :: .ref (hg_ad E i) :: st) := hg_put (i := i) (ty := .int) cx (by omega) (hg_ceDel E _ _ h1 h2) hg_inX1 tyX1 tyX1_ok nmX1 rfl 0 (by decide) rfl (hg_Uin (List.mem_of_getElem? (i := 93) (by decide +kernel)) (by decide +kernel)) rfl (by decide +kernel) rfl rfl (Nat.le_of_ble_eq_true rfl) ((hg_ceDel E _ _ h1 h2).trans rfl) hd hp kk
theorem gf_X1_15 (cx : hg_Cx E p s m args meth c cc nL RX1 ret) {i : Nat} (h1 : 20 ≤ i) (h2 : i < 50) (hd : decode cc pc = .ok (.getfield 15, 3)) (hp : pc + 3 = pc') (kk : hg_G E p l e R s m args below meth c nL Q σ pc' lv (.int (σ.1 i 1) :: st)) : hg_G E p l e R s m args below meth c nL Q σ pc lv (.ref (hg_ad E i) :: st) := hg_get (i := i) cx (by omega) (hg_ceDel E _ _ h1 h2) hg_inX1 rfl 1 (by decide) rfl (hg_Uin (List.mem_of_getElem? (i := 95) (by decide +kernel)) (by decide +kernel)) rfl hd hp kk
theorem pf_X1_15 (cx : hg_Cx E p s m args meth c cc nL RX1 ret) {i : Nat} (h1 : 20 ≤ i) (h2 : i < 50) {x : Int32} (hd : decode cc pc = .ok (.putfield 15, 3)) (hp : pc + 3 = pc') (kk : hg_G E p l e R s m args below meth c nL Q (hg_sI σ i 1 x) pc' lv st) : hg_G E p l e R s m args below meth c nL Q σ pc lv (.int x :: .ref (hg_ad E i) :: st) := hg_put (i := i) (ty := .int) cx (by omega) (hg_ceDel E _ _ h1 h2) hg_inX1 tyX1 tyX1_ok nmX1 rfl 1 (by decide) rfl (hg_Uin (List.mem_of_getElem? (i := 95) (by decide +kernel)) (by decide +kernel)) rfl (by decide +kernel) rfl rfl (Nat.le_of_ble_eq_true rfl) ((hg_ceDel E _ _ h1 h2).trans rfl) hd hp kk
theorem gf_X1_18 (cx : hg_Cx E p s m args meth c cc nL RX1 ret) {i : Nat} (h1 : 20 ≤ i) (h2 : i < 50) (hd : decode cc pc = .ok (.getfield 18, 3)) (hp : pc + 3 = pc') (kk : hg_G E p l e R s m args below meth c nL Q σ pc' lv (.int (σ.1 i 2) :: st)) : hg_G E p l e R s m args below meth c nL Q σ pc lv (.ref (hg_ad E i) :: st) := hg_get (i := i) cx (by omega) (hg_ceDel E _ _ h1 h2) hg_inX1 rfl 2 (by decide) rfl (hg_Uin (List.mem_of_getElem? (i := 98) (by decide +kernel)) (by decide +kernel)) rfl hd hp kk
theorem pf_X1_18 (cx : hg_Cx E p s m args meth c cc nL RX1 ret) {i : Nat} (h1 : 20 ≤ i) (h2 : i < 50) {x : Int32} (hd : decode cc pc = .ok (.putfield 18, 3)) (hp : pc + 3 = pc') (kk : hg_G E p l e R s m args below meth c nL Q (hg_sI σ i 2 x) pc' lv st) : hg_G E p l e R s m args below meth c nL Q σ pc lv (.int x :: .ref (hg_ad E i) :: st) := hg_put (i := i) (ty := .int) cx (by omega) (hg_ceDel E _ _ h1 h2) hg_inX1 tyX1 tyX1_ok nmX1 rfl 2 (by decide) rfl (hg_Uin (List.mem_of_getElem? (i := 98) (by decide +kernel)) (by decide +kernel)) rfl (by decide +kernel) rfl rfl (Nat.le_of_ble_eq_true rfl) ((hg_ceDel E _ _ h1 h2).trans rfl) hd hp kk
theorem gf_X1_21 (cx : hg_Cx E p s m args meth c cc nL RX1 ret) {i : Nat} (h1 : 20 ≤ i) (h2 : i < 50) (hd : decode cc pc = .ok (.getfield 21, 3)) (hp : pc + 3 = pc') (kk : hg_G E p l e R s m args below meth c nL Q σ pc' lv (.int (σ.1 i 3) :: st)) : hg_G E p l e R s m args below meth c nL Q σ pc lv (.ref (hg_ad E i) :: st) := hg_get (i := i) cx (by omega) (hg_ceDel E _ _ h1 h2) hg_inX1 rfl 3 (by decide) rfl (hg_Uin (List.mem_of_getElem? (i := 100) (by decide +kernel)) (by decide +kernel)) rfl hd hp kk
theorem pf_X1_21 (cx : hg_Cx E p s m args meth c cc nL RX1 ret) {i : Nat} (h1 : 20 ≤ i) (h2 : i < 50) {x : Int32} (hd : decode cc pc = .ok (.putfield 21, 3)) (hp : pc + 3 = pc') (kk : hg_G E p l e R s m args below meth c nL Q (hg_sI σ i 3 x) pc' lv st) : hg_G E p l e R s m args below meth c nL Q σ pc lv (.int x :: .ref (hg_ad E i) :: st) := hg_put (i := i) (ty := .int) cx (by omega) (hg_ceDel E _ _ h1 h2) hg_inX1 tyX1 tyX1_ok nmX1 rfl 3 (by decide) rfl (hg_Uin (List.mem_of_getElem? (i := 100) (by decide +kernel)) (by decide +kernel)) rfl (by decide +kernel) rfl rfl (Nat.le_of_ble_eq_true rfl) ((hg_ceDel E _ _ h1 h2).trans rfl) hd hp kk
theorem gf_X1_24 (cx : hg_Cx E p s m args meth c cc nL RX1 ret) {i : Nat} (h1 : 20 ≤ i) (h2 : i < 50) (hd : decode cc pc = .ok (.getfield 24, 3)) (hp : pc + 3 = pc') (kk : hg_G E p l e R s m args below meth c nL Q σ pc' lv (.int (σ.1 i 4) :: st)) : hg_G E p l e R s m args below meth c nL Q σ pc lv (.ref (hg_ad E i) :: st) := hg_get (i := i) cx (by omega) (hg_ceDel E _ _ h1 h2) hg_inX1 rfl 4 (by decide) rfl (hg_Uin (List.mem_of_getElem? (i := 102) (by decide +kernel)) (by decide +kernel)) rfl hd hp kk
theorem pf_X1_24 (cx : hg_Cx E p s m args meth c cc nL RX1 ret) {i : Nat} (h1 : 20 ≤ i) (h2 : i < 50) {x : Int32} (hd : decode cc pc = .ok (.putfield 24, 3)) (hp : pc + 3 = pc') (kk : hg_G E p l e R s m args below meth c nL Q (hg_sI σ i 4 x) pc' lv st) : hg_G E p l e R s m args below meth c nL Q σ pc lv (.int x :: .ref (hg_ad E i) :: st) := hg_put (i := i) (ty := .int) cx (by omega) (hg_ceDel E _ _ h1 h2) hg_inX1 tyX1 tyX1_ok nmX1 rfl 4 (by decide) rfl (hg_Uin (List.mem_of_getElem? (i := 102) (by decide +kernel)) (by decide +kernel)) rfl (by decide +kernel) rfl rfl (Nat.le_of_ble_eq_true rfl) ((hg_ceDel E _ _ h1 h2).trans rfl) hd hp kk
theorem gf_X1_27 (cx : hg_Cx E p s m args meth c cc nL RX1 ret) {i : Nat} (h1 : 20 ≤ i) (h2 : i < 50) (hd : decode cc pc = .ok (.getfield 27, 3)) (hp : pc + 3 = pc') (kk : hg_G E p l e R s m args below meth c nL Q σ pc' lv (.int (σ.1 i 5) :: st)) : hg_G E p l e R s m args below meth c nL Q σ pc lv (.ref (hg_ad E i) :: st) := hg_get (i := i) cx (by omega) (hg_ceDel E _ _ h1 h2) hg_inX1 rfl 5 (by decide) rfl (hg_Uin (List.mem_of_getElem? (i := 105) (by decide +kernel)) (by decide +kernel)) rfl hd hp kk
theorem pf_X1_27 (cx : hg_Cx E p s m args meth c cc nL RX1 ret) {i : Nat} (h1 : 20 ≤ i) (h2 : i < 50) {x : Int32} (hd : decode cc pc = .ok (.putfield 27, 3)) (hp : pc + 3 = pc') (kk : hg_G E p l e R s m args below meth c nL Q (hg_sI σ i 5 x) pc' lv st) : hg_G E p l e R s m args below meth c nL Q σ pc lv (.int x :: .ref (hg_ad E i) :: st) := hg_put (i := i) (ty := .int) cx (by omega) (hg_ceDel E _ _ h1 h2) hg_inX1 tyX1 tyX1_ok nmX1 rfl 5 (by decide) rfl (hg_Uin (List.mem_of_getElem? (i := 105) (by decide +kernel)) (by decide +kernel)) rfl (by decide +kernel) rfl rfl (Nat.le_of_ble_eq_true rfl) ((hg_ceDel E _ _ h1 h2).trans rfl) hd hp kk
theorem gf_X2_9 (cx : hg_Cx E p s m args meth c cc nL RX2 ret) {i : Nat} (h1 : 12 ≤ i) (h2 : i < 16) (hd : decode cc pc = .ok (.getfield 9, 3)) (hp : pc + 3 = pc') (kk : hg_G E p l e R s m args below meth c nL Q σ pc' lv (.ref (hg_ad E (i + 4)) :: st)) : hg_G E p l e R s m args below meth c nL Q σ pc lv (.ref (hg_ad E i) :: st) := hg_get (i := i) cx (by omega) (hg_ceShe E _ _ h1 h2) hg_inX2 rfl 0 (by decide) rfl (hg_Uin (List.mem_of_getElem? (i := 207) (by decide +kernel)) (by decide +kernel)) rfl hd hp kk
theorem gf_X2_15 (cx : hg_Cx E p s m args meth c cc nL RX2 ret) {i : Nat} (h1 : 12 ≤ i) (h2 : i < 16) (hd : decode cc pc = .ok (.getfield 15, 3)) (hp : pc + 3 = pc') (kk : hg_G E p l e R s m args below meth c nL Q σ pc' lv (.int (σ.1 i 1) :: st)) : hg_G E p l e R s m args below meth c nL Q σ pc lv (.ref (hg_ad E i) :: st) := hg_get (i := i) cx (by omega) (hg_ceShe E _ _ h1 h2) hg_inX2 rfl 1 (by decide) rfl (hg_Uin (List.mem_of_getElem? (i := 209) (by decide +kernel)) (by decide +kernel)) rfl hd hp kk
theorem pf_X2_15 (cx : hg_Cx E p s m args meth c cc nL RX2 ret) {i : Nat} (h1 : 12 ≤ i) (h2 : i < 16) {x : Int32} (hd : decode cc pc = .ok (.putfield 15, 3)) (hp : pc + 3 = pc') (kk : hg_G E p l e R s m args below meth c nL Q (hg_sI σ i 1 x) pc' lv st) : hg_G E p l e R s m args below meth c nL Q σ pc lv (.int x :: .ref (hg_ad E i) :: st) := hg_put (i := i) (ty := .int) cx (by omega) (hg_ceShe E _ _ h1 h2) hg_inX2 tyX2 tyX2_ok nmX2 rfl 1 (by decide) rfl (hg_Uin (List.mem_of_getElem? (i := 209) (by decide +kernel)) (by decide +kernel)) rfl (by decide +kernel) rfl rfl (Nat.le_of_ble_eq_true rfl) ((hg_ceShe E _ _ h1 h2).trans rfl) hd hp kk
theorem gf_X2_29 (cx : hg_Cx E p s m args meth c cc nL RX2 ret) {i : Nat} (h1 : 12 ≤ i) (h2 : i < 16) (hd : decode cc pc = .ok (.getfield 29, 3)) (hp : pc + 3 = pc') (kk : hg_G E p l e R s m args below meth c nL Q σ pc' lv (.int (σ.1 i 2) :: st)) : hg_G E p l e R s m args below meth c nL Q σ pc lv (.ref (hg_ad E i) :: st) := hg_get (i := i) cx (by omega) (hg_ceShe E _ _ h1 h2) hg_inX2 rfl 2 (by decide) rfl (hg_Uin (List.mem_of_getElem? (i := 211) (by decide +kernel)) (by decide +kernel)) rfl hd hp kk
theorem pf_X2_29 (cx : hg_Cx E p s m args meth c cc nL RX2 ret) {i : Nat} (h1 : 12 ≤ i) (h2 : i < 16) {x : Int32} (hd : decode cc pc = .ok (.putfield 29, 3)) (hp : pc + 3 = pc') (kk : hg_G E p l e R s m args below meth c nL Q (hg_sI σ i 2 x) pc' lv st) : hg_G E p l e R s m args below meth c nL Q σ pc lv (.int x :: .ref (hg_ad E i) :: st) := hg_put (i := i) (ty := .int) cx (by omega) (hg_ceShe E _ _ h1 h2) hg_inX2 tyX2 tyX2_ok nmX2 rfl 2 (by decide) rfl (hg_Uin (List.mem_of_getElem? (i := 211) (by decide +kernel)) (by decide +kernel)) rfl (by decide +kernel) rfl rfl (Nat.le_of_ble_eq_true rfl) ((hg_ceShe E _ _ h1 h2).trans rfl) hd hp kk
theorem gf_X3_9 (cx : hg_Cx E p s m args meth c cc nL RX3 ret) {i : Nat} (h1 : 1 ≤ i) (h2 : i < 4) (hd : decode cc pc = .ok (.getfield 9, 3)) (hp : pc + 3 = pc') (kk : hg_G E p l e R s m args below meth c nL Q σ pc' lv (.int (σ.1 i 1) :: st)) : hg_G E p l e R s m args below meth c nL Q σ pc lv (.ref (hg_ad E i) :: st) := hg_get (i := i) cx (by omega) (hg_ceTab E _ _ h1 h2) hg_inX3 rfl 1 (by decide) rfl (hg_Uin (List.mem_of_getElem? (i := 127) (by decide +kernel)) (by decide +kernel)) rfl hd hp kk
theorem pf_X3_9 (cx : hg_Cx E p s m args meth c cc nL RX3 ret) {i : Nat} (h1 : 1 ≤ i) (h2 : i < 4) {x : Int32} (hd : decode cc pc = .ok (.putfield 9, 3)) (hp : pc + 3 = pc') (kk : hg_G E p l e R s m args below meth c nL Q (hg_sI σ i 1 x) pc' lv st) : hg_G E p l e R s m args below meth c nL Q σ pc lv (.int x :: .ref (hg_ad E i) :: st) := hg_put (i := i) (ty := .int) cx (by omega) (hg_ceTab E _ _ h1 h2) hg_inX3 tyX3 tyX3_ok nmX3 rfl 1 (by decide) rfl (hg_Uin (List.mem_of_getElem? (i := 127) (by decide +kernel)) (by decide +kernel)) rfl (by decide +kernel) rfl rfl (Nat.le_of_ble_eq_true rfl) ((hg_ceTab E _ _ h1 h2).trans rfl) hd hp kk
theorem gf_X3_17 (cx : hg_Cx E p s m args meth c cc nL RX3 ret) {i : Nat} (h1 : 1 ≤ i) (h2 : i < 4) (hd : decode cc pc = .ok (.getfield 17, 3)) (hp : pc + 3 = pc') (kk : hg_G E p l e R s m args below meth c nL Q σ pc' lv (.ref (hg_ad E (i + 3)) :: st)) : hg_G E p l e R s m args below meth c nL Q σ pc lv (.ref (hg_ad E i) :: st) := hg_get (i := i) cx (by omega) (hg_ceTab E _ _ h1 h2) hg_inX3 rfl 4 (by decide) rfl (hg_Uin (List.mem_of_getElem? (i := 136) (by decide +kernel)) (by decide +kernel)) rfl hd hp kk
theorem gf_X3_22 (cx : hg_Cx E p s m args meth c cc nL RX3 ret) {i : Nat} (h1 : 1 ≤ i) (h2 : i < 4) (hd : decode cc pc = .ok (.getfield 22, 3)) (hp : pc + 3 = pc') (kk : hg_G E p l e R s m args below meth c nL Q σ pc' lv (.int (σ.1 i 0) :: st)) : hg_G E p l e R s m args below meth c nL Q σ pc lv (.ref (hg_ad E i) :: st) := hg_get (i := i) cx (by omega) (hg_ceTab E _ _ h1 h2) hg_inX3 rfl 0 (by decide) rfl (hg_Uin (List.mem_of_getElem? (i := 125) (by decide +kernel)) (by decide +kernel)) rfl hd hp kk
theorem pf_X3_22 (cx : hg_Cx E p s m args meth c cc nL RX3 ret) {i : Nat} (h1 : 1 ≤ i) (h2 : i < 4) {x : Int32} (hd : decode cc pc = .ok (.putfield 22, 3)) (hp : pc + 3 = pc') (kk : hg_G E p l e R s m args below meth c nL Q (hg_sI σ i 0 x) pc' lv st) : hg_G E p l e R s m args below meth c nL Q σ pc lv (.int x :: .ref (hg_ad E i) :: st) := hg_put (i := i) (ty := .int) cx (by omega) (hg_ceTab E _ _ h1 h2) hg_inX3 tyX3 tyX3_ok nmX3 rfl 0 (by decide) rfl (hg_Uin (List.mem_of_getElem? (i := 125) (by decide +kernel)) (by decide +kernel)) rfl (by decide +kernel) rfl rfl (Nat.le_of_ble_eq_true rfl) ((hg_ceTab E _ _ h1 h2).trans rfl) hd hp kk
theorem gf_X3_25 (cx : hg_Cx E p s m args meth c cc nL RX3 ret) {i : Nat} (h1 : 1 ≤ i) (h2 : i < 4) (hd : decode cc pc = .ok (.getfield 25, 3)) (hp : pc + 3 = pc') (kk : hg_G E p l e R s m args below meth c nL Q σ pc' lv (.int (σ.1 i 2) :: st)) : hg_G E p l e R s m args below meth c nL Q σ pc lv (.ref (hg_ad E i) :: st) := hg_get (i := i) cx (by omega) (hg_ceTab E _ _ h1 h2) hg_inX3 rfl 2 (by decide) rfl (hg_Uin (List.mem_of_getElem? (i := 130) (by decide +kernel)) (by decide +kernel)) rfl hd hp kk
theorem pf_X3_25 (cx : hg_Cx E p s m args meth c cc nL RX3 ret) {i : Nat} (h1 : 1 ≤ i) (h2 : i < 4) {x : Int32} (hd : decode cc pc = .ok (.putfield 25, 3)) (hp : pc + 3 = pc') (kk : hg_G E p l e R s m args below meth c nL Q (hg_sI σ i 2 x) pc' lv st) : hg_G E p l e R s m args below meth c nL Q σ pc lv (.int x :: .ref (hg_ad E i) :: st) := hg_put (i := i) (ty := .int) cx (by omega) (hg_ceTab E _ _ h1 h2) hg_inX3 tyX3 tyX3_ok nmX3 rfl 2 (by decide) rfl (hg_Uin (List.mem_of_getElem? (i := 130) (by decide +kernel)) (by decide +kernel)) rfl (by decide +kernel) rfl rfl (Nat.le_of_ble_eq_true rfl) ((hg_ceTab E _ _ h1 h2).trans rfl) hd hp kk
theorem gf_X3_28 (cx : hg_Cx E p s m args meth c cc nL RX3 ret) {i : Nat} (h1 : 1 ≤ i) (h2 : i < 4) (hd : decode cc pc = .ok (.getfield 28, 3)) (hp : pc + 3 = pc') (kk : hg_G E p l e R s m args below meth c nL Q σ pc' lv (.int (σ.1 i 3) :: st)) : hg_G E p l e R s m args below meth c nL Q σ pc lv (.ref (hg_ad E i) :: st) := hg_get (i := i) cx (by omega) (hg_ceTab E _ _ h1 h2) hg_inX3 rfl 3 (by decide) rfl (hg_Uin (List.mem_of_getElem? (i := 133) (by decide +kernel)) (by decide +kernel)) rfl hd hp kk
theorem pf_X3_28 (cx : hg_Cx E p s m args meth c cc nL RX3 ret) {i : Nat} (h1 : 1 ≤ i) (h2 : i < 4) {x : Int32} (hd : decode cc pc = .ok (.putfield 28, 3)) (hp : pc + 3 = pc') (kk : hg_G E p l e R s m args below meth c nL Q (hg_sI σ i 3 x) pc' lv st) : hg_G E p l e R s m args below meth c nL Q σ pc lv (.int x :: .ref (hg_ad E i) :: st) := hg_put (i := i) (ty := .int) cx (by omega) (hg_ceTab E _ _ h1 h2) hg_inX3 tyX3 tyX3_ok nmX3 rfl 3 (by decide) rfl (hg_Uin (List.mem_of_getElem? (i := 133) (by decide +kernel)) (by decide +kernel)) rfl (by decide +kernel) rfl rfl (Nat.le_of_ble_eq_true rfl) ((hg_ceTab E _ _ h1 h2).trans rfl) hd hp kk
theorem gf_X3_43 (cx : hg_Cx E p s m args meth c cc nL RX3 ret) {i : Nat} (h1 : 20 ≤ i) (h2 : i < 50) (hd : decode cc pc = .ok (.getfield 43, 3)) (hp : pc + 3 = pc') (kk : hg_G E p l e R s m args below meth c nL Q σ pc' lv (.int (σ.1 i 5) :: st)) : hg_G E p l e R s m args below meth c nL Q σ pc lv (.ref (hg_ad E i) :: st) := hg_get (i := i) cx (by omega) (hg_ceDel E _ _ h1 h2) hg_inX1 rfl 5 (by decide) rfl (hg_Uin (List.mem_of_getElem? (i := 107) (by decide +kernel)) (by decide +kernel)) rfl hd hp kk
theorem pf_X3_43 (cx : hg_Cx E p s m args meth c cc nL RX3 ret) {i : Nat} (h1 : 20 ≤ i) (h2 : i < 50) {x : Int32} (hd : decode cc pc = .ok (.putfield 43, 3)) (hp : pc + 3 = pc') (kk : hg_G E p l e R s m args below meth c nL Q (hg_sI σ i 5 x) pc' lv st) : hg_G E p l e R s m args below meth c nL Q σ pc lv (.int x :: .ref (hg_ad E i) :: st) := hg_put (i := i) (ty := .int) cx (by omega) (hg_ceDel E _ _ h1 h2) hg_inX1 tyX1 tyX1_ok nmX1 rfl 5 (by decide) rfl (hg_Uin (List.mem_of_getElem? (i := 107) (by decide +kernel)) (by decide +kernel)) rfl (by decide +kernel) rfl rfl (Nat.le_of_ble_eq_true rfl) ((hg_ceDel E _ _ h1 h2).trans rfl) hd hp kk
theorem gf_X3_62 (cx : hg_Cx E p s m args meth c cc nL RX3 ret) {i : Nat} (h1 : 1 ≤ i) (h2 : i < 4) (hd : decode cc pc = .ok (.getfield 62, 3)) (hp : pc + 3 = pc') (kk : hg_G E p l e R s m args below meth c nL Q σ pc' lv (.int (σ.1 i 5) :: st)) : hg_G E p l e R s m args below meth c nL Q σ pc lv (.ref (hg_ad E i) :: st) := hg_get (i := i) cx (by omega) (hg_ceTab E _ _ h1 h2) hg_inX3 rfl 5 (by decide) rfl (hg_Uin (List.mem_of_getElem? (i := 140) (by decide +kernel)) (by decide +kernel)) rfl hd hp kk
theorem pf_X3_62 (cx : hg_Cx E p s m args meth c cc nL RX3 ret) {i : Nat} (h1 : 1 ≤ i) (h2 : i < 4) {x : Int32} (hd : decode cc pc = .ok (.putfield 62, 3)) (hp : pc + 3 = pc') (kk : hg_G E p l e R s m args below meth c nL Q (hg_sI σ i 5 x) pc' lv st) : hg_G E p l e R s m args below meth c nL Q σ pc lv (.int x :: .ref (hg_ad E i) :: st) := hg_put (i := i) (ty := .int) cx (by omega) (hg_ceTab E _ _ h1 h2) hg_inX3 tyX3 tyX3_ok nmX3 rfl 5 (by decide) rfl (hg_Uin (List.mem_of_getElem? (i := 140) (by decide +kernel)) (by decide +kernel)) rfl (by decide +kernel) rfl rfl (Nat.le_of_ble_eq_true rfl) ((hg_ceTab E _ _ h1 h2).trans rfl) hd hp kk
theorem gf_X3_65 (cx : hg_Cx E p s m args meth c cc nL RX3 ret) {i : Nat} (h1 : 1 ≤ i) (h2 : i < 4) (hd : decode cc pc = .ok (.getfield 65, 3)) (hp : pc + 3 = pc') (kk : hg_G E p l e R s m args below meth c nL Q σ pc' lv (.int (σ.1 i 6) :: st)) : hg_G E p l e R s m args below meth c nL Q σ pc lv (.ref (hg_ad E i) :: st) := hg_get (i := i) cx (by omega) (hg_ceTab E _ _ h1 h2) hg_inX3 rfl 6 (by decide) rfl (hg_Uin (List.mem_of_getElem? (i := 142) (by decide +kernel)) (by decide +kernel)) rfl hd hp kk
theorem pf_X3_65 (cx : hg_Cx E p s m args meth c cc nL RX3 ret) {i : Nat} (h1 : 1 ≤ i) (h2 : i < 4) {x : Int32} (hd : decode cc pc = .ok (.putfield 65, 3)) (hp : pc + 3 = pc') (kk : hg_G E p l e R s m args below meth c nL Q (hg_sI σ i 6 x) pc' lv st) : hg_G E p l e R s m args below meth c nL Q σ pc lv (.int x :: .ref (hg_ad E i) :: st) := hg_put (i := i) (ty := .int) cx (by omega) (hg_ceTab E _ _ h1 h2) hg_inX3 tyX3 tyX3_ok nmX3 rfl 6 (by decide) rfl (hg_Uin (List.mem_of_getElem? (i := 142) (by decide +kernel)) (by decide +kernel)) rfl (by decide +kernel) rfl rfl (Nat.le_of_ble_eq_true rfl) ((hg_ceTab E _ _ h1 h2).trans rfl) hd hp kk
theorem gf_X3_68 (cx : hg_Cx E p s m args meth c cc nL RX3 ret) {i : Nat} (h1 : 20 ≤ i) (h2 : i < 50) (hd : decode cc pc = .ok (.getfield 68, 3)) (hp : pc + 3 = pc') (kk : hg_G E p l e R s m args below meth c nL Q σ pc' lv (.int (σ.1 i 6) :: st)) : hg_G E p l e R s m args below meth c nL Q σ pc lv (.ref (hg_ad E i) :: st) := hg_get (i := i) cx (by omega) (hg_ceDel E _ _ h1 h2) hg_inX1 rfl 6 (by decide) rfl (hg_Uin (List.mem_of_getElem? (i := 109) (by decide +kernel)) (by decide +kernel)) rfl hd hp kk
theorem pf_X3_68 (cx : hg_Cx E p s m args meth c cc nL RX3 ret) {i : Nat} (h1 : 20 ≤ i) (h2 : i < 50) {x : Int32} (hd : decode cc pc = .ok (.putfield 68, 3)) (hp : pc + 3 = pc') (kk : hg_G E p l e R s m args below meth c nL Q (hg_sI σ i 6 x) pc' lv st) : hg_G E p l e R s m args below meth c nL Q σ pc lv (.int x :: .ref (hg_ad E i) :: st) := hg_put (i := i) (ty := .int) cx (by omega) (hg_ceDel E _ _ h1 h2) hg_inX1 tyX1 tyX1_ok nmX1 rfl 6 (by decide) rfl (hg_Uin (List.mem_of_getElem? (i := 109) (by decide +kernel)) (by decide +kernel)) rfl (by decide +kernel) rfl rfl (Nat.le_of_ble_eq_true rfl) ((hg_ceDel E _ _ h1 h2).trans rfl) hd hp kk
theorem gf_X4_9 (cx : hg_Cx E p s m args meth c cc nL RX4 ret) (hd : decode cc pc = .ok (.getfield 9, 3)) (hp : pc + 3 = pc') (kk : hg_G E p l e R s m args below meth c nL Q σ pc' lv (.ref (hg_ad E 8) :: st)) : hg_G E p l e R s m args below meth c nL Q σ pc lv (.ref (hg_ad E 7) :: st) := hg_get (i := 7) cx (by decide) rfl hg_inX4 rfl 0 (by decide) rfl (hg_Uin (List.mem_of_getElem? (i := 164) (by decide +kernel)) (by decide +kernel)) rfl hd hp kk
theorem gf_X4_15 (cx : hg_Cx E p s m args meth c cc nL RX4 ret) (hd : decode cc pc = .ok (.getfield 15, 3)) (hp : pc + 3 = pc') (kk : hg_G E p l e R s m args below meth c nL Q σ pc' lv (.int (σ.1 7 1) :: st)) : hg_G E p l e R s m args below meth c nL Q σ pc lv (.ref (hg_ad E 7) :: st) := hg_get (i := 7) cx (by decide) rfl hg_inX4 rfl 1 (by decide) rfl (hg_Uin (List.mem_of_getElem? (i := 166) (by decide +kernel)) (by decide +kernel)) rfl hd hp kk
theorem pf_X4_15 (cx : hg_Cx E p s m args meth c cc nL RX4 ret) {x : Int32} (hd : decode cc pc = .ok (.putfield 15, 3)) (hp : pc + 3 = pc') (kk : hg_G E p l e R s m args below meth c nL Q (hg_sI σ 7 1 x) pc' lv st) : hg_G E p l e R s m args below meth c nL Q σ pc lv (.int x :: .ref (hg_ad E 7) :: st) := hg_put (i := 7) (ty := .int) cx (by decide) rfl hg_inX4 tyX4 tyX4_ok nmX4 rfl 1 (by decide) rfl (hg_Uin (List.mem_of_getElem? (i := 166) (by decide +kernel)) (by decide +kernel)) rfl (by decide +kernel) rfl rfl (Nat.le_of_ble_eq_true rfl) rfl hd hp kk
theorem gf_X6_9 (cx : hg_Cx E p s m args meth c cc nL RX6 ret) (hd : decode cc pc = .ok (.getfield 9, 3)) (hp : pc + 3 = pc') (kk : hg_G E p l e R s m args below meth c nL Q σ pc' lv (.ref (hg_ad E 51) :: st)) : hg_G E p l e R s m args below meth c nL Q σ pc lv (.ref (hg_ad E 50) :: st) := hg_get (i := 50) cx (by decide) rfl hg_inX6 rfl 0 (by decide) rfl (hg_Uin (List.mem_of_getElem? (i := 714) (by decide +kernel)) (by decide +kernel)) rfl hd hp kk
theorem gf_X6_13 (cx : hg_Cx E p s m args meth c cc nL RX6 ret) (hd : decode cc pc = .ok (.getfield 13, 3)) (hp : pc + 3 = pc') (kk : hg_G E p l e R s m args below meth c nL Q σ pc' lv (.ref (hg_ad E 52) :: st)) : hg_G E p l e R s m args below meth c nL Q σ pc lv (.ref (hg_ad E 50) :: st) := hg_get (i := 50) cx (by decide) rfl hg_inX6 rfl 1 (by decide) rfl (hg_Uin (List.mem_of_getElem? (i := 715) (by decide +kernel)) (by decide +kernel)) rfl hd hp kk
theorem gf_X6_16 (cx : hg_Cx E p s m args meth c cc nL RX6 ret) (hd : decode cc pc = .ok (.getfield 16, 3)) (hp : pc + 3 = pc') (kk : hg_G E p l e R s m args below meth c nL Q σ pc' lv (.ref (hg_ad E 53) :: st)) : hg_G E p l e R s m args below meth c nL Q σ pc lv (.ref (hg_ad E 50) :: st) := hg_get (i := 50) cx (by decide) rfl hg_inX6 rfl 2 (by decide) rfl (hg_Uin (List.mem_of_getElem? (i := 716) (by decide +kernel)) (by decide +kernel)) rfl hd hp kk
theorem gf_X6_19 (cx : hg_Cx E p s m args meth c cc nL RX6 ret) (hd : decode cc pc = .ok (.getfield 19, 3)) (hp : pc + 3 = pc') (kk : hg_G E p l e R s m args below meth c nL Q σ pc' lv (.ref (hg_ad E 54) :: st)) : hg_G E p l e R s m args below meth c nL Q σ pc lv (.ref (hg_ad E 50) :: st) := hg_get (i := 50) cx (by decide) rfl hg_inX6 rfl 4 (by decide) rfl (hg_Uin (List.mem_of_getElem? (i := 718) (by decide +kernel)) (by decide +kernel)) rfl hd hp kk
theorem gf_X6_22 (cx : hg_Cx E p s m args meth c cc nL RX6 ret) (hd : decode cc pc = .ok (.getfield 22, 3)) (hp : pc + 3 = pc') (kk : hg_G E p l e R s m args below meth c nL Q σ pc' lv (.ref (hg_ad E 55) :: st)) : hg_G E p l e R s m args below meth c nL Q σ pc lv (.ref (hg_ad E 50) :: st) := hg_get (i := 50) cx (by decide) rfl hg_inX6 rfl 5 (by decide) rfl (hg_Uin (List.mem_of_getElem? (i := 719) (by decide +kernel)) (by decide +kernel)) rfl hd hp kk
theorem gf_X6_25 (cx : hg_Cx E p s m args meth c cc nL RX6 ret) (hd : decode cc pc = .ok (.getfield 25, 3)) (hp : pc + 3 = pc') (kk : hg_G E p l e R s m args below meth c nL Q σ pc' lv (.ref (hg_ad E 56) :: st)) : hg_G E p l e R s m args below meth c nL Q σ pc lv (.ref (hg_ad E 50) :: st) := hg_get (i := 50) cx (by decide) rfl hg_inX6 rfl 6 (by decide) rfl (hg_Uin (List.mem_of_getElem? (i := 720) (by decide +kernel)) (by decide +kernel)) rfl hd hp kk
theorem gf_X6_28 (cx : hg_Cx E p s m args meth c cc nL RX6 ret) (hd : decode cc pc = .ok (.getfield 28, 3)) (hp : pc + 3 = pc') (kk : hg_G E p l e R s m args below meth c nL Q σ pc' lv (.ref (hg_ad E 57) :: st)) : hg_G E p l e R s m args below meth c nL Q σ pc lv (.ref (hg_ad E 50) :: st) := hg_get (i := 50) cx (by decide) rfl hg_inX6 rfl 13 (by decide) rfl (hg_Uin (List.mem_of_getElem? (i := 727) (by decide +kernel)) (by decide +kernel)) rfl hd hp kk
theorem gf_X6_31 (cx : hg_Cx E p s m args meth c cc nL RX6 ret) (hd : decode cc pc = .ok (.getfield 31, 3)) (hp : pc + 3 = pc') (kk : hg_G E p l e R s m args below meth c nL Q σ pc' lv (.ref (hg_ad E 58) :: st)) : hg_G E p l e R s m args below meth c nL Q σ pc lv (.ref (hg_ad E 50) :: st) := hg_get (i := 50) cx (by decide) rfl hg_inX6 rfl 14 (by decide) rfl (hg_Uin (List.mem_of_getElem? (i := 728) (by decide +kernel)) (by decide +kernel)) rfl hd hp kk
theorem gf_X6_34 (cx : hg_Cx E p s m args meth c cc nL RX6 ret) (hd : decode cc pc = .ok (.getfield 34, 3)) (hp : pc + 3 = pc') (kk : hg_G E p l e R s m args below meth c nL Q σ pc' lv (.ref (hg_ad E 59) :: st)) : hg_G E p l e R s m args below meth c nL Q σ pc lv (.ref (hg_ad E 50) :: st) := hg_get (i := 50) cx (by decide) rfl hg_inX6 rfl 15 (by decide) rfl (hg_Uin (List.mem_of_getElem? (i := 729) (by decide +kernel)) (by decide +kernel)) rfl hd hp kk
theorem gf_X6_147 (cx : hg_Cx E p s m args meth c cc nL RX6 ret) (hd : decode cc pc = .ok (.getfield 147, 3)) (hp : pc + 3 = pc') (kk : hg_G E p l e R s m args below meth c nL Q σ pc' lv (.int (σ.1 50 7) :: st)) : hg_G E p l e R s m args below meth c nL Q σ pc lv (.ref (hg_ad E 50) :: st) := hg_get (i := 50) cx (by decide) rfl hg_inX6 rfl 7 (by decide) rfl (hg_Uin (List.mem_of_getElem? (i := 721) (by decide +kernel)) (by decide +kernel)) rfl hd hp kk
theorem pf_X6_147 (cx : hg_Cx E p s m args meth c cc nL RX6 ret) {x : Int32} (hd : decode cc pc = .ok (.putfield 147, 3)) (hp : pc + 3 = pc') (kk : hg_G E p l e R s m args below meth c nL Q (hg_sI σ 50 7 x) pc' lv st) : hg_G E p l e R s m args below meth c nL Q σ pc lv (.int x :: .ref (hg_ad E 50) :: st) := hg_put (i := 50) (ty := .int) cx (by decide) rfl hg_inX6 tyX6 tyX6_ok nmX6 rfl 7 (by decide) rfl (hg_Uin (List.mem_of_getElem? (i := 721) (by decide +kernel)) (by decide +kernel)) rfl (by decide +kernel) rfl rfl (Nat.le_of_ble_eq_true rfl) rfl hd hp kk
theorem gf_X6_154 (cx : hg_Cx E p s m args meth c cc nL RX6 ret) (hd : decode cc pc = .ok (.getfield 154, 3)) (hp : pc + 3 = pc') (kk : hg_G E p l e R s m args below meth c nL Q σ pc' lv (.int (σ.1 50 9) :: st)) : hg_G E p l e R s m args below meth c nL Q σ pc lv (.ref (hg_ad E 50) :: st) := hg_get (i := 50) cx (by decide) rfl hg_inX6 rfl 9 (by decide) rfl (hg_Uin (List.mem_of_getElem? (i := 723) (by decide +kernel)) (by decide +kernel)) rfl hd hp kk
theorem pf_X6_154 (cx : hg_Cx E p s m args meth c cc nL RX6 ret) {x : Int32} (hd : decode cc pc = .ok (.putfield 154, 3)) (hp : pc + 3 = pc') (kk : hg_G E p l e R s m args below meth c nL Q (hg_sI σ 50 9 x) pc' lv st) : hg_G E p l e R s m args below meth c nL Q σ pc lv (.int x :: .ref (hg_ad E 50) :: st) := hg_put (i := 50) (ty := .int) cx (by decide) rfl hg_inX6 tyX6 tyX6_ok nmX6 rfl 9 (by decide) rfl (hg_Uin (List.mem_of_getElem? (i := 723) (by decide +kernel)) (by decide +kernel)) rfl (by decide +kernel) rfl rfl (Nat.le_of_ble_eq_true rfl) rfl hd hp kk
theorem gf_X6_157 (cx : hg_Cx E p s m args meth c cc nL RX6 ret) (hd : decode cc pc = .ok (.getfield 157, 3)) (hp : pc + 3 = pc') (kk : hg_G E p l e R s m args below meth c nL Q σ pc' lv (.int (σ.1 50 10) :: st)) : hg_G E p l e R s m args below meth c nL Q σ pc lv (.ref (hg_ad E 50) :: st) := hg_get (i := 50) cx (by decide) rfl hg_inX6 rfl 10 (by decide) rfl (hg_Uin (List.mem_of_getElem? (i := 724) (by decide +kernel)) (by decide +kernel)) rfl hd hp kk
theorem pf_X6_157 (cx : hg_Cx E p s m args meth c cc nL RX6 ret) {x : Int32} (hd : decode cc pc = .ok (.putfield 157, 3)) (hp : pc + 3 = pc') (kk : hg_G E p l e R s m args below meth c nL Q (hg_sI σ 50 10 x) pc' lv st) : hg_G E p l e R s m args below meth c nL Q σ pc lv (.int x :: .ref (hg_ad E 50) :: st) := hg_put (i := 50) (ty := .int) cx (by decide) rfl hg_inX6 tyX6 tyX6_ok nmX6 rfl 10 (by decide) rfl (hg_Uin (List.mem_of_getElem? (i := 724) (by decide +kernel)) (by decide +kernel)) rfl (by decide +kernel) rfl rfl (Nat.le_of_ble_eq_true rfl) rfl hd hp kk
theorem gf_X6_168 (cx : hg_Cx E p s m args meth c cc nL RX6 ret) (hd : decode cc pc = .ok (.getfield 168, 3)) (hp : pc + 3 = pc') (kk : hg_G E p l e R s m args below meth c nL Q σ pc' lv (.int (σ.1 50 11) :: st)) : hg_G E p l e R s m args below meth c nL Q σ pc lv (.ref (hg_ad E 50) :: st) := hg_get (i := 50) cx (by decide) rfl hg_inX6 rfl 11 (by decide) rfl (hg_Uin (List.mem_of_getElem? (i := 725) (by decide +kernel)) (by decide +kernel)) rfl hd hp kk
theorem pf_X6_168 (cx : hg_Cx E p s m args meth c cc nL RX6 ret) {x : Int32} (hd : decode cc pc = .ok (.putfield 168, 3)) (hp : pc + 3 = pc') (kk : hg_G E p l e R s m args below meth c nL Q (hg_sI σ 50 11 x) pc' lv st) : hg_G E p l e R s m args below meth c nL Q σ pc lv (.int x :: .ref (hg_ad E 50) :: st) := hg_put (i := 50) (ty := .int) cx (by decide) rfl hg_inX6 tyX6 tyX6_ok nmX6 rfl 11 (by decide) rfl (hg_Uin (List.mem_of_getElem? (i := 725) (by decide +kernel)) (by decide +kernel)) rfl (by decide +kernel) rfl rfl (Nat.le_of_ble_eq_true rfl) rfl hd hp kk
theorem gf_X6_171 (cx : hg_Cx E p s m args meth c cc nL RX6 ret) (hd : decode cc pc = .ok (.getfield 171, 3)) (hp : pc + 3 = pc') (kk : hg_G E p l e R s m args below meth c nL Q σ pc' lv (.int (σ.1 50 8) :: st)) : hg_G E p l e R s m args below meth c nL Q σ pc lv (.ref (hg_ad E 50) :: st) := hg_get (i := 50) cx (by decide) rfl hg_inX6 rfl 8 (by decide) rfl (hg_Uin (List.mem_of_getElem? (i := 722) (by decide +kernel)) (by decide +kernel)) rfl hd hp kk
theorem pf_X6_171 (cx : hg_Cx E p s m args meth c cc nL RX6 ret) {x : Int32} (hd : decode cc pc = .ok (.putfield 171, 3)) (hp : pc + 3 = pc') (kk : hg_G E p l e R s m args below meth c nL Q (hg_sI σ 50 8 x) pc' lv st) : hg_G E p l e R s m args below meth c nL Q σ pc lv (.int x :: .ref (hg_ad E 50) :: st) := hg_put (i := 50) (ty := .int) cx (by decide) rfl hg_inX6 tyX6 tyX6_ok nmX6 rfl 8 (by decide) rfl (hg_Uin (List.mem_of_getElem? (i := 722) (by decide +kernel)) (by decide +kernel)) rfl (by decide +kernel) rfl rfl (Nat.le_of_ble_eq_true rfl) rfl hd hp kk
theorem gf_X6_177 (cx : hg_Cx E p s m args meth c cc nL RX6 ret) (hd : decode cc pc = .ok (.getfield 177, 3)) (hp : pc + 3 = pc') (kk : hg_G E p l e R s m args below meth c nL Q σ pc' lv (.int (σ.1 50 12) :: st)) : hg_G E p l e R s m args below meth c nL Q σ pc lv (.ref (hg_ad E 50) :: st) := hg_get (i := 50) cx (by decide) rfl hg_inX6 rfl 12 (by decide) rfl (hg_Uin (List.mem_of_getElem? (i := 726) (by decide +kernel)) (by decide +kernel)) rfl hd hp kk
theorem pf_X6_177 (cx : hg_Cx E p s m args meth c cc nL RX6 ret) {x : Int32} (hz : narrow .boolean (.int x) = .int x ∧ fits .boolean (.int x) = true) (hd : decode cc pc = .ok (.putfield 177, 3)) (hp : pc + 3 = pc') (kk : hg_G E p l e R s m args below meth c nL Q (hg_sI σ 50 12 x) pc' lv st) : hg_G E p l e R s m args below meth c nL Q σ pc lv (.int x :: .ref (hg_ad E 50) :: st) := hg_put (i := 50) (ty := .boolean) cx (by decide) rfl hg_inX6 tyX6 tyX6_ok nmX6 rfl 12 (by decide) rfl (hg_Uin (List.mem_of_getElem? (i := 726) (by decide +kernel)) (by decide +kernel)) rfl (by decide +kernel) hz.1 hz.2 (Nat.le_of_ble_eq_true rfl) rfl hd hp kk
theorem gf_X6_224 (cx : hg_Cx E p s m args meth c cc nL RX6 ret) (hd : decode cc pc = .ok (.getfield 224, 3)) (hp : pc + 3 = pc') (kk : hg_G E p l e R s m args below meth c nL Q σ pc' lv (.int (σ.1 50 3) :: st)) : hg_G E p l e R s m args below meth c nL Q σ pc lv (.ref (hg_ad E 50) :: st) := hg_get (i := 50) cx (by decide) rfl hg_inX6 rfl 3 (by decide) rfl (hg_Uin (List.mem_of_getElem? (i := 717) (by decide +kernel)) (by decide +kernel)) rfl hd hp kk
theorem pf_X6_224 (cx : hg_Cx E p s m args meth c cc nL RX6 ret) {x : Int32} (hz : narrow .boolean (.int x) = .int x ∧ fits .boolean (.int x) = true) (hd : decode cc pc = .ok (.putfield 224, 3)) (hp : pc + 3 = pc') (kk : hg_G E p l e R s m args below meth c nL Q (hg_sI σ 50 3 x) pc' lv st) : hg_G E p l e R s m args below meth c nL Q σ pc lv (.int x :: .ref (hg_ad E 50) :: st) := hg_put (i := 50) (ty := .boolean) cx (by decide) rfl hg_inX6 tyX6 tyX6_ok nmX6 rfl 3 (by decide) rfl (hg_Uin (List.mem_of_getElem? (i := 717) (by decide +kernel)) (by decide +kernel)) rfl (by decide +kernel) hz.1 hz.2 (Nat.le_of_ble_eq_true rfl) rfl hd hp kk
theorem lk_X5_49 : hg_Lk RX5 49 yX5_outside cX5_outside 3 (some .boolean) 3 := ⟨(hg_Uin (List.mem_of_getElem? (i := 250) (by decide +kernel)) (by decide +kernel)), (hg_Uin (List.mem_of_getElem? (i := 252) (by decide +kernel)) (by decide +kernel)), (hg_Uin (List.mem_of_getElem? (i := 57) (by decide +kernel)) (by decide +kernel)), by decide +kernel⟩
theorem se_X5_outside : Cond.static yX5_outside ∈ hg_U := (hg_Uin (List.mem_of_getElem? (i := 251) (by decide +kernel)) (by decide +kernel))
theorem cs_X5_49 (cx : hg_Cx E p s m args meth c cc nL RX5 ret) {rm : Room} {v0 v1 v2 : Value} {f : Int32 → hg_Mem → Prop} (K : hg_C l E yX5_outside cX5_outside 3 (some .boolean) rm [v0, v1, v2] σ (hg_pi f)) (hrm : rm.cells = 0 ∧ rm.slots = 0 ∧ rm.frames + 1 ≤ R.frames ∧ 8 + (3 + 11) + rm.locals ≤ R.locals) (hcat : (st.map fun v => v.category).sum ≤ 8) (hd : decode cc pc = .ok (.invokestatic 49, 3)) (hp : pc + 3 = pc') (kk : ∀ r τ, f r τ → hg_G E p l e R s m args below meth c nL Q τ pc' lv (.int r :: st)) : hg_G E p l e R s m args below meth c nL Q σ pc lv (v2 :: v1 :: v0 :: st) := hg_callS cx lk_X5_49 se_X5_outside K hrm rfl rfl hcat hd hp (hg_kI kk)
theorem lk_X5_54 : hg_Lk RX5 54 yX5_finding cX5_finding 3 (some .int) 1 := ⟨(hg_Uin (List.mem_of_getElem? (i := 254) (by decide +kernel)) (by decide +kernel)), (hg_Uin (List.mem_of_getElem? (i := 257) (by decide +kernel)) (by decide +kernel)), (hg_Uin (List.mem_of_getElem? (i := 57) (by decide +kernel)) (by decide +kernel)), by decide +kernel⟩
theorem se_X5_finding : Cond.instanceMethod yX5_finding ∈ hg_U ∧ Cond.selects yX5_finding.cls yX5_finding yX5_finding ∈ hg_U := ⟨(hg_Uin (List.mem_of_getElem? (i := 256) (by decide +kernel)) (by decide +kernel)), (hg_Uin (List.mem_of_getElem? (i := 0) (by decide +kernel)) (by decide +kernel))⟩
theorem cv_X5_54 (cx : hg_Cx E p s m args meth c cc nL RX5 ret) {rm : Room} {v0 : Value} {f : Int32 → hg_Mem → Prop} (K : hg_C l E yX5_finding cX5_finding 3 (some .int) rm [.ref (hg_ad E 0), v0] σ (hg_pi f)) (hrm : rm.cells = 0 ∧ rm.slots = 0 ∧ rm.frames + 1 ≤ R.frames ∧ 8 + (3 + 11) + rm.locals ≤ R.locals) (hcat : (st.map fun v => v.category).sum ≤ 8) (hd : decode cc pc = .ok (.invokevirtual 54, 3)) (hp : pc + 3 = pc') (kk : ∀ r τ, f r τ → hg_G E p l e R s m args below meth c nL Q τ pc' lv (.int r :: st)) : hg_G E p l e R s m args below meth c nL Q σ pc lv (v0 :: .ref (hg_ad E 0) :: st) := hg_callV (i := 0) cx lk_X5_54 se_X5_finding K hrm (by decide) rfl rfl rfl rfl rfl hcat hd hp (hg_kI kk)
theorem lk_X5_68 : hg_Lk RX5 68 yX3_question cX3_question 1 (some .int) 0 := ⟨(hg_Uin (List.mem_of_getElem? (i := 262) (by decide +kernel)) (by decide +kernel)), (hg_Uin (List.mem_of_getElem? (i := 265) (by decide +kernel)) (by decide +kernel)), (hg_Uin (List.mem_of_getElem? (i := 58) (by decide +kernel)) (by decide +kernel)), by decide +kernel⟩
theorem se_X3_question : Cond.instanceMethod yX3_question ∈ hg_U ∧ Cond.selects yX3_question.cls yX3_question yX3_question ∈ hg_U := ⟨(hg_Uin (List.mem_of_getElem? (i := 263) (by decide +kernel)) (by decide +kernel)), (hg_Uin (List.mem_of_getElem? (i := 264) (by decide +kernel)) (by decide +kernel))⟩
theorem cv_X5_68 (cx : hg_Cx E p s m args meth c cc nL RX5 ret) {i : Nat} (h1 : 1 ≤ i) (h2 : i < 4) {rm : Room} {f : Int32 → hg_Mem → Prop} (K : hg_C l E yX3_question cX3_question 1 (some .int) rm [.ref (hg_ad E i)] σ (hg_pi f)) (hrm : rm.cells = 0 ∧ rm.slots = 0 ∧ rm.frames + 1 ≤ R.frames ∧ 8 + (1 + 11) + rm.locals ≤ R.locals) (hcat : (st.map fun v => v.category).sum ≤ 8) (hd : decode cc pc = .ok (.invokevirtual 68, 3)) (hp : pc + 3 = pc') (kk : ∀ r τ, f r τ → hg_G E p l e R s m args below meth c nL Q τ pc' lv (.int r :: st)) : hg_G E p l e R s m args below meth c nL Q σ pc lv (.ref (hg_ad E i) :: st) := hg_callV (i := i) cx lk_X5_68 se_X3_question K hrm (by omega) (hg_ceTab E _ _ h1 h2) rfl rfl rfl rfl hcat hd hp (hg_kI kk)
theorem lk_X5_72 : hg_Lk RX5 72 yX3_ask cX3_ask 4 none 0 := ⟨(hg_Uin (List.mem_of_getElem? (i := 266) (by decide +kernel)) (by decide +kernel)), (hg_Uin (List.mem_of_getElem? (i := 269) (by decide +kernel)) (by decide +kernel)), (hg_Uin (List.mem_of_getElem? (i := 58) (by decide +kernel)) (by decide +kernel)), by decide +kernel⟩
theorem se_X3_ask : Cond.instanceMethod yX3_ask ∈ hg_U ∧ Cond.selects yX3_ask.cls yX3_ask yX3_ask ∈ hg_U := ⟨(hg_Uin (List.mem_of_getElem? (i := 267) (by decide +kernel)) (by decide +kernel)), (hg_Uin (List.mem_of_getElem? (i := 268) (by decide +kernel)) (by decide +kernel))⟩
theorem cv_X5_72 (cx : hg_Cx E p s m args meth c cc nL RX5 ret) {i : Nat} (h1 : 1 ≤ i) (h2 : i < 4) {rm : Room} {f : hg_Mem → Prop} (K : hg_C l E yX3_ask cX3_ask 4 none rm [.ref (hg_ad E i)] σ (hg_pv f)) (hrm : rm.cells = 0 ∧ rm.slots = 0 ∧ rm.frames + 1 ≤ R.frames ∧ 8 + (4 + 11) + rm.locals ≤ R.locals) (hcat : (st.map fun v => v.category).sum ≤ 8) (hd : decode cc pc = .ok (.invokevirtual 72, 3)) (hp : pc + 3 = pc') (kk : ∀ τ, f τ → hg_G E p l e R s m args below meth c nL Q τ pc' lv st) : hg_G E p l e R s m args below meth c nL Q σ pc lv (.ref (hg_ad E i) :: st) := hg_callV (i := i) cx lk_X5_72 se_X3_ask K hrm (by omega) (hg_ceTab E _ _ h1 h2) rfl rfl rfl rfl hcat hd hp (hg_kV kk)
theorem lk_X5_81 : hg_Lk RX5 81 yX3_hatsOn cX3_hatsOn 3 (some .int) 0 := ⟨(hg_Uin (List.mem_of_getElem? (i := 290) (by decide +kernel)) (by decide +kernel)), (hg_Uin (List.mem_of_getElem? (i := 293) (by decide +kernel)) (by decide +kernel)), (hg_Uin (List.mem_of_getElem? (i := 58) (by decide +kernel)) (by decide +kernel)), by decide +kernel⟩
theorem se_X3_hatsOn : Cond.instanceMethod yX3_hatsOn ∈ hg_U ∧ Cond.selects yX3_hatsOn.cls yX3_hatsOn yX3_hatsOn ∈ hg_U := ⟨(hg_Uin (List.mem_of_getElem? (i := 291) (by decide +kernel)) (by decide +kernel)), (hg_Uin (List.mem_of_getElem? (i := 292) (by decide +kernel)) (by decide +kernel))⟩
theorem cv_X5_81 (cx : hg_Cx E p s m args meth c cc nL RX5 ret) {i : Nat} (h1 : 1 ≤ i) (h2 : i < 4) {rm : Room} {f : Int32 → hg_Mem → Prop} (K : hg_C l E yX3_hatsOn cX3_hatsOn 3 (some .int) rm [.ref (hg_ad E i)] σ (hg_pi f)) (hrm : rm.cells = 0 ∧ rm.slots = 0 ∧ rm.frames + 1 ≤ R.frames ∧ 8 + (3 + 11) + rm.locals ≤ R.locals) (hcat : (st.map fun v => v.category).sum ≤ 8) (hd : decode cc pc = .ok (.invokevirtual 81, 3)) (hp : pc + 3 = pc') (kk : ∀ r τ, f r τ → hg_G E p l e R s m args below meth c nL Q τ pc' lv (.int r :: st)) : hg_G E p l e R s m args below meth c nL Q σ pc lv (.ref (hg_ad E i) :: st) := hg_callV (i := i) cx lk_X5_81 se_X3_hatsOn K hrm (by omega) (hg_ceTab E _ _ h1 h2) rfl rfl rfl rfl hcat hd hp (hg_kI kk)
theorem lk_X5_84 : hg_Lk RX5 84 yX3_trueOnes cX3_trueOnes 1 (some .int) 0 := ⟨(hg_Uin (List.mem_of_getElem? (i := 294) (by decide +kernel)) (by decide +kernel)), (hg_Uin (List.mem_of_getElem? (i := 297) (by decide +kernel)) (by decide +kernel)), (hg_Uin (List.mem_of_getElem? (i := 58) (by decide +kernel)) (by decide +kernel)), by decide +kernel⟩
theorem se_X3_trueOnes : Cond.instanceMethod yX3_trueOnes ∈ hg_U ∧ Cond.selects yX3_trueOnes.cls yX3_trueOnes yX3_trueOnes ∈ hg_U := ⟨(hg_Uin (List.mem_of_getElem? (i := 295) (by decide +kernel)) (by decide +kernel)), (hg_Uin (List.mem_of_getElem? (i := 296) (by decide +kernel)) (by decide +kernel))⟩
theorem cv_X5_84 (cx : hg_Cx E p s m args meth c cc nL RX5 ret) {i : Nat} (h1 : 1 ≤ i) (h2 : i < 4) {rm : Room} {f : Int32 → hg_Mem → Prop} (K : hg_C l E yX3_trueOnes cX3_trueOnes 1 (some .int) rm [.ref (hg_ad E i)] σ (hg_pi f)) (hrm : rm.cells = 0 ∧ rm.slots = 0 ∧ rm.frames + 1 ≤ R.frames ∧ 8 + (1 + 11) + rm.locals ≤ R.locals) (hcat : (st.map fun v => v.category).sum ≤ 8) (hd : decode cc pc = .ok (.invokevirtual 84, 3)) (hp : pc + 3 = pc') (kk : ∀ r τ, f r τ → hg_G E p l e R s m args below meth c nL Q τ pc' lv (.int r :: st)) : hg_G E p l e R s m args below meth c nL Q σ pc lv (.ref (hg_ad E i) :: st) := hg_callV (i := i) cx lk_X5_84 se_X3_trueOnes K hrm (by omega) (hg_ceTab E _ _ h1 h2) rfl rfl rfl rfl hcat hd hp (hg_kI kk)
theorem lk_X5_87 : hg_Lk RX5 87 yX3_isFull cX3_isFull 1 (some .boolean) 0 := ⟨(hg_Uin (List.mem_of_getElem? (i := 302) (by decide +kernel)) (by decide +kernel)), (hg_Uin (List.mem_of_getElem? (i := 305) (by decide +kernel)) (by decide +kernel)), (hg_Uin (List.mem_of_getElem? (i := 58) (by decide +kernel)) (by decide +kernel)), by decide +kernel⟩
theorem se_X3_isFull : Cond.instanceMethod yX3_isFull ∈ hg_U ∧ Cond.selects yX3_isFull.cls yX3_isFull yX3_isFull ∈ hg_U := ⟨(hg_Uin (List.mem_of_getElem? (i := 303) (by decide +kernel)) (by decide +kernel)), (hg_Uin (List.mem_of_getElem? (i := 304) (by decide +kernel)) (by decide +kernel))⟩
theorem cv_X5_87 (cx : hg_Cx E p s m args meth c cc nL RX5 ret) {i : Nat} (h1 : 1 ≤ i) (h2 : i < 4) {rm : Room} {f : Int32 → hg_Mem → Prop} (K : hg_C l E yX3_isFull cX3_isFull 1 (some .boolean) rm [.ref (hg_ad E i)] σ (hg_pi f)) (hrm : rm.cells = 0 ∧ rm.slots = 0 ∧ rm.frames + 1 ≤ R.frames ∧ 8 + (1 + 11) + rm.locals ≤ R.locals) (hcat : (st.map fun v => v.category).sum ≤ 8) (hd : decode cc pc = .ok (.invokevirtual 87, 3)) (hp : pc + 3 = pc') (kk : ∀ r τ, f r τ → hg_G E p l e R s m args below meth c nL Q τ pc' lv (.int r :: st)) : hg_G E p l e R s m args below meth c nL Q σ pc lv (.ref (hg_ad E i) :: st) := hg_callV (i := i) cx lk_X5_87 se_X3_isFull K hrm (by omega) (hg_ceTab E _ _ h1 h2) rfl rfl rfl rfl hcat hd hp (hg_kI kk)
theorem lk_X5_92 : hg_Lk RX5 92 yX3_add cX3_add 3 none 2 := ⟨(hg_Uin (List.mem_of_getElem? (i := 307) (by decide +kernel)) (by decide +kernel)), (hg_Uin (List.mem_of_getElem? (i := 310) (by decide +kernel)) (by decide +kernel)), (hg_Uin (List.mem_of_getElem? (i := 58) (by decide +kernel)) (by decide +kernel)), by decide +kernel⟩
theorem se_X3_add : Cond.instanceMethod yX3_add ∈ hg_U ∧ Cond.selects yX3_add.cls yX3_add yX3_add ∈ hg_U := ⟨(hg_Uin (List.mem_of_getElem? (i := 308) (by decide +kernel)) (by decide +kernel)), (hg_Uin (List.mem_of_getElem? (i := 309) (by decide +kernel)) (by decide +kernel))⟩
theorem cv_X5_92 (cx : hg_Cx E p s m args meth c cc nL RX5 ret) {i : Nat} (h1 : 1 ≤ i) (h2 : i < 4) {rm : Room} {v0 v1 : Value} {f : hg_Mem → Prop} (K : hg_C l E yX3_add cX3_add 3 none rm [.ref (hg_ad E i), v0, v1] σ (hg_pv f)) (hrm : rm.cells = 0 ∧ rm.slots = 0 ∧ rm.frames + 1 ≤ R.frames ∧ 8 + (3 + 11) + rm.locals ≤ R.locals) (hcat : (st.map fun v => v.category).sum ≤ 8) (hd : decode cc pc = .ok (.invokevirtual 92, 3)) (hp : pc + 3 = pc') (kk : ∀ τ, f τ → hg_G E p l e R s m args below meth c nL Q τ pc' lv st) : hg_G E p l e R s m args below meth c nL Q σ pc lv (v1 :: v0 :: .ref (hg_ad E i) :: st) := hg_callV (i := i) cx lk_X5_92 se_X3_add K hrm (by omega) (hg_ceTab E _ _ h1 h2) rfl rfl rfl rfl hcat hd hp (hg_kV kk)
theorem lk_X5_99 : hg_Lk RX5 99 yX3_has cX3_has 2 (some .boolean) 1 := ⟨(hg_Uin (List.mem_of_getElem? (i := 320) (by decide +kernel)) (by decide +kernel)), (hg_Uin (List.mem_of_getElem? (i := 323) (by decide +kernel)) (by decide +kernel)), (hg_Uin (List.mem_of_getElem? (i := 58) (by decide +kernel)) (by decide +kernel)), by decide +kernel⟩
theorem se_X3_has : Cond.instanceMethod yX3_has ∈ hg_U ∧ Cond.selects yX3_has.cls yX3_has yX3_has ∈ hg_U := ⟨(hg_Uin (List.mem_of_getElem? (i := 321) (by decide +kernel)) (by decide +kernel)), (hg_Uin (List.mem_of_getElem? (i := 322) (by decide +kernel)) (by decide +kernel))⟩
theorem cv_X5_99 (cx : hg_Cx E p s m args meth c cc nL RX5 ret) {i : Nat} (h1 : 1 ≤ i) (h2 : i < 4) {rm : Room} {v0 : Value} {f : Int32 → hg_Mem → Prop} (K : hg_C l E yX3_has cX3_has 2 (some .boolean) rm [.ref (hg_ad E i), v0] σ (hg_pi f)) (hrm : rm.cells = 0 ∧ rm.slots = 0 ∧ rm.frames + 1 ≤ R.frames ∧ 8 + (2 + 11) + rm.locals ≤ R.locals) (hcat : (st.map fun v => v.category).sum ≤ 8) (hd : decode cc pc = .ok (.invokevirtual 99, 3)) (hp : pc + 3 = pc') (kk : ∀ r τ, f r τ → hg_G E p l e R s m args below meth c nL Q τ pc' lv (.int r :: st)) : hg_G E p l e R s m args below meth c nL Q σ pc lv (v0 :: .ref (hg_ad E i) :: st) := hg_callV (i := i) cx lk_X5_99 se_X3_has K hrm (by omega) (hg_ceTab E _ _ h1 h2) rfl rfl rfl rfl hcat hd hp (hg_kI kk)
theorem lk_X5_107 : hg_Lk RX5 107 yX1_weight cX1_weight 2 (some .int) 1 := ⟨(hg_Uin (List.mem_of_getElem? (i := 324) (by decide +kernel)) (by decide +kernel)), (hg_Uin (List.mem_of_getElem? (i := 289) (by decide +kernel)) (by decide +kernel)), (hg_Uin (List.mem_of_getElem? (i := 59) (by decide +kernel)) (by decide +kernel)), by decide +kernel⟩
theorem se_X1_weight : Cond.instanceMethod yX1_weight ∈ hg_U ∧ Cond.selects yX1_weight.cls yX1_weight yX1_weight ∈ hg_U := ⟨(hg_Uin (List.mem_of_getElem? (i := 287) (by decide +kernel)) (by decide +kernel)), (hg_Uin (List.mem_of_getElem? (i := 288) (by decide +kernel)) (by decide +kernel))⟩
theorem cv_X5_107 (cx : hg_Cx E p s m args meth c cc nL RX5 ret) {i : Nat} (h1 : 20 ≤ i) (h2 : i < 50) {rm : Room} {v0 : Value} {f : Int32 → hg_Mem → Prop} (K : hg_C l E yX1_weight cX1_weight 2 (some .int) rm [.ref (hg_ad E i), v0] σ (hg_pi f)) (hrm : rm.cells = 0 ∧ rm.slots = 0 ∧ rm.frames + 1 ≤ R.frames ∧ 8 + (2 + 11) + rm.locals ≤ R.locals) (hcat : (st.map fun v => v.category).sum ≤ 8) (hd : decode cc pc = .ok (.invokevirtual 107, 3)) (hp : pc + 3 = pc') (kk : ∀ r τ, f r τ → hg_G E p l e R s m args below meth c nL Q τ pc' lv (.int r :: st)) : hg_G E p l e R s m args below meth c nL Q σ pc lv (v0 :: .ref (hg_ad E i) :: st) := hg_callV (i := i) cx lk_X5_107 se_X1_weight K hrm (by omega) (hg_ceDel E _ _ h1 h2) rfl rfl rfl rfl hcat hd hp (hg_kI kk)
theorem lk_X5_112 : hg_Lk RX5 112 yX1_isLearning cX1_isLearning 2 (some .boolean) 1 := ⟨(hg_Uin (List.mem_of_getElem? (i := 325) (by decide +kernel)) (by decide +kernel)), (hg_Uin (List.mem_of_getElem? (i := 328) (by decide +kernel)) (by decide +kernel)), (hg_Uin (List.mem_of_getElem? (i := 59) (by decide +kernel)) (by decide +kernel)), by decide +kernel⟩
theorem se_X1_isLearning : Cond.instanceMethod yX1_isLearning ∈ hg_U ∧ Cond.selects yX1_isLearning.cls yX1_isLearning yX1_isLearning ∈ hg_U := ⟨(hg_Uin (List.mem_of_getElem? (i := 326) (by decide +kernel)) (by decide +kernel)), (hg_Uin (List.mem_of_getElem? (i := 327) (by decide +kernel)) (by decide +kernel))⟩
theorem cv_X5_112 (cx : hg_Cx E p s m args meth c cc nL RX5 ret) {i : Nat} (h1 : 20 ≤ i) (h2 : i < 50) {rm : Room} {v0 : Value} {f : Int32 → hg_Mem → Prop} (K : hg_C l E yX1_isLearning cX1_isLearning 2 (some .boolean) rm [.ref (hg_ad E i), v0] σ (hg_pi f)) (hrm : rm.cells = 0 ∧ rm.slots = 0 ∧ rm.frames + 1 ≤ R.frames ∧ 8 + (2 + 11) + rm.locals ≤ R.locals) (hcat : (st.map fun v => v.category).sum ≤ 8) (hd : decode cc pc = .ok (.invokevirtual 112, 3)) (hp : pc + 3 = pc') (kk : ∀ r τ, f r τ → hg_G E p l e R s m args below meth c nL Q τ pc' lv (.int r :: st)) : hg_G E p l e R s m args below meth c nL Q σ pc lv (v0 :: .ref (hg_ad E i) :: st) := hg_callV (i := i) cx lk_X5_112 se_X1_isLearning K hrm (by omega) (hg_ceDel E _ _ h1 h2) rfl rfl rfl rfl hcat hd hp (hg_kI kk)
theorem lk_X5_115 : hg_Lk RX5 115 yX1_stir cX1_stir 1 (some .int) 0 := ⟨(hg_Uin (List.mem_of_getElem? (i := 329) (by decide +kernel)) (by decide +kernel)), (hg_Uin (List.mem_of_getElem? (i := 332) (by decide +kernel)) (by decide +kernel)), (hg_Uin (List.mem_of_getElem? (i := 59) (by decide +kernel)) (by decide +kernel)), by decide +kernel⟩
theorem se_X1_stir : Cond.instanceMethod yX1_stir ∈ hg_U ∧ Cond.selects yX1_stir.cls yX1_stir yX1_stir ∈ hg_U := ⟨(hg_Uin (List.mem_of_getElem? (i := 330) (by decide +kernel)) (by decide +kernel)), (hg_Uin (List.mem_of_getElem? (i := 331) (by decide +kernel)) (by decide +kernel))⟩
theorem cv_X5_115 (cx : hg_Cx E p s m args meth c cc nL RX5 ret) {i : Nat} (h1 : 20 ≤ i) (h2 : i < 50) {rm : Room} {f : Int32 → hg_Mem → Prop} (K : hg_C l E yX1_stir cX1_stir 1 (some .int) rm [.ref (hg_ad E i)] σ (hg_pi f)) (hrm : rm.cells = 0 ∧ rm.slots = 0 ∧ rm.frames + 1 ≤ R.frames ∧ 8 + (1 + 11) + rm.locals ≤ R.locals) (hcat : (st.map fun v => v.category).sum ≤ 8) (hd : decode cc pc = .ok (.invokevirtual 115, 3)) (hp : pc + 3 = pc') (kk : ∀ r τ, f r τ → hg_G E p l e R s m args below meth c nL Q τ pc' lv (.int r :: st)) : hg_G E p l e R s m args below meth c nL Q σ pc lv (.ref (hg_ad E i) :: st) := hg_callV (i := i) cx lk_X5_115 se_X1_stir K hrm (by omega) (hg_ceDel E _ _ h1 h2) rfl rfl rfl rfl hcat hd hp (hg_kI kk)
theorem lk_X5_118 : hg_Lk RX5 118 yX1_trait cX1_trait 2 (some .int) 1 := ⟨(hg_Uin (List.mem_of_getElem? (i := 333) (by decide +kernel)) (by decide +kernel)), (hg_Uin (List.mem_of_getElem? (i := 336) (by decide +kernel)) (by decide +kernel)), (hg_Uin (List.mem_of_getElem? (i := 59) (by decide +kernel)) (by decide +kernel)), by decide +kernel⟩
theorem se_X1_trait : Cond.instanceMethod yX1_trait ∈ hg_U ∧ Cond.selects yX1_trait.cls yX1_trait yX1_trait ∈ hg_U := ⟨(hg_Uin (List.mem_of_getElem? (i := 334) (by decide +kernel)) (by decide +kernel)), (hg_Uin (List.mem_of_getElem? (i := 335) (by decide +kernel)) (by decide +kernel))⟩
theorem cv_X5_118 (cx : hg_Cx E p s m args meth c cc nL RX5 ret) {i : Nat} (h1 : 20 ≤ i) (h2 : i < 50) {rm : Room} {v0 : Value} {f : Int32 → hg_Mem → Prop} (K : hg_C l E yX1_trait cX1_trait 2 (some .int) rm [.ref (hg_ad E i), v0] σ (hg_pi f)) (hrm : rm.cells = 0 ∧ rm.slots = 0 ∧ rm.frames + 1 ≤ R.frames ∧ 8 + (2 + 11) + rm.locals ≤ R.locals) (hcat : (st.map fun v => v.category).sum ≤ 8) (hd : decode cc pc = .ok (.invokevirtual 118, 3)) (hp : pc + 3 = pc') (kk : ∀ r τ, f r τ → hg_G E p l e R s m args below meth c nL Q τ pc' lv (.int r :: st)) : hg_G E p l e R s m args below meth c nL Q σ pc lv (v0 :: .ref (hg_ad E i) :: st) := hg_callV (i := i) cx lk_X5_118 se_X1_trait K hrm (by omega) (hg_ceDel E _ _ h1 h2) rfl rfl rfl rfl hcat hd hp (hg_kI kk)
theorem lk_X5_121 : hg_Lk RX5 121 yX1_answer cX1_answer 3 (some .int) 2 := ⟨(hg_Uin (List.mem_of_getElem? (i := 341) (by decide +kernel)) (by decide +kernel)), (hg_Uin (List.mem_of_getElem? (i := 274) (by decide +kernel)) (by decide +kernel)), (hg_Uin (List.mem_of_getElem? (i := 59) (by decide +kernel)) (by decide +kernel)), by decide +kernel⟩
theorem se_X1_answer : Cond.instanceMethod yX1_answer ∈ hg_U ∧ Cond.selects yX1_answer.cls yX1_answer yX1_answer ∈ hg_U := ⟨(hg_Uin (List.mem_of_getElem? (i := 272) (by decide +kernel)) (by decide +kernel)), (hg_Uin (List.mem_of_getElem? (i := 273) (by decide +kernel)) (by decide +kernel))⟩
theorem cv_X5_121 (cx : hg_Cx E p s m args meth c cc nL RX5 ret) {i : Nat} (h1 : 20 ≤ i) (h2 : i < 50) {rm : Room} {v0 v1 : Value} {f : Int32 → hg_Mem → Prop} (K : hg_C l E yX1_answer cX1_answer 3 (some .int) rm [.ref (hg_ad E i), v0, v1] σ (hg_pi f)) (hrm : rm.cells = 0 ∧ rm.slots = 0 ∧ rm.frames + 1 ≤ R.frames ∧ 8 + (3 + 11) + rm.locals ≤ R.locals) (hcat : (st.map fun v => v.category).sum ≤ 8) (hd : decode cc pc = .ok (.invokevirtual 121, 3)) (hp : pc + 3 = pc') (kk : ∀ r τ, f r τ → hg_G E p l e R s m args below meth c nL Q τ pc' lv (.int r :: st)) : hg_G E p l e R s m args below meth c nL Q σ pc lv (v1 :: v0 :: .ref (hg_ad E i) :: st) := hg_callV (i := i) cx lk_X5_121 se_X1_answer K hrm (by omega) (hg_ceDel E _ _ h1 h2) rfl rfl rfl rfl hcat hd hp (hg_kI kk)
theorem lk_X5_125 : hg_Lk RX5 125 yX1_mostOf cX1_mostOf 1 (some .int) 1 := ⟨(hg_Uin (List.mem_of_getElem? (i := 346) (by decide +kernel)) (by decide +kernel)), (hg_Uin (List.mem_of_getElem? (i := 348) (by decide +kernel)) (by decide +kernel)), (hg_Uin (List.mem_of_getElem? (i := 59) (by decide +kernel)) (by decide +kernel)), by decide +kernel⟩
theorem se_X1_mostOf : Cond.static yX1_mostOf ∈ hg_U := (hg_Uin (List.mem_of_getElem? (i := 347) (by decide +kernel)) (by decide +kernel))
theorem cs_X5_125 (cx : hg_Cx E p s m args meth c cc nL RX5 ret) {rm : Room} {v0 : Value} {f : Int32 → hg_Mem → Prop} (K : hg_C l E yX1_mostOf cX1_mostOf 1 (some .int) rm [v0] σ (hg_pi f)) (hrm : rm.cells = 0 ∧ rm.slots = 0 ∧ rm.frames + 1 ≤ R.frames ∧ 8 + (1 + 11) + rm.locals ≤ R.locals) (hcat : (st.map fun v => v.category).sum ≤ 8) (hd : decode cc pc = .ok (.invokestatic 125, 3)) (hp : pc + 3 = pc') (kk : ∀ r τ, f r τ → hg_G E p l e R s m args below meth c nL Q τ pc' lv (.int r :: st)) : hg_G E p l e R s m args below meth c nL Q σ pc lv (v0 :: st) := hg_callS cx lk_X5_125 se_X1_mostOf K hrm rfl rfl hcat hd hp (hg_kI kk)
theorem lk_X5_128 : hg_Lk RX5 128 yX1_put cX1_put 3 none 2 := ⟨(hg_Uin (List.mem_of_getElem? (i := 349) (by decide +kernel)) (by decide +kernel)), (hg_Uin (List.mem_of_getElem? (i := 352) (by decide +kernel)) (by decide +kernel)), (hg_Uin (List.mem_of_getElem? (i := 59) (by decide +kernel)) (by decide +kernel)), by decide +kernel⟩
theorem se_X1_put : Cond.instanceMethod yX1_put ∈ hg_U ∧ Cond.selects yX1_put.cls yX1_put yX1_put ∈ hg_U := ⟨(hg_Uin (List.mem_of_getElem? (i := 350) (by decide +kernel)) (by decide +kernel)), (hg_Uin (List.mem_of_getElem? (i := 351) (by decide +kernel)) (by decide +kernel))⟩
theorem cv_X5_128 (cx : hg_Cx E p s m args meth c cc nL RX5 ret) {i : Nat} (h1 : 20 ≤ i) (h2 : i < 50) {rm : Room} {v0 v1 : Value} {f : hg_Mem → Prop} (K : hg_C l E yX1_put cX1_put 3 none rm [.ref (hg_ad E i), v0, v1] σ (hg_pv f)) (hrm : rm.cells = 0 ∧ rm.slots = 0 ∧ rm.frames + 1 ≤ R.frames ∧ 8 + (3 + 11) + rm.locals ≤ R.locals) (hcat : (st.map fun v => v.category).sum ≤ 8) (hd : decode cc pc = .ok (.invokevirtual 128, 3)) (hp : pc + 3 = pc') (kk : ∀ τ, f τ → hg_G E p l e R s m args below meth c nL Q τ pc' lv st) : hg_G E p l e R s m args below meth c nL Q σ pc lv (v1 :: v0 :: .ref (hg_ad E i) :: st) := hg_callV (i := i) cx lk_X5_128 se_X1_put K hrm (by omega) (hg_ceDel E _ _ h1 h2) rfl rfl rfl rfl hcat hd hp (hg_kV kk)
theorem lk_X5_134 : hg_Lk RX5 134 yX1_isOfKind cX1_isOfKind 2 (some .boolean) 1 := ⟨(hg_Uin (List.mem_of_getElem? (i := 361) (by decide +kernel)) (by decide +kernel)), (hg_Uin (List.mem_of_getElem? (i := 364) (by decide +kernel)) (by decide +kernel)), (hg_Uin (List.mem_of_getElem? (i := 59) (by decide +kernel)) (by decide +kernel)), by decide +kernel⟩
theorem se_X1_isOfKind : Cond.instanceMethod yX1_isOfKind ∈ hg_U ∧ Cond.selects yX1_isOfKind.cls yX1_isOfKind yX1_isOfKind ∈ hg_U := ⟨(hg_Uin (List.mem_of_getElem? (i := 362) (by decide +kernel)) (by decide +kernel)), (hg_Uin (List.mem_of_getElem? (i := 363) (by decide +kernel)) (by decide +kernel))⟩
theorem cv_X5_134 (cx : hg_Cx E p s m args meth c cc nL RX5 ret) {i : Nat} (h1 : 20 ≤ i) (h2 : i < 50) {rm : Room} {v0 : Value} {f : Int32 → hg_Mem → Prop} (K : hg_C l E yX1_isOfKind cX1_isOfKind 2 (some .boolean) rm [.ref (hg_ad E i), v0] σ (hg_pi f)) (hrm : rm.cells = 0 ∧ rm.slots = 0 ∧ rm.frames + 1 ≤ R.frames ∧ 8 + (2 + 11) + rm.locals ≤ R.locals) (hcat : (st.map fun v => v.category).sum ≤ 8) (hd : decode cc pc = .ok (.invokevirtual 134, 3)) (hp : pc + 3 = pc') (kk : ∀ r τ, f r τ → hg_G E p l e R s m args below meth c nL Q τ pc' lv (.int r :: st)) : hg_G E p l e R s m args below meth c nL Q σ pc lv (v0 :: .ref (hg_ad E i) :: st) := hg_callV (i := i) cx lk_X5_134 se_X1_isOfKind K hrm (by omega) (hg_ceDel E _ _ h1 h2) rfl rfl rfl rfl hcat hd hp (hg_kI kk)
theorem lk_X5_143 : hg_Lk RX5 143 yX3_go cX3_go 5 none 1 := ⟨(hg_Uin (List.mem_of_getElem? (i := 372) (by decide +kernel)) (by decide +kernel)), (hg_Uin (List.mem_of_getElem? (i := 375) (by decide +kernel)) (by decide +kernel)), (hg_Uin (List.mem_of_getElem? (i := 58) (by decide +kernel)) (by decide +kernel)), by decide +kernel⟩
theorem se_X3_go : Cond.instanceMethod yX3_go ∈ hg_U ∧ Cond.selects yX3_go.cls yX3_go yX3_go ∈ hg_U := ⟨(hg_Uin (List.mem_of_getElem? (i := 373) (by decide +kernel)) (by decide +kernel)), (hg_Uin (List.mem_of_getElem? (i := 374) (by decide +kernel)) (by decide +kernel))⟩
theorem cv_X5_143 (cx : hg_Cx E p s m args meth c cc nL RX5 ret) {i : Nat} (h1 : 1 ≤ i) (h2 : i < 4) {rm : Room} {v0 : Value} {f : hg_Mem → Prop} (K : hg_C l E yX3_go cX3_go 5 none rm [.ref (hg_ad E i), v0] σ (hg_pv f)) (hrm : rm.cells = 0 ∧ rm.slots = 0 ∧ rm.frames + 1 ≤ R.frames ∧ 8 + (5 + 11) + rm.locals ≤ R.locals) (hcat : (st.map fun v => v.category).sum ≤ 8) (hd : decode cc pc = .ok (.invokevirtual 143, 3)) (hp : pc + 3 = pc') (kk : ∀ τ, f τ → hg_G E p l e R s m args below meth c nL Q τ pc' lv st) : hg_G E p l e R s m args below meth c nL Q σ pc lv (v0 :: .ref (hg_ad E i) :: st) := hg_callV (i := i) cx lk_X5_143 se_X3_go K hrm (by omega) (hg_ceTab E _ _ h1 h2) rfl rfl rfl rfl hcat hd hp (hg_kV kk)
theorem lk_X5_147 : hg_Lk RX5 147 yX5_lookAhead cX5_lookAhead 2 none 1 := ⟨(hg_Uin (List.mem_of_getElem? (i := 406) (by decide +kernel)) (by decide +kernel)), (hg_Uin (List.mem_of_getElem? (i := 409) (by decide +kernel)) (by decide +kernel)), (hg_Uin (List.mem_of_getElem? (i := 57) (by decide +kernel)) (by decide +kernel)), by decide +kernel⟩
theorem se_X5_lookAhead : Cond.instanceMethod yX5_lookAhead ∈ hg_U ∧ Cond.selects yX5_lookAhead.cls yX5_lookAhead yX5_lookAhead ∈ hg_U := ⟨(hg_Uin (List.mem_of_getElem? (i := 408) (by decide +kernel)) (by decide +kernel)), (hg_Uin (List.mem_of_getElem? (i := 4) (by decide +kernel)) (by decide +kernel))⟩
theorem cv_X5_147 (cx : hg_Cx E p s m args meth c cc nL RX5 ret) {rm : Room} {v0 : Value} {f : hg_Mem → Prop} (K : hg_C l E yX5_lookAhead cX5_lookAhead 2 none rm [.ref (hg_ad E 0), v0] σ (hg_pv f)) (hrm : rm.cells = 0 ∧ rm.slots = 0 ∧ rm.frames + 1 ≤ R.frames ∧ 8 + (2 + 11) + rm.locals ≤ R.locals) (hcat : (st.map fun v => v.category).sum ≤ 8) (hd : decode cc pc = .ok (.invokevirtual 147, 3)) (hp : pc + 3 = pc') (kk : ∀ τ, f τ → hg_G E p l e R s m args below meth c nL Q τ pc' lv st) : hg_G E p l e R s m args below meth c nL Q σ pc lv (v0 :: .ref (hg_ad E 0) :: st) := hg_callV (i := 0) cx lk_X5_147 se_X5_lookAhead K hrm (by decide) rfl rfl rfl rfl rfl hcat hd hp (hg_kV kk)
theorem lk_X5_150 : hg_Lk RX5 150 yX3_become cX3_become 3 none 1 := ⟨(hg_Uin (List.mem_of_getElem? (i := 410) (by decide +kernel)) (by decide +kernel)), (hg_Uin (List.mem_of_getElem? (i := 413) (by decide +kernel)) (by decide +kernel)), (hg_Uin (List.mem_of_getElem? (i := 58) (by decide +kernel)) (by decide +kernel)), by decide +kernel⟩
theorem se_X3_become : Cond.instanceMethod yX3_become ∈ hg_U ∧ Cond.selects yX3_become.cls yX3_become yX3_become ∈ hg_U := ⟨(hg_Uin (List.mem_of_getElem? (i := 411) (by decide +kernel)) (by decide +kernel)), (hg_Uin (List.mem_of_getElem? (i := 412) (by decide +kernel)) (by decide +kernel))⟩
theorem cv_X5_150 (cx : hg_Cx E p s m args meth c cc nL RX5 ret) {i : Nat} (h1 : 1 ≤ i) (h2 : i < 4) {rm : Room} {v0 : Value} {f : hg_Mem → Prop} (K : hg_C l E yX3_become cX3_become 3 none rm [.ref (hg_ad E i), v0] σ (hg_pv f)) (hrm : rm.cells = 0 ∧ rm.slots = 0 ∧ rm.frames + 1 ≤ R.frames ∧ 8 + (3 + 11) + rm.locals ≤ R.locals) (hcat : (st.map fun v => v.category).sum ≤ 8) (hd : decode cc pc = .ok (.invokevirtual 150, 3)) (hp : pc + 3 = pc') (kk : ∀ τ, f τ → hg_G E p l e R s m args below meth c nL Q τ pc' lv st) : hg_G E p l e R s m args below meth c nL Q σ pc lv (v0 :: .ref (hg_ad E i) :: st) := hg_callV (i := i) cx lk_X5_150 se_X3_become K hrm (by omega) (hg_ceTab E _ _ h1 h2) rfl rfl rfl rfl hcat hd hp (hg_kV kk)
theorem lk_X5_154 : hg_Lk RX5 154 yX5_bit cX5_bit 2 (some .int) 2 := ⟨(hg_Uin (List.mem_of_getElem? (i := 426) (by decide +kernel)) (by decide +kernel)), (hg_Uin (List.mem_of_getElem? (i := 281) (by decide +kernel)) (by decide +kernel)), (hg_Uin (List.mem_of_getElem? (i := 57) (by decide +kernel)) (by decide +kernel)), by decide +kernel⟩
theorem se_X5_bit : Cond.static yX5_bit ∈ hg_U := (hg_Uin (List.mem_of_getElem? (i := 280) (by decide +kernel)) (by decide +kernel))
theorem cs_X5_154 (cx : hg_Cx E p s m args meth c cc nL RX5 ret) {rm : Room} {v0 v1 : Value} {f : Int32 → hg_Mem → Prop} (K : hg_C l E yX5_bit cX5_bit 2 (some .int) rm [v0, v1] σ (hg_pi f)) (hrm : rm.cells = 0 ∧ rm.slots = 0 ∧ rm.frames + 1 ≤ R.frames ∧ 8 + (2 + 11) + rm.locals ≤ R.locals) (hcat : (st.map fun v => v.category).sum ≤ 8) (hd : decode cc pc = .ok (.invokestatic 154, 3)) (hp : pc + 3 = pc') (kk : ∀ r τ, f r τ → hg_G E p l e R s m args below meth c nL Q τ pc' lv (.int r :: st)) : hg_G E p l e R s m args below meth c nL Q σ pc lv (v1 :: v0 :: st) := hg_callS cx lk_X5_154 se_X5_bit K hrm rfl rfl hcat hd hp (hg_kI kk)
theorem lk_X5_164 : hg_Lk RX5 164 yJ6_bitCount_0f7a4 cJ6_bitCount_0f7a4 1 (some .int) 1 := ⟨(hg_Uin (List.mem_of_getElem? (i := 440) (by decide +kernel)) (by decide +kernel)), (hg_Uin (List.mem_of_getElem? (i := 442) (by decide +kernel)) (by decide +kernel)), (hg_Uin (List.mem_of_getElem? (i := 65) (by decide +kernel)) (by decide +kernel)), by decide +kernel⟩
theorem se_J6_bitCount_0f7a4 : Cond.static yJ6_bitCount_0f7a4 ∈ hg_U := (hg_Uin (List.mem_of_getElem? (i := 441) (by decide +kernel)) (by decide +kernel))
theorem cs_X5_164 (cx : hg_Cx E p s m args meth c cc nL RX5 ret) {rm : Room} {v0 : Value} {f : Int32 → hg_Mem → Prop} (K : hg_C l E yJ6_bitCount_0f7a4 cJ6_bitCount_0f7a4 1 (some .int) rm [v0] σ (hg_pi f)) (hrm : rm.cells = 0 ∧ rm.slots = 0 ∧ rm.frames + 1 ≤ R.frames ∧ 8 + (1 + 11) + rm.locals ≤ R.locals) (hcat : (st.map fun v => v.category).sum ≤ 8) (hd : decode cc pc = .ok (.invokestatic 164, 3)) (hp : pc + 3 = pc') (kk : ∀ r τ, f r τ → hg_G E p l e R s m args below meth c nL Q τ pc' lv (.int r :: st)) : hg_G E p l e R s m args below meth c nL Q σ pc lv (v0 :: st) := hg_callS cx lk_X5_164 se_J6_bitCount_0f7a4 K hrm rfl rfl hcat hd hp (hg_kI kk)
theorem lk_X5_175 : hg_Lk RX5 175 yX3_verdict cX3_verdict 1 (some .int) 0 := ⟨(hg_Uin (List.mem_of_getElem? (i := 462) (by decide +kernel)) (by decide +kernel)), (hg_Uin (List.mem_of_getElem? (i := 380) (by decide +kernel)) (by decide +kernel)), (hg_Uin (List.mem_of_getElem? (i := 58) (by decide +kernel)) (by decide +kernel)), by decide +kernel⟩
theorem se_X3_verdict : Cond.instanceMethod yX3_verdict ∈ hg_U ∧ Cond.selects yX3_verdict.cls yX3_verdict yX3_verdict ∈ hg_U := ⟨(hg_Uin (List.mem_of_getElem? (i := 378) (by decide +kernel)) (by decide +kernel)), (hg_Uin (List.mem_of_getElem? (i := 379) (by decide +kernel)) (by decide +kernel))⟩
theorem cv_X5_175 (cx : hg_Cx E p s m args meth c cc nL RX5 ret) {i : Nat} (h1 : 1 ≤ i) (h2 : i < 4) {rm : Room} {f : Int32 → hg_Mem → Prop} (K : hg_C l E yX3_verdict cX3_verdict 1 (some .int) rm [.ref (hg_ad E i)] σ (hg_pi f)) (hrm : rm.cells = 0 ∧ rm.slots = 0 ∧ rm.frames + 1 ≤ R.frames ∧ 8 + (1 + 11) + rm.locals ≤ R.locals) (hcat : (st.map fun v => v.category).sum ≤ 8) (hd : decode cc pc = .ok (.invokevirtual 175, 3)) (hp : pc + 3 = pc') (kk : ∀ r τ, f r τ → hg_G E p l e R s m args below meth c nL Q τ pc' lv (.int r :: st)) : hg_G E p l e R s m args below meth c nL Q σ pc lv (.ref (hg_ad E i) :: st) := hg_callV (i := i) cx lk_X5_175 se_X3_verdict K hrm (by omega) (hg_ceTab E _ _ h1 h2) rfl rfl rfl rfl hcat hd hp (hg_kI kk)
theorem lk_X5_179 : hg_Lk RX5 179 yX3_sum cX3_sum 4 (some .int) 1 := ⟨(hg_Uin (List.mem_of_getElem? (i := 468) (by decide +kernel)) (by decide +kernel)), (hg_Uin (List.mem_of_getElem? (i := 471) (by decide +kernel)) (by decide +kernel)), (hg_Uin (List.mem_of_getElem? (i := 58) (by decide +kernel)) (by decide +kernel)), by decide +kernel⟩
theorem se_X3_sum : Cond.instanceMethod yX3_sum ∈ hg_U ∧ Cond.selects yX3_sum.cls yX3_sum yX3_sum ∈ hg_U := ⟨(hg_Uin (List.mem_of_getElem? (i := 469) (by decide +kernel)) (by decide +kernel)), (hg_Uin (List.mem_of_getElem? (i := 470) (by decide +kernel)) (by decide +kernel))⟩
theorem cv_X5_179 (cx : hg_Cx E p s m args meth c cc nL RX5 ret) {i : Nat} (h1 : 1 ≤ i) (h2 : i < 4) {rm : Room} {v0 : Value} {f : Int32 → hg_Mem → Prop} (K : hg_C l E yX3_sum cX3_sum 4 (some .int) rm [.ref (hg_ad E i), v0] σ (hg_pi f)) (hrm : rm.cells = 0 ∧ rm.slots = 0 ∧ rm.frames + 1 ≤ R.frames ∧ 8 + (4 + 11) + rm.locals ≤ R.locals) (hcat : (st.map fun v => v.category).sum ≤ 8) (hd : decode cc pc = .ok (.invokevirtual 179, 3)) (hp : pc + 3 = pc') (kk : ∀ r τ, f r τ → hg_G E p l e R s m args below meth c nL Q τ pc' lv (.int r :: st)) : hg_G E p l e R s m args below meth c nL Q σ pc lv (v0 :: .ref (hg_ad E i) :: st) := hg_callV (i := i) cx lk_X5_179 se_X3_sum K hrm (by omega) (hg_ceTab E _ _ h1 h2) rfl rfl rfl rfl hcat hd hp (hg_kI kk)
theorem lk_X5_182 : hg_Lk RX5 182 yX1_credit cX1_credit 1 (some .int) 0 := ⟨(hg_Uin (List.mem_of_getElem? (i := 477) (by decide +kernel)) (by decide +kernel)), (hg_Uin (List.mem_of_getElem? (i := 480) (by decide +kernel)) (by decide +kernel)), (hg_Uin (List.mem_of_getElem? (i := 59) (by decide +kernel)) (by decide +kernel)), by decide +kernel⟩
theorem se_X1_credit : Cond.instanceMethod yX1_credit ∈ hg_U ∧ Cond.selects yX1_credit.cls yX1_credit yX1_credit ∈ hg_U := ⟨(hg_Uin (List.mem_of_getElem? (i := 478) (by decide +kernel)) (by decide +kernel)), (hg_Uin (List.mem_of_getElem? (i := 479) (by decide +kernel)) (by decide +kernel))⟩
theorem cv_X5_182 (cx : hg_Cx E p s m args meth c cc nL RX5 ret) {i : Nat} (h1 : 20 ≤ i) (h2 : i < 50) {rm : Room} {f : Int32 → hg_Mem → Prop} (K : hg_C l E yX1_credit cX1_credit 1 (some .int) rm [.ref (hg_ad E i)] σ (hg_pi f)) (hrm : rm.cells = 0 ∧ rm.slots = 0 ∧ rm.frames + 1 ≤ R.frames ∧ 8 + (1 + 11) + rm.locals ≤ R.locals) (hcat : (st.map fun v => v.category).sum ≤ 8) (hd : decode cc pc = .ok (.invokevirtual 182, 3)) (hp : pc + 3 = pc') (kk : ∀ r τ, f r τ → hg_G E p l e R s m args below meth c nL Q τ pc' lv (.int r :: st)) : hg_G E p l e R s m args below meth c nL Q σ pc lv (.ref (hg_ad E i) :: st) := hg_callV (i := i) cx lk_X5_182 se_X1_credit K hrm (by omega) (hg_ceDel E _ _ h1 h2) rfl rfl rfl rfl hcat hd hp (hg_kI kk)
theorem lk_X5_188 : hg_Lk RX5 188 yX4_add cX4_add 2 none 1 := ⟨(hg_Uin (List.mem_of_getElem? (i := 485) (by decide +kernel)) (by decide +kernel)), (hg_Uin (List.mem_of_getElem? (i := 488) (by decide +kernel)) (by decide +kernel)), (hg_Uin (List.mem_of_getElem? (i := 60) (by decide +kernel)) (by decide +kernel)), by decide +kernel⟩
theorem se_X4_add : Cond.instanceMethod yX4_add ∈ hg_U ∧ Cond.selects yX4_add.cls yX4_add yX4_add ∈ hg_U := ⟨(hg_Uin (List.mem_of_getElem? (i := 486) (by decide +kernel)) (by decide +kernel)), (hg_Uin (List.mem_of_getElem? (i := 487) (by decide +kernel)) (by decide +kernel))⟩
theorem cv_X5_188 (cx : hg_Cx E p s m args meth c cc nL RX5 ret) {rm : Room} {v0 : Value} {f : hg_Mem → Prop} (K : hg_C l E yX4_add cX4_add 2 none rm [.ref (hg_ad E 7), v0] σ (hg_pv f)) (hrm : rm.cells = 0 ∧ rm.slots = 0 ∧ rm.frames + 1 ≤ R.frames ∧ 8 + (2 + 11) + rm.locals ≤ R.locals) (hcat : (st.map fun v => v.category).sum ≤ 8) (hd : decode cc pc = .ok (.invokevirtual 188, 3)) (hp : pc + 3 = pc') (kk : ∀ τ, f τ → hg_G E p l e R s m args below meth c nL Q τ pc' lv st) : hg_G E p l e R s m args below meth c nL Q σ pc lv (v0 :: .ref (hg_ad E 7) :: st) := hg_callV (i := 7) cx lk_X5_188 se_X4_add K hrm (by decide) rfl rfl rfl rfl rfl hcat hd hp (hg_kV kk)
theorem lk_X5_190 : hg_Lk RX5 190 yX0_takeDown cX0_takeDown 2 (some .int) 0 := ⟨(hg_Uin (List.mem_of_getElem? (i := 497) (by decide +kernel)) (by decide +kernel)), (hg_Uin (List.mem_of_getElem? (i := 500) (by decide +kernel)) (by decide +kernel)), (hg_Uin (List.mem_of_getElem? (i := 61) (by decide +kernel)) (by decide +kernel)), by decide +kernel⟩
theorem se_X0_takeDown : Cond.instanceMethod yX0_takeDown ∈ hg_U ∧ Cond.selects yX0_takeDown.cls yX0_takeDown yX0_takeDown ∈ hg_U := ⟨(hg_Uin (List.mem_of_getElem? (i := 498) (by decide +kernel)) (by decide +kernel)), (hg_Uin (List.mem_of_getElem? (i := 499) (by decide +kernel)) (by decide +kernel))⟩
theorem cv_X5_190 (cx : hg_Cx E p s m args meth c cc nL RX5 ret) {rm : Room} {f : Int32 → hg_Mem → Prop} (K : hg_C l E yX0_takeDown cX0_takeDown 2 (some .int) rm [.ref (hg_ad E 9)] σ (hg_pi f)) (hrm : rm.cells = 0 ∧ rm.slots = 0 ∧ rm.frames + 1 ≤ R.frames ∧ 8 + (2 + 11) + rm.locals ≤ R.locals) (hcat : (st.map fun v => v.category).sum ≤ 8) (hd : decode cc pc = .ok (.invokevirtual 190, 3)) (hp : pc + 3 = pc') (kk : ∀ r τ, f r τ → hg_G E p l e R s m args below meth c nL Q τ pc' lv (.int r :: st)) : hg_G E p l e R s m args below meth c nL Q σ pc lv (.ref (hg_ad E 9) :: st) := hg_callV (i := 9) cx lk_X5_190 se_X0_takeDown K hrm (by decide) rfl rfl rfl rfl rfl hcat hd hp (hg_kI kk)
theorem lk_X5_193 : hg_Lk RX5 193 yX5_noSheet cX5_noSheet 1 (some .boolean) 1 := ⟨(hg_Uin (List.mem_of_getElem? (i := 626) (by decide +kernel)) (by decide +kernel)), (hg_Uin (List.mem_of_getElem? (i := 628) (by decide +kernel)) (by decide +kernel)), (hg_Uin (List.mem_of_getElem? (i := 57) (by decide +kernel)) (by decide +kernel)), by decide +kernel⟩
theorem se_X5_noSheet : Cond.static yX5_noSheet ∈ hg_U := (hg_Uin (List.mem_of_getElem? (i := 627) (by decide +kernel)) (by decide +kernel))
theorem cs_X5_193 (cx : hg_Cx E p s m args meth c cc nL RX5 ret) {rm : Room} {v0 : Value} {f : Int32 → hg_Mem → Prop} (K : hg_C l E yX5_noSheet cX5_noSheet 1 (some .boolean) rm [v0] σ (hg_pi f)) (hrm : rm.cells = 0 ∧ rm.slots = 0 ∧ rm.frames + 1 ≤ R.frames ∧ 8 + (1 + 11) + rm.locals ≤ R.locals) (hcat : (st.map fun v => v.category).sum ≤ 8) (hd : decode cc pc = .ok (.invokestatic 193, 3)) (hp : pc + 3 = pc') (kk : ∀ r τ, f r τ → hg_G E p l e R s m args below meth c nL Q τ pc' lv (.int r :: st)) : hg_G E p l e R s m args below meth c nL Q σ pc lv (v0 :: st) := hg_callS cx lk_X5_193 se_X5_noSheet K hrm rfl rfl hcat hd hp (hg_kI kk)
theorem lk_X5_196 : hg_Lk RX5 196 yX2_mayHave cX2_mayHave 1 (some .boolean) 1 := ⟨(hg_Uin (List.mem_of_getElem? (i := 629) (by decide +kernel)) (by decide +kernel)), (hg_Uin (List.mem_of_getElem? (i := 631) (by decide +kernel)) (by decide +kernel)), (hg_Uin (List.mem_of_getElem? (i := 62) (by decide +kernel)) (by decide +kernel)), by decide +kernel⟩
theorem se_X2_mayHave : Cond.static yX2_mayHave ∈ hg_U := (hg_Uin (List.mem_of_getElem? (i := 630) (by decide +kernel)) (by decide +kernel))
theorem cs_X5_196 (cx : hg_Cx E p s m args meth c cc nL RX5 ret) {rm : Room} {v0 : Value} {f : Int32 → hg_Mem → Prop} (K : hg_C l E yX2_mayHave cX2_mayHave 1 (some .boolean) rm [v0] σ (hg_pi f)) (hrm : rm.cells = 0 ∧ rm.slots = 0 ∧ rm.frames + 1 ≤ R.frames ∧ 8 + (1 + 11) + rm.locals ≤ R.locals) (hcat : (st.map fun v => v.category).sum ≤ 8) (hd : decode cc pc = .ok (.invokestatic 196, 3)) (hp : pc + 3 = pc') (kk : ∀ r τ, f r τ → hg_G E p l e R s m args below meth c nL Q τ pc' lv (.int r :: st)) : hg_G E p l e R s m args below meth c nL Q σ pc lv (v0 :: st) := hg_callS cx lk_X5_196 se_X2_mayHave K hrm rfl rfl hcat hd hp (hg_kI kk)
theorem lk_X5_200 : hg_Lk RX5 200 yX2_begin cX2_begin 3 none 2 := ⟨(hg_Uin (List.mem_of_getElem? (i := 633) (by decide +kernel)) (by decide +kernel)), (hg_Uin (List.mem_of_getElem? (i := 636) (by decide +kernel)) (by decide +kernel)), (hg_Uin (List.mem_of_getElem? (i := 62) (by decide +kernel)) (by decide +kernel)), by decide +kernel⟩
theorem se_X2_begin : Cond.instanceMethod yX2_begin ∈ hg_U ∧ Cond.selects yX2_begin.cls yX2_begin yX2_begin ∈ hg_U := ⟨(hg_Uin (List.mem_of_getElem? (i := 634) (by decide +kernel)) (by decide +kernel)), (hg_Uin (List.mem_of_getElem? (i := 635) (by decide +kernel)) (by decide +kernel))⟩
theorem cv_X5_200 (cx : hg_Cx E p s m args meth c cc nL RX5 ret) {i : Nat} (h1 : 12 ≤ i) (h2 : i < 16) {rm : Room} {v0 v1 : Value} {f : hg_Mem → Prop} (K : hg_C l E yX2_begin cX2_begin 3 none rm [.ref (hg_ad E i), v0, v1] σ (hg_pv f)) (hrm : rm.cells = 0 ∧ rm.slots = 0 ∧ rm.frames + 1 ≤ R.frames ∧ 8 + (3 + 11) + rm.locals ≤ R.locals) (hcat : (st.map fun v => v.category).sum ≤ 8) (hd : decode cc pc = .ok (.invokevirtual 200, 3)) (hp : pc + 3 = pc') (kk : ∀ τ, f τ → hg_G E p l e R s m args below meth c nL Q τ pc' lv st) : hg_G E p l e R s m args below meth c nL Q σ pc lv (v1 :: v0 :: .ref (hg_ad E i) :: st) := hg_callV (i := i) cx lk_X5_200 se_X2_begin K hrm (by omega) (hg_ceShe E _ _ h1 h2) rfl rfl rfl rfl hcat hd hp (hg_kV kk)
theorem lk_X5_204 : hg_Lk RX5 204 yX2_isMissing cX2_isMissing 1 (some .boolean) 0 := ⟨(hg_Uin (List.mem_of_getElem? (i := 649) (by decide +kernel)) (by decide +kernel)), (hg_Uin (List.mem_of_getElem? (i := 640) (by decide +kernel)) (by decide +kernel)), (hg_Uin (List.mem_of_getElem? (i := 62) (by decide +kernel)) (by decide +kernel)), by decide +kernel⟩
theorem se_X2_isMissing : Cond.instanceMethod yX2_isMissing ∈ hg_U ∧ Cond.selects yX2_isMissing.cls yX2_isMissing yX2_isMissing ∈ hg_U := ⟨(hg_Uin (List.mem_of_getElem? (i := 638) (by decide +kernel)) (by decide +kernel)), (hg_Uin (List.mem_of_getElem? (i := 639) (by decide +kernel)) (by decide +kernel))⟩
theorem cv_X5_204 (cx : hg_Cx E p s m args meth c cc nL RX5 ret) {i : Nat} (h1 : 12 ≤ i) (h2 : i < 16) {rm : Room} {f : Int32 → hg_Mem → Prop} (K : hg_C l E yX2_isMissing cX2_isMissing 1 (some .boolean) rm [.ref (hg_ad E i)] σ (hg_pi f)) (hrm : rm.cells = 0 ∧ rm.slots = 0 ∧ rm.frames + 1 ≤ R.frames ∧ 8 + (1 + 11) + rm.locals ≤ R.locals) (hcat : (st.map fun v => v.category).sum ≤ 8) (hd : decode cc pc = .ok (.invokevirtual 204, 3)) (hp : pc + 3 = pc') (kk : ∀ r τ, f r τ → hg_G E p l e R s m args below meth c nL Q τ pc' lv (.int r :: st)) : hg_G E p l e R s m args below meth c nL Q σ pc lv (.ref (hg_ad E i) :: st) := hg_callV (i := i) cx lk_X5_204 se_X2_isMissing K hrm (by omega) (hg_ceShe E _ _ h1 h2) rfl rfl rfl rfl hcat hd hp (hg_kI kk)
theorem lk_X5_212 : hg_Lk RX5 212 yX2_put cX2_put 4 none 2 := ⟨(hg_Uin (List.mem_of_getElem? (i := 651) (by decide +kernel)) (by decide +kernel)), (hg_Uin (List.mem_of_getElem? (i := 654) (by decide +kernel)) (by decide +kernel)), (hg_Uin (List.mem_of_getElem? (i := 62) (by decide +kernel)) (by decide +kernel)), by decide +kernel⟩
theorem se_X2_put : Cond.instanceMethod yX2_put ∈ hg_U ∧ Cond.selects yX2_put.cls yX2_put yX2_put ∈ hg_U := ⟨(hg_Uin (List.mem_of_getElem? (i := 652) (by decide +kernel)) (by decide +kernel)), (hg_Uin (List.mem_of_getElem? (i := 653) (by decide +kernel)) (by decide +kernel))⟩
theorem cv_X5_212 (cx : hg_Cx E p s m args meth c cc nL RX5 ret) {i : Nat} (h1 : 12 ≤ i) (h2 : i < 16) {rm : Room} {v0 v1 : Value} {f : hg_Mem → Prop} (K : hg_C l E yX2_put cX2_put 4 none rm [.ref (hg_ad E i), v0, v1] σ (hg_pv f)) (hrm : rm.cells = 0 ∧ rm.slots = 0 ∧ rm.frames + 1 ≤ R.frames ∧ 8 + (4 + 11) + rm.locals ≤ R.locals) (hcat : (st.map fun v => v.category).sum ≤ 8) (hd : decode cc pc = .ok (.invokevirtual 212, 3)) (hp : pc + 3 = pc') (kk : ∀ τ, f τ → hg_G E p l e R s m args below meth c nL Q τ pc' lv st) : hg_G E p l e R s m args below meth c nL Q σ pc lv (v1 :: v0 :: .ref (hg_ad E i) :: st) := hg_callV (i := i) cx lk_X5_212 se_X2_put K hrm (by omega) (hg_ceShe E _ _ h1 h2) rfl rfl rfl rfl hcat hd hp (hg_kV kk)
theorem lk_X5_218 : hg_Lk RX5 218 yX2_hasRun cX2_hasRun 3 (some .boolean) 2 := ⟨(hg_Uin (List.mem_of_getElem? (i := 659) (by decide +kernel)) (by decide +kernel)), (hg_Uin (List.mem_of_getElem? (i := 662) (by decide +kernel)) (by decide +kernel)), (hg_Uin (List.mem_of_getElem? (i := 62) (by decide +kernel)) (by decide +kernel)), by decide +kernel⟩
theorem se_X2_hasRun : Cond.instanceMethod yX2_hasRun ∈ hg_U ∧ Cond.selects yX2_hasRun.cls yX2_hasRun yX2_hasRun ∈ hg_U := ⟨(hg_Uin (List.mem_of_getElem? (i := 660) (by decide +kernel)) (by decide +kernel)), (hg_Uin (List.mem_of_getElem? (i := 661) (by decide +kernel)) (by decide +kernel))⟩
theorem cv_X5_218 (cx : hg_Cx E p s m args meth c cc nL RX5 ret) {i : Nat} (h1 : 12 ≤ i) (h2 : i < 16) {rm : Room} {v0 v1 : Value} {f : Int32 → hg_Mem → Prop} (K : hg_C l E yX2_hasRun cX2_hasRun 3 (some .boolean) rm [.ref (hg_ad E i), v0, v1] σ (hg_pi f)) (hrm : rm.cells = 0 ∧ rm.slots = 0 ∧ rm.frames + 1 ≤ R.frames ∧ 8 + (3 + 11) + rm.locals ≤ R.locals) (hcat : (st.map fun v => v.category).sum ≤ 8) (hd : decode cc pc = .ok (.invokevirtual 218, 3)) (hp : pc + 3 = pc') (kk : ∀ r τ, f r τ → hg_G E p l e R s m args below meth c nL Q τ pc' lv (.int r :: st)) : hg_G E p l e R s m args below meth c nL Q σ pc lv (v1 :: v0 :: .ref (hg_ad E i) :: st) := hg_callV (i := i) cx lk_X5_218 se_X2_hasRun K hrm (by omega) (hg_ceShe E _ _ h1 h2) rfl rfl rfl rfl hcat hd hp (hg_kI kk)
theorem lk_X5_230 : hg_Lk RX5 230 yX3_word cX3_word 2 (some .int) 1 := ⟨(hg_Uin (List.mem_of_getElem? (i := 675) (by decide +kernel)) (by decide +kernel)), (hg_Uin (List.mem_of_getElem? (i := 678) (by decide +kernel)) (by decide +kernel)), (hg_Uin (List.mem_of_getElem? (i := 58) (by decide +kernel)) (by decide +kernel)), by decide +kernel⟩
theorem se_X3_word : Cond.instanceMethod yX3_word ∈ hg_U ∧ Cond.selects yX3_word.cls yX3_word yX3_word ∈ hg_U := ⟨(hg_Uin (List.mem_of_getElem? (i := 676) (by decide +kernel)) (by decide +kernel)), (hg_Uin (List.mem_of_getElem? (i := 677) (by decide +kernel)) (by decide +kernel))⟩
theorem cv_X5_230 (cx : hg_Cx E p s m args meth c cc nL RX5 ret) {i : Nat} (h1 : 1 ≤ i) (h2 : i < 4) {rm : Room} {v0 : Value} {f : Int32 → hg_Mem → Prop} (K : hg_C l E yX3_word cX3_word 2 (some .int) rm [.ref (hg_ad E i), v0] σ (hg_pi f)) (hrm : rm.cells = 0 ∧ rm.slots = 0 ∧ rm.frames + 1 ≤ R.frames ∧ 8 + (2 + 11) + rm.locals ≤ R.locals) (hcat : (st.map fun v => v.category).sum ≤ 8) (hd : decode cc pc = .ok (.invokevirtual 230, 3)) (hp : pc + 3 = pc') (kk : ∀ r τ, f r τ → hg_G E p l e R s m args below meth c nL Q τ pc' lv (.int r :: st)) : hg_G E p l e R s m args below meth c nL Q σ pc lv (v0 :: .ref (hg_ad E i) :: st) := hg_callV (i := i) cx lk_X5_230 se_X3_word K hrm (by omega) (hg_ceTab E _ _ h1 h2) rfl rfl rfl rfl hcat hd hp (hg_kI kk)
theorem lk_X5_233 : hg_Lk RX5 233 yX5_saysJustSo cX5_saysJustSo 4 (some .boolean) 2 := ⟨(hg_Uin (List.mem_of_getElem? (i := 684) (by decide +kernel)) (by decide +kernel)), (hg_Uin (List.mem_of_getElem? (i := 687) (by decide +kernel)) (by decide +kernel)), (hg_Uin (List.mem_of_getElem? (i := 57) (by decide +kernel)) (by decide +kernel)), by decide +kernel⟩
theorem se_X5_saysJustSo : Cond.instanceMethod yX5_saysJustSo ∈ hg_U ∧ Cond.selects yX5_saysJustSo.cls yX5_saysJustSo yX5_saysJustSo ∈ hg_U := ⟨(hg_Uin (List.mem_of_getElem? (i := 686) (by decide +kernel)) (by decide +kernel)), (hg_Uin (List.mem_of_getElem? (i := 16) (by decide +kernel)) (by decide +kernel))⟩
theorem cv_X5_233 (cx : hg_Cx E p s m args meth c cc nL RX5 ret) {rm : Room} {v0 v1 : Value} {f : Int32 → hg_Mem → Prop} (K : hg_C l E yX5_saysJustSo cX5_saysJustSo 4 (some .boolean) rm [.ref (hg_ad E 0), v0, v1] σ (hg_pi f)) (hrm : rm.cells = 0 ∧ rm.slots = 0 ∧ rm.frames + 1 ≤ R.frames ∧ 8 + (4 + 11) + rm.locals ≤ R.locals) (hcat : (st.map fun v => v.category).sum ≤ 8) (hd : decode cc pc = .ok (.invokevirtual 233, 3)) (hp : pc + 3 = pc') (kk : ∀ r τ, f r τ → hg_G E p l e R s m args below meth c nL Q τ pc' lv (.int r :: st)) : hg_G E p l e R s m args below meth c nL Q σ pc lv (v1 :: v0 :: .ref (hg_ad E 0) :: st) := hg_callV (i := 0) cx lk_X5_233 se_X5_saysJustSo K hrm (by decide) rfl rfl rfl rfl rfl hcat hd hp (hg_kI kk)
theorem lk_X0_23 : hg_Lk RX0 23 yX0_next cX0_next 1 none 0 := ⟨(hg_Uin (List.mem_of_getElem? (i := 501) (by decide +kernel)) (by decide +kernel)), (hg_Uin (List.mem_of_getElem? (i := 504) (by decide +kernel)) (by decide +kernel)), (hg_Uin (List.mem_of_getElem? (i := 61) (by decide +kernel)) (by decide +kernel)), by decide +kernel⟩
theorem se_X0_next : Cond.instanceMethod yX0_next ∈ hg_U ∧ Cond.selects yX0_next.cls yX0_next yX0_next ∈ hg_U := ⟨(hg_Uin (List.mem_of_getElem? (i := 503) (by decide +kernel)) (by decide +kernel)), (hg_Uin (List.mem_of_getElem? (i := 5) (by decide +kernel)) (by decide +kernel))⟩
theorem cv_X0_23 (cx : hg_Cx E p s m args meth c cc nL RX0 ret) {rm : Room} {f : hg_Mem → Prop} (K : hg_C l E yX0_next cX0_next 1 none rm [.ref (hg_ad E 9)] σ (hg_pv f)) (hrm : rm.cells = 0 ∧ rm.slots = 0 ∧ rm.frames + 1 ≤ R.frames ∧ 8 + (1 + 11) + rm.locals ≤ R.locals) (hcat : (st.map fun v => v.category).sum ≤ 8) (hd : decode cc pc = .ok (.invokevirtual 23, 3)) (hp : pc + 3 = pc') (kk : ∀ τ, f τ → hg_G E p l e R s m args below meth c nL Q τ pc' lv st) : hg_G E p l e R s m args below meth c nL Q σ pc lv (.ref (hg_ad E 9) :: st) := hg_callV (i := 9) cx lk_X0_23 se_X0_next K hrm (by decide) rfl rfl rfl rfl rfl hcat hd hp (hg_kV kk)
theorem lk_X0_26 : hg_Lk RX0 26 yX0_item cX0_item 2 (some .boolean) 0 := ⟨(hg_Uin (List.mem_of_getElem? (i := 517) (by decide +kernel)) (by decide +kernel)), (hg_Uin (List.mem_of_getElem? (i := 520) (by decide +kernel)) (by decide +kernel)), (hg_Uin (List.mem_of_getElem? (i := 61) (by decide +kernel)) (by decide +kernel)), by decide +kernel⟩
theorem se_X0_item : Cond.instanceMethod yX0_item ∈ hg_U ∧ Cond.selects yX0_item.cls yX0_item yX0_item ∈ hg_U := ⟨(hg_Uin (List.mem_of_getElem? (i := 519) (by decide +kernel)) (by decide +kernel)), (hg_Uin (List.mem_of_getElem? (i := 7) (by decide +kernel)) (by decide +kernel))⟩
theorem cv_X0_26 (cx : hg_Cx E p s m args meth c cc nL RX0 ret) {rm : Room} {f : Int32 → hg_Mem → Prop} (K : hg_C l E yX0_item cX0_item 2 (some .boolean) rm [.ref (hg_ad E 9)] σ (hg_pi f)) (hrm : rm.cells = 0 ∧ rm.slots = 0 ∧ rm.frames + 1 ≤ R.frames ∧ 8 + (2 + 11) + rm.locals ≤ R.locals) (hcat : (st.map fun v => v.category).sum ≤ 8) (hd : decode cc pc = .ok (.invokevirtual 26, 3)) (hp : pc + 3 = pc') (kk : ∀ r τ, f r τ → hg_G E p l e R s m args below meth c nL Q τ pc' lv (.int r :: st)) : hg_G E p l e R s m args below meth c nL Q σ pc lv (.ref (hg_ad E 9) :: st) := hg_callV (i := 9) cx lk_X0_26 se_X0_item K hrm (by decide) rfl rfl rfl rfl rfl hcat hd hp (hg_kI kk)
theorem lk_X0_41 : hg_Lk RX0 41 yX0_kindNamed cX0_kindNamed 2 (some .int) 0 := ⟨(hg_Uin (List.mem_of_getElem? (i := 521) (by decide +kernel)) (by decide +kernel)), (hg_Uin (List.mem_of_getElem? (i := 524) (by decide +kernel)) (by decide +kernel)), (hg_Uin (List.mem_of_getElem? (i := 61) (by decide +kernel)) (by decide +kernel)), by decide +kernel⟩
theorem se_X0_kindNamed : Cond.instanceMethod yX0_kindNamed ∈ hg_U ∧ Cond.selects yX0_kindNamed.cls yX0_kindNamed yX0_kindNamed ∈ hg_U := ⟨(hg_Uin (List.mem_of_getElem? (i := 523) (by decide +kernel)) (by decide +kernel)), (hg_Uin (List.mem_of_getElem? (i := 8) (by decide +kernel)) (by decide +kernel))⟩
theorem cv_X0_41 (cx : hg_Cx E p s m args meth c cc nL RX0 ret) {rm : Room} {f : Int32 → hg_Mem → Prop} (K : hg_C l E yX0_kindNamed cX0_kindNamed 2 (some .int) rm [.ref (hg_ad E 9)] σ (hg_pi f)) (hrm : rm.cells = 0 ∧ rm.slots = 0 ∧ rm.frames + 1 ≤ R.frames ∧ 8 + (2 + 11) + rm.locals ≤ R.locals) (hcat : (st.map fun v => v.category).sum ≤ 8) (hd : decode cc pc = .ok (.invokevirtual 41, 3)) (hp : pc + 3 = pc') (kk : ∀ r τ, f r τ → hg_G E p l e R s m args below meth c nL Q τ pc' lv (.int r :: st)) : hg_G E p l e R s m args below meth c nL Q σ pc lv (.ref (hg_ad E 9) :: st) := hg_callV (i := 9) cx lk_X0_41 se_X0_kindNamed K hrm (by decide) rfl rfl rfl rfl rfl hcat hd hp (hg_kI kk)
theorem lk_X0_45 : hg_Lk RX0 45 yX0_hatItem cX0_hatItem 3 (some .boolean) 1 := ⟨(hg_Uin (List.mem_of_getElem? (i := 586) (by decide +kernel)) (by decide +kernel)), (hg_Uin (List.mem_of_getElem? (i := 589) (by decide +kernel)) (by decide +kernel)), (hg_Uin (List.mem_of_getElem? (i := 61) (by decide +kernel)) (by decide +kernel)), by decide +kernel⟩
theorem se_X0_hatItem : Cond.instanceMethod yX0_hatItem ∈ hg_U ∧ Cond.selects yX0_hatItem.cls yX0_hatItem yX0_hatItem ∈ hg_U := ⟨(hg_Uin (List.mem_of_getElem? (i := 588) (by decide +kernel)) (by decide +kernel)), (hg_Uin (List.mem_of_getElem? (i := 10) (by decide +kernel)) (by decide +kernel))⟩
theorem cv_X0_45 (cx : hg_Cx E p s m args meth c cc nL RX0 ret) {rm : Room} {v0 : Value} {f : Int32 → hg_Mem → Prop} (K : hg_C l E yX0_hatItem cX0_hatItem 3 (some .boolean) rm [.ref (hg_ad E 9), v0] σ (hg_pi f)) (hrm : rm.cells = 0 ∧ rm.slots = 0 ∧ rm.frames + 1 ≤ R.frames ∧ 8 + (3 + 11) + rm.locals ≤ R.locals) (hcat : (st.map fun v => v.category).sum ≤ 8) (hd : decode cc pc = .ok (.invokevirtual 45, 3)) (hp : pc + 3 = pc') (kk : ∀ r τ, f r τ → hg_G E p l e R s m args below meth c nL Q τ pc' lv (.int r :: st)) : hg_G E p l e R s m args below meth c nL Q σ pc lv (v0 :: .ref (hg_ad E 9) :: st) := hg_callV (i := 9) cx lk_X0_45 se_X0_hatItem K hrm (by decide) rfl rfl rfl rfl rfl hcat hd hp (hg_kI kk)
theorem lk_X0_51 : hg_Lk RX0 51 yX0_takes cX0_takes 2 (some .boolean) 1 := ⟨(hg_Uin (List.mem_of_getElem? (i := 593) (by decide +kernel)) (by decide +kernel)), (hg_Uin (List.mem_of_getElem? (i := 596) (by decide +kernel)) (by decide +kernel)), (hg_Uin (List.mem_of_getElem? (i := 61) (by decide +kernel)) (by decide +kernel)), by decide +kernel⟩
theorem se_X0_takes : Cond.instanceMethod yX0_takes ∈ hg_U ∧ Cond.selects yX0_takes.cls yX0_takes yX0_takes ∈ hg_U := ⟨(hg_Uin (List.mem_of_getElem? (i := 595) (by decide +kernel)) (by decide +kernel)), (hg_Uin (List.mem_of_getElem? (i := 11) (by decide +kernel)) (by decide +kernel))⟩
theorem cv_X0_51 (cx : hg_Cx E p s m args meth c cc nL RX0 ret) {rm : Room} {v0 : Value} {f : Int32 → hg_Mem → Prop} (K : hg_C l E yX0_takes cX0_takes 2 (some .boolean) rm [.ref (hg_ad E 9), v0] σ (hg_pi f)) (hrm : rm.cells = 0 ∧ rm.slots = 0 ∧ rm.frames + 1 ≤ R.frames ∧ 8 + (2 + 11) + rm.locals ≤ R.locals) (hcat : (st.map fun v => v.category).sum ≤ 8) (hd : decode cc pc = .ok (.invokevirtual 51, 3)) (hp : pc + 3 = pc') (kk : ∀ r τ, f r τ → hg_G E p l e R s m args below meth c nL Q τ pc' lv (.int r :: st)) : hg_G E p l e R s m args below meth c nL Q σ pc lv (v0 :: .ref (hg_ad E 9) :: st) := hg_callV (i := 9) cx lk_X0_51 se_X0_takes K hrm (by decide) rfl rfl rfl rfl rfl hcat hd hp (hg_kI kk)
theorem lk_X0_55 : hg_Lk RX0 55 yX0_truthItem cX0_truthItem 1 (some .boolean) 0 := ⟨(hg_Uin (List.mem_of_getElem? (i := 604) (by decide +kernel)) (by decide +kernel)), (hg_Uin (List.mem_of_getElem? (i := 607) (by decide +kernel)) (by decide +kernel)), (hg_Uin (List.mem_of_getElem? (i := 61) (by decide +kernel)) (by decide +kernel)), by decide +kernel⟩
theorem se_X0_truthItem : Cond.instanceMethod yX0_truthItem ∈ hg_U ∧ Cond.selects yX0_truthItem.cls yX0_truthItem yX0_truthItem ∈ hg_U := ⟨(hg_Uin (List.mem_of_getElem? (i := 606) (by decide +kernel)) (by decide +kernel)), (hg_Uin (List.mem_of_getElem? (i := 13) (by decide +kernel)) (by decide +kernel))⟩
theorem cv_X0_55 (cx : hg_Cx E p s m args meth c cc nL RX0 ret) {rm : Room} {f : Int32 → hg_Mem → Prop} (K : hg_C l E yX0_truthItem cX0_truthItem 1 (some .boolean) rm [.ref (hg_ad E 9)] σ (hg_pi f)) (hrm : rm.cells = 0 ∧ rm.slots = 0 ∧ rm.frames + 1 ≤ R.frames ∧ 8 + (1 + 11) + rm.locals ≤ R.locals) (hcat : (st.map fun v => v.category).sum ≤ 8) (hd : decode cc pc = .ok (.invokevirtual 55, 3)) (hp : pc + 3 = pc') (kk : ∀ r τ, f r τ → hg_G E p l e R s m args below meth c nL Q τ pc' lv (.int r :: st)) : hg_G E p l e R s m args below meth c nL Q σ pc lv (.ref (hg_ad E 9) :: st) := hg_callV (i := 9) cx lk_X0_55 se_X0_truthItem K hrm (by decide) rfl rfl rfl rfl rfl hcat hd hp (hg_kI kk)
theorem lk_X0_60 : hg_Lk RX0 60 yX0_holdsItem cX0_holdsItem 2 (some .boolean) 0 := ⟨(hg_Uin (List.mem_of_getElem? (i := 609) (by decide +kernel)) (by decide +kernel)), (hg_Uin (List.mem_of_getElem? (i := 612) (by decide +kernel)) (by decide +kernel)), (hg_Uin (List.mem_of_getElem? (i := 61) (by decide +kernel)) (by decide +kernel)), by decide +kernel⟩
theorem se_X0_holdsItem : Cond.instanceMethod yX0_holdsItem ∈ hg_U ∧ Cond.selects yX0_holdsItem.cls yX0_holdsItem yX0_holdsItem ∈ hg_U := ⟨(hg_Uin (List.mem_of_getElem? (i := 611) (by decide +kernel)) (by decide +kernel)), (hg_Uin (List.mem_of_getElem? (i := 14) (by decide +kernel)) (by decide +kernel))⟩
theorem cv_X0_60 (cx : hg_Cx E p s m args meth c cc nL RX0 ret) {rm : Room} {f : Int32 → hg_Mem → Prop} (K : hg_C l E yX0_holdsItem cX0_holdsItem 2 (some .boolean) rm [.ref (hg_ad E 9)] σ (hg_pi f)) (hrm : rm.cells = 0 ∧ rm.slots = 0 ∧ rm.frames + 1 ≤ R.frames ∧ 8 + (2 + 11) + rm.locals ≤ R.locals) (hcat : (st.map fun v => v.category).sum ≤ 8) (hd : decode cc pc = .ok (.invokevirtual 60, 3)) (hp : pc + 3 = pc') (kk : ∀ r τ, f r τ → hg_G E p l e R s m args below meth c nL Q τ pc' lv (.int r :: st)) : hg_G E p l e R s m args below meth c nL Q σ pc lv (.ref (hg_ad E 9) :: st) := hg_callV (i := 9) cx lk_X0_60 se_X0_holdsItem K hrm (by decide) rfl rfl rfl rfl rfl hcat hd hp (hg_kI kk)
theorem lk_X0_65 : hg_Lk RX0 65 yX0_liftItem cX0_liftItem 1 (some .boolean) 0 := ⟨(hg_Uin (List.mem_of_getElem? (i := 616) (by decide +kernel)) (by decide +kernel)), (hg_Uin (List.mem_of_getElem? (i := 619) (by decide +kernel)) (by decide +kernel)), (hg_Uin (List.mem_of_getElem? (i := 61) (by decide +kernel)) (by decide +kernel)), by decide +kernel⟩
theorem se_X0_liftItem : Cond.instanceMethod yX0_liftItem ∈ hg_U ∧ Cond.selects yX0_liftItem.cls yX0_liftItem yX0_liftItem ∈ hg_U := ⟨(hg_Uin (List.mem_of_getElem? (i := 618) (by decide +kernel)) (by decide +kernel)), (hg_Uin (List.mem_of_getElem? (i := 15) (by decide +kernel)) (by decide +kernel))⟩
theorem cv_X0_65 (cx : hg_Cx E p s m args meth c cc nL RX0 ret) {rm : Room} {f : Int32 → hg_Mem → Prop} (K : hg_C l E yX0_liftItem cX0_liftItem 1 (some .boolean) rm [.ref (hg_ad E 9)] σ (hg_pi f)) (hrm : rm.cells = 0 ∧ rm.slots = 0 ∧ rm.frames + 1 ≤ R.frames ∧ 8 + (1 + 11) + rm.locals ≤ R.locals) (hcat : (st.map fun v => v.category).sum ≤ 8) (hd : decode cc pc = .ok (.invokevirtual 65, 3)) (hp : pc + 3 = pc') (kk : ∀ r τ, f r τ → hg_G E p l e R s m args below meth c nL Q τ pc' lv (.int r :: st)) : hg_G E p l e R s m args below meth c nL Q σ pc lv (.ref (hg_ad E 9) :: st) := hg_callV (i := 9) cx lk_X0_65 se_X0_liftItem K hrm (by decide) rfl rfl rfl rfl rfl hcat hd hp (hg_kI kk)
theorem lk_X0_68 : hg_Lk RX0 68 yX3_isFull cX3_isFull 1 (some .boolean) 0 := ⟨(hg_Uin (List.mem_of_getElem? (i := 590) (by decide +kernel)) (by decide +kernel)), (hg_Uin (List.mem_of_getElem? (i := 305) (by decide +kernel)) (by decide +kernel)), (hg_Uin (List.mem_of_getElem? (i := 58) (by decide +kernel)) (by decide +kernel)), by decide +kernel⟩
theorem cv_X0_68 (cx : hg_Cx E p s m args meth c cc nL RX0 ret) {i : Nat} (h1 : 1 ≤ i) (h2 : i < 4) {rm : Room} {f : Int32 → hg_Mem → Prop} (K : hg_C l E yX3_isFull cX3_isFull 1 (some .boolean) rm [.ref (hg_ad E i)] σ (hg_pi f)) (hrm : rm.cells = 0 ∧ rm.slots = 0 ∧ rm.frames + 1 ≤ R.frames ∧ 8 + (1 + 11) + rm.locals ≤ R.locals) (hcat : (st.map fun v => v.category).sum ≤ 8) (hd : decode cc pc = .ok (.invokevirtual 68, 3)) (hp : pc + 3 = pc') (kk : ∀ r τ, f r τ → hg_G E p l e R s m args below meth c nL Q τ pc' lv (.int r :: st)) : hg_G E p l e R s m args below meth c nL Q σ pc lv (.ref (hg_ad E i) :: st) := hg_callV (i := i) cx lk_X0_68 se_X3_isFull K hrm (by omega) (hg_ceTab E _ _ h1 h2) rfl rfl rfl rfl hcat hd hp (hg_kI kk)
theorem lk_X0_73 : hg_Lk RX0 73 yX3_add cX3_add 3 none 2 := ⟨(hg_Uin (List.mem_of_getElem? (i := 591) (by decide +kernel)) (by decide +kernel)), (hg_Uin (List.mem_of_getElem? (i := 310) (by decide +kernel)) (by decide +kernel)), (hg_Uin (List.mem_of_getElem? (i := 58) (by decide +kernel)) (by decide +kernel)), by decide +kernel⟩
theorem cv_X0_73 (cx : hg_Cx E p s m args meth c cc nL RX0 ret) {i : Nat} (h1 : 1 ≤ i) (h2 : i < 4) {rm : Room} {v0 v1 : Value} {f : hg_Mem → Prop} (K : hg_C l E yX3_add cX3_add 3 none rm [.ref (hg_ad E i), v0, v1] σ (hg_pv f)) (hrm : rm.cells = 0 ∧ rm.slots = 0 ∧ rm.frames + 1 ≤ R.frames ∧ 8 + (3 + 11) + rm.locals ≤ R.locals) (hcat : (st.map fun v => v.category).sum ≤ 8) (hd : decode cc pc = .ok (.invokevirtual 73, 3)) (hp : pc + 3 = pc') (kk : ∀ τ, f τ → hg_G E p l e R s m args below meth c nL Q τ pc' lv st) : hg_G E p l e R s m args below meth c nL Q σ pc lv (v1 :: v0 :: .ref (hg_ad E i) :: st) := hg_callV (i := i) cx lk_X0_73 se_X3_add K hrm (by omega) (hg_ceTab E _ _ h1 h2) rfl rfl rfl rfl hcat hd hp (hg_kV kk)
theorem lk_X0_86 : hg_Lk RX0 86 yX0_isNumberUpTo cX0_isNumberUpTo 2 (some .boolean) 1 := ⟨(hg_Uin (List.mem_of_getElem? (i := 597) (by decide +kernel)) (by decide +kernel)), (hg_Uin (List.mem_of_getElem? (i := 600) (by decide +kernel)) (by decide +kernel)), (hg_Uin (List.mem_of_getElem? (i := 61) (by decide +kernel)) (by decide +kernel)), by decide +kernel⟩
theorem se_X0_isNumberUpTo : Cond.instanceMethod yX0_isNumberUpTo ∈ hg_U ∧ Cond.selects yX0_isNumberUpTo.cls yX0_isNumberUpTo yX0_isNumberUpTo ∈ hg_U := ⟨(hg_Uin (List.mem_of_getElem? (i := 599) (by decide +kernel)) (by decide +kernel)), (hg_Uin (List.mem_of_getElem? (i := 12) (by decide +kernel)) (by decide +kernel))⟩
theorem cv_X0_86 (cx : hg_Cx E p s m args meth c cc nL RX0 ret) {rm : Room} {v0 : Value} {f : Int32 → hg_Mem → Prop} (K : hg_C l E yX0_isNumberUpTo cX0_isNumberUpTo 2 (some .boolean) rm [.ref (hg_ad E 9), v0] σ (hg_pi f)) (hrm : rm.cells = 0 ∧ rm.slots = 0 ∧ rm.frames + 1 ≤ R.frames ∧ 8 + (2 + 11) + rm.locals ≤ R.locals) (hcat : (st.map fun v => v.category).sum ≤ 8) (hd : decode cc pc = .ok (.invokevirtual 86, 3)) (hp : pc + 3 = pc') (kk : ∀ r τ, f r τ → hg_G E p l e R s m args below meth c nL Q τ pc' lv (.int r :: st)) : hg_G E p l e R s m args below meth c nL Q σ pc lv (v0 :: .ref (hg_ad E 9) :: st) := hg_callV (i := 9) cx lk_X0_86 se_X0_isNumberUpTo K hrm (by decide) rfl rfl rfl rfl rfl hcat hd hp (hg_kI kk)
theorem lk_X0_114 : hg_Lk RX0 114 yX3_has cX3_has 2 (some .boolean) 1 := ⟨(hg_Uin (List.mem_of_getElem? (i := 620) (by decide +kernel)) (by decide +kernel)), (hg_Uin (List.mem_of_getElem? (i := 323) (by decide +kernel)) (by decide +kernel)), (hg_Uin (List.mem_of_getElem? (i := 58) (by decide +kernel)) (by decide +kernel)), by decide +kernel⟩
theorem cv_X0_114 (cx : hg_Cx E p s m args meth c cc nL RX0 ret) {i : Nat} (h1 : 1 ≤ i) (h2 : i < 4) {rm : Room} {v0 : Value} {f : Int32 → hg_Mem → Prop} (K : hg_C l E yX3_has cX3_has 2 (some .boolean) rm [.ref (hg_ad E i), v0] σ (hg_pi f)) (hrm : rm.cells = 0 ∧ rm.slots = 0 ∧ rm.frames + 1 ≤ R.frames ∧ 8 + (2 + 11) + rm.locals ≤ R.locals) (hcat : (st.map fun v => v.category).sum ≤ 8) (hd : decode cc pc = .ok (.invokevirtual 114, 3)) (hp : pc + 3 = pc') (kk : ∀ r τ, f r τ → hg_G E p l e R s m args below meth c nL Q τ pc' lv (.int r :: st)) : hg_G E p l e R s m args below meth c nL Q σ pc lv (v0 :: .ref (hg_ad E i) :: st) := hg_callV (i := i) cx lk_X0_114 se_X3_has K hrm (by omega) (hg_ceTab E _ _ h1 h2) rfl rfl rfl rfl hcat hd hp (hg_kI kk)
theorem lk_X0_117 : hg_Lk RX0 117 yX0_nameOf cX0_nameOf 1 (some (.object "java/lang/String")) 1 := ⟨(hg_Uin (List.mem_of_getElem? (i := 525) (by decide +kernel)) (by decide +kernel)), (hg_Uin (List.mem_of_getElem? (i := 527) (by decide +kernel)) (by decide +kernel)), (hg_Uin (List.mem_of_getElem? (i := 61) (by decide +kernel)) (by decide +kernel)), by decide +kernel⟩
theorem se_X0_nameOf : Cond.static yX0_nameOf ∈ hg_U := (hg_Uin (List.mem_of_getElem? (i := 526) (by decide +kernel)) (by decide +kernel))
theorem cs_X0_117 (cx : hg_Cx E p s m args meth c cc nL RX0 ret) {rm : Room} {v0 : Value} {f : Nat → hg_Mem → Prop} (K : hg_C l E yX0_nameOf cX0_nameOf 1 (some (.object "java/lang/String")) rm [v0] σ (hg_pr f)) (hrm : rm.cells = 0 ∧ rm.slots = 0 ∧ rm.frames + 1 ≤ R.frames ∧ 8 + (1 + 11) + rm.locals ≤ R.locals) (hcat : (st.map fun v => v.category).sum ≤ 8) (hd : decode cc pc = .ok (.invokestatic 117, 3)) (hp : pc + 3 = pc') (kk : ∀ r τ, f r τ → hg_G E p l e R s m args below meth c nL Q τ pc' lv (.ref r :: st)) : hg_G E p l e R s m args below meth c nL Q σ pc lv (v0 :: st) := hg_callS cx lk_X0_117 se_X0_nameOf K hrm rfl rfl hcat hd hp (hg_kR kk)
theorem lk_X0_121 : hg_Lk RX0 121 yX0_isWord cX0_isWord 4 (some .boolean) 1 := ⟨(hg_Uin (List.mem_of_getElem? (i := 534) (by decide +kernel)) (by decide +kernel)), (hg_Uin (List.mem_of_getElem? (i := 537) (by decide +kernel)) (by decide +kernel)), (hg_Uin (List.mem_of_getElem? (i := 61) (by decide +kernel)) (by decide +kernel)), by decide +kernel⟩
theorem se_X0_isWord : Cond.instanceMethod yX0_isWord ∈ hg_U ∧ Cond.selects yX0_isWord.cls yX0_isWord yX0_isWord ∈ hg_U := ⟨(hg_Uin (List.mem_of_getElem? (i := 536) (by decide +kernel)) (by decide +kernel)), (hg_Uin (List.mem_of_getElem? (i := 9) (by decide +kernel)) (by decide +kernel))⟩
theorem cv_X0_121 (cx : hg_Cx E p s m args meth c cc nL RX0 ret) {rm : Room} {v0 : Value} {f : Int32 → hg_Mem → Prop} (K : hg_C l E yX0_isWord cX0_isWord 4 (some .boolean) rm [.ref (hg_ad E 9), v0] σ (hg_pi f)) (hrm : rm.cells = 0 ∧ rm.slots = 0 ∧ rm.frames + 1 ≤ R.frames ∧ 8 + (4 + 11) + rm.locals ≤ R.locals) (hcat : (st.map fun v => v.category).sum ≤ 8) (hd : decode cc pc = .ok (.invokevirtual 121, 3)) (hp : pc + 3 = pc') (kk : ∀ r τ, f r τ → hg_G E p l e R s m args below meth c nL Q τ pc' lv (.int r :: st)) : hg_G E p l e R s m args below meth c nL Q σ pc lv (v0 :: .ref (hg_ad E 9) :: st) := hg_callV (i := 9) cx lk_X0_121 se_X0_isWord K hrm (by decide) rfl rfl rfl rfl rfl hcat hd hp (hg_kI kk)
theorem lk_X0_136 : hg_Lk RX0 136 yJ0_length_8abf5 cJ0_length_8abf5 1 (some .int) 0 := ⟨(hg_Uin (List.mem_of_getElem? (i := 538) (by decide +kernel)) (by decide +kernel)), (hg_Uin (List.mem_of_getElem? (i := 541) (by decide +kernel)) (by decide +kernel)), (hg_Uin (List.mem_of_getElem? (i := 66) (by decide +kernel)) (by decide +kernel)), by decide +kernel⟩
theorem se_J0_length_8abf5 : Cond.instanceMethod yJ0_length_8abf5 ∈ hg_U ∧ Cond.selects yJ0_length_8abf5.cls yJ0_length_8abf5 yJ0_length_8abf5 ∈ hg_U := ⟨(hg_Uin (List.mem_of_getElem? (i := 539) (by decide +kernel)) (by decide +kernel)), (hg_Uin (List.mem_of_getElem? (i := 540) (by decide +kernel)) (by decide +kernel))⟩
theorem lk_X0_140 : hg_Lk RX0 140 yJ0_charAt_5068e cJ0_charAt_5068e 2 (some .char) 1 := ⟨(hg_Uin (List.mem_of_getElem? (i := 548) (by decide +kernel)) (by decide +kernel)), (hg_Uin (List.mem_of_getElem? (i := 551) (by decide +kernel)) (by decide +kernel)), (hg_Uin (List.mem_of_getElem? (i := 66) (by decide +kernel)) (by decide +kernel)), by decide +kernel⟩
theorem se_J0_charAt_5068e : Cond.instanceMethod yJ0_charAt_5068e ∈ hg_U ∧ Cond.selects yJ0_charAt_5068e.cls yJ0_charAt_5068e yJ0_charAt_5068e ∈ hg_U := ⟨(hg_Uin (List.mem_of_getElem? (i := 549) (by decide +kernel)) (by decide +kernel)), (hg_Uin (List.mem_of_getElem? (i := 550) (by decide +kernel)) (by decide +kernel))⟩
theorem lk_X0_144 : hg_Lk RX0 144 yX4_isAt cX4_isAt 4 (some .boolean) 3 := ⟨(hg_Uin (List.mem_of_getElem? (i := 509) (by decide +kernel)) (by decide +kernel)), (hg_Uin (List.mem_of_getElem? (i := 512) (by decide +kernel)) (by decide +kernel)), (hg_Uin (List.mem_of_getElem? (i := 60) (by decide +kernel)) (by decide +kernel)), by decide +kernel⟩
theorem se_X4_isAt : Cond.instanceMethod yX4_isAt ∈ hg_U ∧ Cond.selects yX4_isAt.cls yX4_isAt yX4_isAt ∈ hg_U := ⟨(hg_Uin (List.mem_of_getElem? (i := 510) (by decide +kernel)) (by decide +kernel)), (hg_Uin (List.mem_of_getElem? (i := 511) (by decide +kernel)) (by decide +kernel))⟩
theorem cv_X0_144 (cx : hg_Cx E p s m args meth c cc nL RX0 ret) {rm : Room} {v0 v1 v2 : Value} {f : Int32 → hg_Mem → Prop} (K : hg_C l E yX4_isAt cX4_isAt 4 (some .boolean) rm [.ref (hg_ad E 7), v0, v1, v2] σ (hg_pi f)) (hrm : rm.cells = 0 ∧ rm.slots = 0 ∧ rm.frames + 1 ≤ R.frames ∧ 8 + (4 + 11) + rm.locals ≤ R.locals) (hcat : (st.map fun v => v.category).sum ≤ 8) (hd : decode cc pc = .ok (.invokevirtual 144, 3)) (hp : pc + 3 = pc') (kk : ∀ r τ, f r τ → hg_G E p l e R s m args below meth c nL Q τ pc' lv (.int r :: st)) : hg_G E p l e R s m args below meth c nL Q σ pc lv (v2 :: v1 :: v0 :: .ref (hg_ad E 7) :: st) := hg_callV (i := 7) cx lk_X0_144 se_X4_isAt K hrm (by decide) rfl rfl rfl rfl rfl hcat hd hp (hg_kI kk)
theorem lk_X0_148 : hg_Lk RX0 148 yX4_endOfRun cX4_endOfRun 5 (some .int) 3 := ⟨(hg_Uin (List.mem_of_getElem? (i := 505) (by decide +kernel)) (by decide +kernel)), (hg_Uin (List.mem_of_getElem? (i := 508) (by decide +kernel)) (by decide +kernel)), (hg_Uin (List.mem_of_getElem? (i := 60) (by decide +kernel)) (by decide +kernel)), by decide +kernel⟩
theorem se_X4_endOfRun : Cond.instanceMethod yX4_endOfRun ∈ hg_U ∧ Cond.selects yX4_endOfRun.cls yX4_endOfRun yX4_endOfRun ∈ hg_U := ⟨(hg_Uin (List.mem_of_getElem? (i := 506) (by decide +kernel)) (by decide +kernel)), (hg_Uin (List.mem_of_getElem? (i := 507) (by decide +kernel)) (by decide +kernel))⟩
theorem cv_X0_148 (cx : hg_Cx E p s m args meth c cc nL RX0 ret) {rm : Room} {v0 v1 v2 : Value} {f : Int32 → hg_Mem → Prop} (K : hg_C l E yX4_endOfRun cX4_endOfRun 5 (some .int) rm [.ref (hg_ad E 7), v0, v1, v2] σ (hg_pi f)) (hrm : rm.cells = 0 ∧ rm.slots = 0 ∧ rm.frames + 1 ≤ R.frames ∧ 8 + (5 + 11) + rm.locals ≤ R.locals) (hcat : (st.map fun v => v.category).sum ≤ 8) (hd : decode cc pc = .ok (.invokevirtual 148, 3)) (hp : pc + 3 = pc') (kk : ∀ r τ, f r τ → hg_G E p l e R s m args below meth c nL Q τ pc' lv (.int r :: st)) : hg_G E p l e R s m args below meth c nL Q σ pc lv (v2 :: v1 :: v0 :: .ref (hg_ad E 7) :: st) := hg_callV (i := 7) cx lk_X0_148 se_X4_endOfRun K hrm (by decide) rfl rfl rfl rfl rfl hcat hd hp (hg_kI kk)
theorem lk_X0_152 : hg_Lk RX0 152 yX0_valueOfDigits cX0_valueOfDigits 3 (some .int) 0 := ⟨(hg_Uin (List.mem_of_getElem? (i := 513) (by decide +kernel)) (by decide +kernel)), (hg_Uin (List.mem_of_getElem? (i := 516) (by decide +kernel)) (by decide +kernel)), (hg_Uin (List.mem_of_getElem? (i := 61) (by decide +kernel)) (by decide +kernel)), by decide +kernel⟩
theorem se_X0_valueOfDigits : Cond.instanceMethod yX0_valueOfDigits ∈ hg_U ∧ Cond.selects yX0_valueOfDigits.cls yX0_valueOfDigits yX0_valueOfDigits ∈ hg_U := ⟨(hg_Uin (List.mem_of_getElem? (i := 515) (by decide +kernel)) (by decide +kernel)), (hg_Uin (List.mem_of_getElem? (i := 6) (by decide +kernel)) (by decide +kernel))⟩
theorem cv_X0_152 (cx : hg_Cx E p s m args meth c cc nL RX0 ret) {rm : Room} {f : Int32 → hg_Mem → Prop} (K : hg_C l E yX0_valueOfDigits cX0_valueOfDigits 3 (some .int) rm [.ref (hg_ad E 9)] σ (hg_pi f)) (hrm : rm.cells = 0 ∧ rm.slots = 0 ∧ rm.frames + 1 ≤ R.frames ∧ 8 + (3 + 11) + rm.locals ≤ R.locals) (hcat : (st.map fun v => v.category).sum ≤ 8) (hd : decode cc pc = .ok (.invokevirtual 152, 3)) (hp : pc + 3 = pc') (kk : ∀ r τ, f r τ → hg_G E p l e R s m args below meth c nL Q τ pc' lv (.int r :: st)) : hg_G E p l e R s m args below meth c nL Q σ pc lv (.ref (hg_ad E 9) :: st) := hg_callV (i := 9) cx lk_X0_152 se_X0_valueOfDigits K hrm (by decide) rfl rfl rfl rfl rfl hcat hd hp (hg_kI kk)
theorem lk_X1_30 : hg_Lk RX1 30 yX1_answerAsBowler cX1_answerAsBowler 2 (some .int) 1 := ⟨(hg_Uin (List.mem_of_getElem? (i := 275) (by decide +kernel)) (by decide +kernel)), (hg_Uin (List.mem_of_getElem? (i := 278) (by decide +kernel)) (by decide +kernel)), (hg_Uin (List.mem_of_getElem? (i := 59) (by decide +kernel)) (by decide +kernel)), by decide +kernel⟩
theorem se_X1_answerAsBowler : Cond.instanceMethod yX1_answerAsBowler ∈ hg_U ∧ Cond.selects yX1_answerAsBowler.cls yX1_answerAsBowler yX1_answerAsBowler ∈ hg_U := ⟨(hg_Uin (List.mem_of_getElem? (i := 277) (by decide +kernel)) (by decide +kernel)), (hg_Uin (List.mem_of_getElem? (i := 1) (by decide +kernel)) (by decide +kernel))⟩
theorem cv_X1_30 (cx : hg_Cx E p s m args meth c cc nL RX1 ret) {i : Nat} (h1 : 20 ≤ i) (h2 : i < 50) {rm : Room} {v0 : Value} {f : Int32 → hg_Mem → Prop} (K : hg_C l E yX1_answerAsBowler cX1_answerAsBowler 2 (some .int) rm [.ref (hg_ad E i), v0] σ (hg_pi f)) (hrm : rm.cells = 0 ∧ rm.slots = 0 ∧ rm.frames + 1 ≤ R.frames ∧ 8 + (2 + 11) + rm.locals ≤ R.locals) (hcat : (st.map fun v => v.category).sum ≤ 8) (hd : decode cc pc = .ok (.invokevirtual 30, 3)) (hp : pc + 3 = pc') (kk : ∀ r τ, f r τ → hg_G E p l e R s m args below meth c nL Q τ pc' lv (.int r :: st)) : hg_G E p l e R s m args below meth c nL Q σ pc lv (v0 :: .ref (hg_ad E i) :: st) := hg_callV (i := i) cx lk_X1_30 se_X1_answerAsBowler K hrm (by omega) (hg_ceDel E _ _ h1 h2) rfl rfl rfl rfl hcat hd hp (hg_kI kk)
theorem lk_X1_34 : hg_Lk RX1 34 yX1_answerAsCap cX1_answerAsCap 3 (some .int) 2 := ⟨(hg_Uin (List.mem_of_getElem? (i := 282) (by decide +kernel)) (by decide +kernel)), (hg_Uin (List.mem_of_getElem? (i := 285) (by decide +kernel)) (by decide +kernel)), (hg_Uin (List.mem_of_getElem? (i := 59) (by decide +kernel)) (by decide +kernel)), by decide +kernel⟩
theorem se_X1_answerAsCap : Cond.instanceMethod yX1_answerAsCap ∈ hg_U ∧ Cond.selects yX1_answerAsCap.cls yX1_answerAsCap yX1_answerAsCap ∈ hg_U := ⟨(hg_Uin (List.mem_of_getElem? (i := 284) (by decide +kernel)) (by decide +kernel)), (hg_Uin (List.mem_of_getElem? (i := 2) (by decide +kernel)) (by decide +kernel))⟩
theorem cv_X1_34 (cx : hg_Cx E p s m args meth c cc nL RX1 ret) {i : Nat} (h1 : 20 ≤ i) (h2 : i < 50) {rm : Room} {v0 v1 : Value} {f : Int32 → hg_Mem → Prop} (K : hg_C l E yX1_answerAsCap cX1_answerAsCap 3 (some .int) rm [.ref (hg_ad E i), v0, v1] σ (hg_pi f)) (hrm : rm.cells = 0 ∧ rm.slots = 0 ∧ rm.frames + 1 ≤ R.frames ∧ 8 + (3 + 11) + rm.locals ≤ R.locals) (hcat : (st.map fun v => v.category).sum ≤ 8) (hd : decode cc pc = .ok (.invokevirtual 34, 3)) (hp : pc + 3 = pc') (kk : ∀ r τ, f r τ → hg_G E p l e R s m args below meth c nL Q τ pc' lv (.int r :: st)) : hg_G E p l e R s m args below meth c nL Q σ pc lv (v1 :: v0 :: .ref (hg_ad E i) :: st) := hg_callV (i := i) cx lk_X1_34 se_X1_answerAsCap K hrm (by omega) (hg_ceDel E _ _ h1 h2) rfl rfl rfl rfl hcat hd hp (hg_kI kk)
theorem lk_X1_38 : hg_LkN RX1 38 yX5_bit cX5_bit 2 (some .int) 2 "HatCongress" := ⟨by decide +kernel, (hg_Uin (List.mem_of_getElem? (i := 281) (by decide +kernel)) (by decide +kernel)), (hg_Uin (List.mem_of_getElem? (i := 57) (by decide +kernel)) (by decide +kernel)), by decide +kernel⟩
theorem cs_X1_38 (cx : hg_Cx E p s m args meth c cc nL RX1 ret) {rm : Room} {v0 v1 : Value} {f : Int32 → hg_Mem → Prop} (K : hg_C l E yX5_bit cX5_bit 2 (some .int) rm [v0, v1] σ (hg_pi f)) (hrm : rm.cells = 0 ∧ rm.slots = 0 ∧ rm.frames + 1 ≤ R.frames ∧ 8 + (2 + 11) + rm.locals ≤ R.locals) (hcat : (st.map fun v => v.category).sum ≤ 8) (hd : decode cc pc = .ok (.invokestatic 38, 3)) (hp : pc + 3 = pc') (kk : ∀ r τ, f r τ → hg_G E p l e R s m args below meth c nL Q τ pc' lv (.int r :: st)) : hg_G E p l e R s m args below meth c nL Q σ pc lv (v1 :: v0 :: st) := hg_callSN cx lk_X1_38 se_X5_bit K hrm rfl rfl hcat hd hp (hg_kI kk)
theorem lk_X1_41 : hg_Lk RX1 41 yJ9_min_7cf53 cJ9_min_7cf53 2 (some .int) 2 := ⟨(hg_Uin (List.mem_of_getElem? (i := 390) (by decide +kernel)) (by decide +kernel)), (hg_Uin (List.mem_of_getElem? (i := 392) (by decide +kernel)) (by decide +kernel)), (hg_Uin (List.mem_of_getElem? (i := 64) (by decide +kernel)) (by decide +kernel)), by decide +kernel⟩
theorem se_J9_min_7cf53 : Cond.static yJ9_min_7cf53 ∈ hg_U := (hg_Uin (List.mem_of_getElem? (i := 391) (by decide +kernel)) (by decide +kernel))
theorem cs_X1_41 (cx : hg_Cx E p s m args meth c cc nL RX1 ret) {rm : Room} {v0 v1 : Value} {f : Int32 → hg_Mem → Prop} (K : hg_C l E yJ9_min_7cf53 cJ9_min_7cf53 2 (some .int) rm [v0, v1] σ (hg_pi f)) (hrm : rm.cells = 0 ∧ rm.slots = 0 ∧ rm.frames + 1 ≤ R.frames ∧ 8 + (2 + 11) + rm.locals ≤ R.locals) (hcat : (st.map fun v => v.category).sum ≤ 8) (hd : decode cc pc = .ok (.invokestatic 41, 3)) (hp : pc + 3 = pc') (kk : ∀ r τ, f r τ → hg_G E p l e R s m args below meth c nL Q τ pc' lv (.int r :: st)) : hg_G E p l e R s m args below meth c nL Q σ pc lv (v1 :: v0 :: st) := hg_callS cx lk_X1_41 se_J9_min_7cf53 K hrm rfl rfl hcat hd hp (hg_kI kk)
theorem lk_X1_46 : hg_Lk RX1 46 yX1_stir cX1_stir 1 (some .int) 0 := ⟨(hg_Uin (List.mem_of_getElem? (i := 393) (by decide +kernel)) (by decide +kernel)), (hg_Uin (List.mem_of_getElem? (i := 332) (by decide +kernel)) (by decide +kernel)), (hg_Uin (List.mem_of_getElem? (i := 59) (by decide +kernel)) (by decide +kernel)), by decide +kernel⟩
theorem cv_X1_46 (cx : hg_Cx E p s m args meth c cc nL RX1 ret) {i : Nat} (h1 : 20 ≤ i) (h2 : i < 50) {rm : Room} {f : Int32 → hg_Mem → Prop} (K : hg_C l E yX1_stir cX1_stir 1 (some .int) rm [.ref (hg_ad E i)] σ (hg_pi f)) (hrm : rm.cells = 0 ∧ rm.slots = 0 ∧ rm.frames + 1 ≤ R.frames ∧ 8 + (1 + 11) + rm.locals ≤ R.locals) (hcat : (st.map fun v => v.category).sum ≤ 8) (hd : decode cc pc = .ok (.invokevirtual 46, 3)) (hp : pc + 3 = pc') (kk : ∀ r τ, f r τ → hg_G E p l e R s m args below meth c nL Q τ pc' lv (.int r :: st)) : hg_G E p l e R s m args below meth c nL Q σ pc lv (.ref (hg_ad E i) :: st) := hg_callV (i := i) cx lk_X1_46 se_X1_stir K hrm (by omega) (hg_ceDel E _ _ h1 h2) rfl rfl rfl rfl hcat hd hp (hg_kI kk)
theorem lk_X1_50 : hg_Lk RX1 50 yX1_isLearning cX1_isLearning 2 (some .boolean) 1 := ⟨(hg_Uin (List.mem_of_getElem? (i := 398) (by decide +kernel)) (by decide +kernel)), (hg_Uin (List.mem_of_getElem? (i := 328) (by decide +kernel)) (by decide +kernel)), (hg_Uin (List.mem_of_getElem? (i := 59) (by decide +kernel)) (by decide +kernel)), by decide +kernel⟩
theorem cv_X1_50 (cx : hg_Cx E p s m args meth c cc nL RX1 ret) {i : Nat} (h1 : 20 ≤ i) (h2 : i < 50) {rm : Room} {v0 : Value} {f : Int32 → hg_Mem → Prop} (K : hg_C l E yX1_isLearning cX1_isLearning 2 (some .boolean) rm [.ref (hg_ad E i), v0] σ (hg_pi f)) (hrm : rm.cells = 0 ∧ rm.slots = 0 ∧ rm.frames + 1 ≤ R.frames ∧ 8 + (2 + 11) + rm.locals ≤ R.locals) (hcat : (st.map fun v => v.category).sum ≤ 8) (hd : decode cc pc = .ok (.invokevirtual 50, 3)) (hp : pc + 3 = pc') (kk : ∀ r τ, f r τ → hg_G E p l e R s m args below meth c nL Q τ pc' lv (.int r :: st)) : hg_G E p l e R s m args below meth c nL Q σ pc lv (v0 :: .ref (hg_ad E i) :: st) := hg_callV (i := i) cx lk_X1_50 se_X1_isLearning K hrm (by omega) (hg_ceDel E _ _ h1 h2) rfl rfl rfl rfl hcat hd hp (hg_kI kk)
theorem lk_X1_54 : hg_Lk RX1 54 yJ9_max_7cf53 cJ9_max_7cf53 2 (some .int) 2 := ⟨(hg_Uin (List.mem_of_getElem? (i := 399) (by decide +kernel)) (by decide +kernel)), (hg_Uin (List.mem_of_getElem? (i := 401) (by decide +kernel)) (by decide +kernel)), (hg_Uin (List.mem_of_getElem? (i := 64) (by decide +kernel)) (by decide +kernel)), by decide +kernel⟩
theorem se_J9_max_7cf53 : Cond.static yJ9_max_7cf53 ∈ hg_U := (hg_Uin (List.mem_of_getElem? (i := 400) (by decide +kernel)) (by decide +kernel))
theorem cs_X1_54 (cx : hg_Cx E p s m args meth c cc nL RX1 ret) {rm : Room} {v0 v1 : Value} {f : Int32 → hg_Mem → Prop} (K : hg_C l E yJ9_max_7cf53 cJ9_max_7cf53 2 (some .int) rm [v0, v1] σ (hg_pi f)) (hrm : rm.cells = 0 ∧ rm.slots = 0 ∧ rm.frames + 1 ≤ R.frames ∧ 8 + (2 + 11) + rm.locals ≤ R.locals) (hcat : (st.map fun v => v.category).sum ≤ 8) (hd : decode cc pc = .ok (.invokestatic 54, 3)) (hp : pc + 3 = pc') (kk : ∀ r τ, f r τ → hg_G E p l e R s m args below meth c nL Q τ pc' lv (.int r :: st)) : hg_G E p l e R s m args below meth c nL Q σ pc lv (v1 :: v0 :: st) := hg_callS cx lk_X1_54 se_J9_max_7cf53 K hrm rfl rfl hcat hd hp (hg_kI kk)
theorem lk_X2_19 : hg_Lk RX2 19 yX2_isMissing cX2_isMissing 1 (some .boolean) 0 := ⟨(hg_Uin (List.mem_of_getElem? (i := 637) (by decide +kernel)) (by decide +kernel)), (hg_Uin (List.mem_of_getElem? (i := 640) (by decide +kernel)) (by decide +kernel)), (hg_Uin (List.mem_of_getElem? (i := 62) (by decide +kernel)) (by decide +kernel)), by decide +kernel⟩
theorem cv_X2_19 (cx : hg_Cx E p s m args meth c cc nL RX2 ret) {i : Nat} (h1 : 12 ≤ i) (h2 : i < 16) {rm : Room} {f : Int32 → hg_Mem → Prop} (K : hg_C l E yX2_isMissing cX2_isMissing 1 (some .boolean) rm [.ref (hg_ad E i)] σ (hg_pi f)) (hrm : rm.cells = 0 ∧ rm.slots = 0 ∧ rm.frames + 1 ≤ R.frames ∧ 8 + (1 + 11) + rm.locals ≤ R.locals) (hcat : (st.map fun v => v.category).sum ≤ 8) (hd : decode cc pc = .ok (.invokevirtual 19, 3)) (hp : pc + 3 = pc') (kk : ∀ r τ, f r τ → hg_G E p l e R s m args below meth c nL Q τ pc' lv (.int r :: st)) : hg_G E p l e R s m args below meth c nL Q σ pc lv (.ref (hg_ad E i) :: st) := hg_callV (i := i) cx lk_X2_19 se_X2_isMissing K hrm (by omega) (hg_ceShe E _ _ h1 h2) rfl rfl rfl rfl hcat hd hp (hg_kI kk)
theorem lk_X2_23 : hg_Lk RX2 23 yJ9_min_7cf53 cJ9_min_7cf53 2 (some .int) 2 := ⟨(hg_Uin (List.mem_of_getElem? (i := 641) (by decide +kernel)) (by decide +kernel)), (hg_Uin (List.mem_of_getElem? (i := 392) (by decide +kernel)) (by decide +kernel)), (hg_Uin (List.mem_of_getElem? (i := 64) (by decide +kernel)) (by decide +kernel)), by decide +kernel⟩
theorem cs_X2_23 (cx : hg_Cx E p s m args meth c cc nL RX2 ret) {rm : Room} {v0 v1 : Value} {f : Int32 → hg_Mem → Prop} (K : hg_C l E yJ9_min_7cf53 cJ9_min_7cf53 2 (some .int) rm [v0, v1] σ (hg_pi f)) (hrm : rm.cells = 0 ∧ rm.slots = 0 ∧ rm.frames + 1 ≤ R.frames ∧ 8 + (2 + 11) + rm.locals ≤ R.locals) (hcat : (st.map fun v => v.category).sum ≤ 8) (hd : decode cc pc = .ok (.invokestatic 23, 3)) (hp : pc + 3 = pc') (kk : ∀ r τ, f r τ → hg_G E p l e R s m args below meth c nL Q τ pc' lv (.int r :: st)) : hg_G E p l e R s m args below meth c nL Q σ pc lv (v1 :: v0 :: st) := hg_callS cx lk_X2_23 se_J9_min_7cf53 K hrm rfl rfl hcat hd hp (hg_kI kk)
theorem lk_X2_32 : hg_Lk RX2 32 yJ7_fill_d0a16 cJ7_fill_d0a16 5 none 2 := ⟨(hg_Uin (List.mem_of_getElem? (i := 642) (by decide +kernel)) (by decide +kernel)), (hg_Uin (List.mem_of_getElem? (i := 644) (by decide +kernel)) (by decide +kernel)), (hg_Uin (List.mem_of_getElem? (i := 70) (by decide +kernel)) (by decide +kernel)), by decide +kernel⟩
theorem se_J7_fill_d0a16 : Cond.static yJ7_fill_d0a16 ∈ hg_U := (hg_Uin (List.mem_of_getElem? (i := 643) (by decide +kernel)) (by decide +kernel))
theorem cs_X2_32 (cx : hg_Cx E p s m args meth c cc nL RX2 ret) {rm : Room} {v0 v1 : Value} {f : hg_Mem → Prop} (K : hg_C l E yJ7_fill_d0a16 cJ7_fill_d0a16 5 none rm [v0, v1] σ (hg_pv f)) (hrm : rm.cells = 0 ∧ rm.slots = 0 ∧ rm.frames + 1 ≤ R.frames ∧ 8 + (5 + 11) + rm.locals ≤ R.locals) (hcat : (st.map fun v => v.category).sum ≤ 8) (hd : decode cc pc = .ok (.invokestatic 32, 3)) (hp : pc + 3 = pc') (kk : ∀ τ, f τ → hg_G E p l e R s m args below meth c nL Q τ pc' lv st) : hg_G E p l e R s m args below meth c nL Q σ pc lv (v1 :: v0 :: st) := hg_callS cx lk_X2_32 se_J7_fill_d0a16 K hrm rfl rfl hcat hd hp (hg_kV kk)
theorem lk_X3_31 : hg_Lk RX3 31 yX1_become cX1_become 2 none 1 := ⟨(hg_Uin (List.mem_of_getElem? (i := 414) (by decide +kernel)) (by decide +kernel)), (hg_Uin (List.mem_of_getElem? (i := 417) (by decide +kernel)) (by decide +kernel)), (hg_Uin (List.mem_of_getElem? (i := 59) (by decide +kernel)) (by decide +kernel)), by decide +kernel⟩
theorem se_X1_become : Cond.instanceMethod yX1_become ∈ hg_U ∧ Cond.selects yX1_become.cls yX1_become yX1_become ∈ hg_U := ⟨(hg_Uin (List.mem_of_getElem? (i := 415) (by decide +kernel)) (by decide +kernel)), (hg_Uin (List.mem_of_getElem? (i := 416) (by decide +kernel)) (by decide +kernel))⟩
theorem cv_X3_31 (cx : hg_Cx E p s m args meth c cc nL RX3 ret) {i : Nat} (h1 : 20 ≤ i) (h2 : i < 50) {rm : Room} {v0 : Value} {f : hg_Mem → Prop} (K : hg_C l E yX1_become cX1_become 2 none rm [.ref (hg_ad E i), v0] σ (hg_pv f)) (hrm : rm.cells = 0 ∧ rm.slots = 0 ∧ rm.frames + 1 ≤ R.frames ∧ 8 + (2 + 11) + rm.locals ≤ R.locals) (hcat : (st.map fun v => v.category).sum ≤ 8) (hd : decode cc pc = .ok (.invokevirtual 31, 3)) (hp : pc + 3 = pc') (kk : ∀ τ, f τ → hg_G E p l e R s m args below meth c nL Q τ pc' lv st) : hg_G E p l e R s m args below meth c nL Q σ pc lv (v0 :: .ref (hg_ad E i) :: st) := hg_callV (i := i) cx lk_X3_31 se_X1_become K hrm (by omega) (hg_ceDel E _ _ h1 h2) rfl rfl rfl rfl hcat hd hp (hg_kV kk)
theorem lk_X3_35 : hg_Lk RX3 35 yX3_isFull cX3_isFull 1 (some .boolean) 0 := ⟨(hg_Uin (List.mem_of_getElem? (i := 311) (by decide +kernel)) (by decide +kernel)), (hg_Uin (List.mem_of_getElem? (i := 305) (by decide +kernel)) (by decide +kernel)), (hg_Uin (List.mem_of_getElem? (i := 58) (by decide +kernel)) (by decide +kernel)), by decide +kernel⟩
theorem cv_X3_35 (cx : hg_Cx E p s m args meth c cc nL RX3 ret) {i : Nat} (h1 : 1 ≤ i) (h2 : i < 4) {rm : Room} {f : Int32 → hg_Mem → Prop} (K : hg_C l E yX3_isFull cX3_isFull 1 (some .boolean) rm [.ref (hg_ad E i)] σ (hg_pi f)) (hrm : rm.cells = 0 ∧ rm.slots = 0 ∧ rm.frames + 1 ≤ R.frames ∧ 8 + (1 + 11) + rm.locals ≤ R.locals) (hcat : (st.map fun v => v.category).sum ≤ 8) (hd : decode cc pc = .ok (.invokevirtual 35, 3)) (hp : pc + 3 = pc') (kk : ∀ r τ, f r τ → hg_G E p l e R s m args below meth c nL Q τ pc' lv (.int r :: st)) : hg_G E p l e R s m args below meth c nL Q σ pc lv (.ref (hg_ad E i) :: st) := hg_callV (i := i) cx lk_X3_35 se_X3_isFull K hrm (by omega) (hg_ceTab E _ _ h1 h2) rfl rfl rfl rfl hcat hd hp (hg_kI kk)
theorem lk_X3_39 : hg_Lk RX3 39 yX1_begin cX1_begin 3 none 2 := ⟨(hg_Uin (List.mem_of_getElem? (i := 312) (by decide +kernel)) (by decide +kernel)), (hg_Uin (List.mem_of_getElem? (i := 315) (by decide +kernel)) (by decide +kernel)), (hg_Uin (List.mem_of_getElem? (i := 59) (by decide +kernel)) (by decide +kernel)), by decide +kernel⟩
theorem se_X1_begin : Cond.instanceMethod yX1_begin ∈ hg_U ∧ Cond.selects yX1_begin.cls yX1_begin yX1_begin ∈ hg_U := ⟨(hg_Uin (List.mem_of_getElem? (i := 313) (by decide +kernel)) (by decide +kernel)), (hg_Uin (List.mem_of_getElem? (i := 314) (by decide +kernel)) (by decide +kernel))⟩
theorem cv_X3_39 (cx : hg_Cx E p s m args meth c cc nL RX3 ret) {i : Nat} (h1 : 20 ≤ i) (h2 : i < 50) {rm : Room} {v0 v1 : Value} {f : hg_Mem → Prop} (K : hg_C l E yX1_begin cX1_begin 3 none rm [.ref (hg_ad E i), v0, v1] σ (hg_pv f)) (hrm : rm.cells = 0 ∧ rm.slots = 0 ∧ rm.frames + 1 ≤ R.frames ∧ 8 + (3 + 11) + rm.locals ≤ R.locals) (hcat : (st.map fun v => v.category).sum ≤ 8) (hd : decode cc pc = .ok (.invokevirtual 39, 3)) (hp : pc + 3 = pc') (kk : ∀ τ, f τ → hg_G E p l e R s m args below meth c nL Q τ pc' lv st) : hg_G E p l e R s m args below meth c nL Q σ pc lv (v1 :: v0 :: .ref (hg_ad E i) :: st) := hg_callV (i := i) cx lk_X3_39 se_X1_begin K hrm (by omega) (hg_ceDel E _ _ h1 h2) rfl rfl rfl rfl hcat hd hp (hg_kV kk)
theorem lk_X3_46 : hg_Lk RX3 46 yX1_trait cX1_trait 2 (some .int) 1 := ⟨(hg_Uin (List.mem_of_getElem? (i := 472) (by decide +kernel)) (by decide +kernel)), (hg_Uin (List.mem_of_getElem? (i := 336) (by decide +kernel)) (by decide +kernel)), (hg_Uin (List.mem_of_getElem? (i := 59) (by decide +kernel)) (by decide +kernel)), by decide +kernel⟩
theorem cv_X3_46 (cx : hg_Cx E p s m args meth c cc nL RX3 ret) {i : Nat} (h1 : 20 ≤ i) (h2 : i < 50) {rm : Room} {v0 : Value} {f : Int32 → hg_Mem → Prop} (K : hg_C l E yX1_trait cX1_trait 2 (some .int) rm [.ref (hg_ad E i), v0] σ (hg_pi f)) (hrm : rm.cells = 0 ∧ rm.slots = 0 ∧ rm.frames + 1 ≤ R.frames ∧ 8 + (2 + 11) + rm.locals ≤ R.locals) (hcat : (st.map fun v => v.category).sum ≤ 8) (hd : decode cc pc = .ok (.invokevirtual 46, 3)) (hp : pc + 3 = pc') (kk : ∀ r τ, f r τ → hg_G E p l e R s m args below meth c nL Q τ pc' lv (.int r :: st)) : hg_G E p l e R s m args below meth c nL Q σ pc lv (v0 :: .ref (hg_ad E i) :: st) := hg_callV (i := i) cx lk_X3_46 se_X1_trait K hrm (by omega) (hg_ceDel E _ _ h1 h2) rfl rfl rfl rfl hcat hd hp (hg_kI kk)
theorem lk_X3_50 : hg_Lk RX3 50 yX3_has cX3_has 2 (some .boolean) 1 := ⟨(hg_Uin (List.mem_of_getElem? (i := 679) (by decide +kernel)) (by decide +kernel)), (hg_Uin (List.mem_of_getElem? (i := 323) (by decide +kernel)) (by decide +kernel)), (hg_Uin (List.mem_of_getElem? (i := 58) (by decide +kernel)) (by decide +kernel)), by decide +kernel⟩
theorem cv_X3_50 (cx : hg_Cx E p s m args meth c cc nL RX3 ret) {i : Nat} (h1 : 1 ≤ i) (h2 : i < 4) {rm : Room} {v0 : Value} {f : Int32 → hg_Mem → Prop} (K : hg_C l E yX3_has cX3_has 2 (some .boolean) rm [.ref (hg_ad E i), v0] σ (hg_pi f)) (hrm : rm.cells = 0 ∧ rm.slots = 0 ∧ rm.frames + 1 ≤ R.frames ∧ 8 + (2 + 11) + rm.locals ≤ R.locals) (hcat : (st.map fun v => v.category).sum ≤ 8) (hd : decode cc pc = .ok (.invokevirtual 50, 3)) (hp : pc + 3 = pc') (kk : ∀ r τ, f r τ → hg_G E p l e R s m args below meth c nL Q τ pc' lv (.int r :: st)) : hg_G E p l e R s m args below meth c nL Q σ pc lv (v0 :: .ref (hg_ad E i) :: st) := hg_callV (i := i) cx lk_X3_50 se_X3_has K hrm (by omega) (hg_ceTab E _ _ h1 h2) rfl rfl rfl rfl hcat hd hp (hg_kI kk)
theorem lk_X3_54 : hg_Lk RX3 54 yX3_question cX3_question 1 (some .int) 0 := ⟨(hg_Uin (List.mem_of_getElem? (i := 270) (by decide +kernel)) (by decide +kernel)), (hg_Uin (List.mem_of_getElem? (i := 265) (by decide +kernel)) (by decide +kernel)), (hg_Uin (List.mem_of_getElem? (i := 58) (by decide +kernel)) (by decide +kernel)), by decide +kernel⟩
theorem cv_X3_54 (cx : hg_Cx E p s m args meth c cc nL RX3 ret) {i : Nat} (h1 : 1 ≤ i) (h2 : i < 4) {rm : Room} {f : Int32 → hg_Mem → Prop} (K : hg_C l E yX3_question cX3_question 1 (some .int) rm [.ref (hg_ad E i)] σ (hg_pi f)) (hrm : rm.cells = 0 ∧ rm.slots = 0 ∧ rm.frames + 1 ≤ R.frames ∧ 8 + (1 + 11) + rm.locals ≤ R.locals) (hcat : (st.map fun v => v.category).sum ≤ 8) (hd : decode cc pc = .ok (.invokevirtual 54, 3)) (hp : pc + 3 = pc') (kk : ∀ r τ, f r τ → hg_G E p l e R s m args below meth c nL Q τ pc' lv (.int r :: st)) : hg_G E p l e R s m args below meth c nL Q σ pc lv (.ref (hg_ad E i) :: st) := hg_callV (i := i) cx lk_X3_54 se_X3_question K hrm (by omega) (hg_ceTab E _ _ h1 h2) rfl rfl rfl rfl hcat hd hp (hg_kI kk)
theorem lk_X3_58 : hg_Lk RX3 58 yX1_answer cX1_answer 3 (some .int) 2 := ⟨(hg_Uin (List.mem_of_getElem? (i := 271) (by decide +kernel)) (by decide +kernel)), (hg_Uin (List.mem_of_getElem? (i := 274) (by decide +kernel)) (by decide +kernel)), (hg_Uin (List.mem_of_getElem? (i := 59) (by decide +kernel)) (by decide +kernel)), by decide +kernel⟩
theorem cv_X3_58 (cx : hg_Cx E p s m args meth c cc nL RX3 ret) {i : Nat} (h1 : 20 ≤ i) (h2 : i < 50) {rm : Room} {v0 v1 : Value} {f : Int32 → hg_Mem → Prop} (K : hg_C l E yX1_answer cX1_answer 3 (some .int) rm [.ref (hg_ad E i), v0, v1] σ (hg_pi f)) (hrm : rm.cells = 0 ∧ rm.slots = 0 ∧ rm.frames + 1 ≤ R.frames ∧ 8 + (3 + 11) + rm.locals ≤ R.locals) (hcat : (st.map fun v => v.category).sum ≤ 8) (hd : decode cc pc = .ok (.invokevirtual 58, 3)) (hp : pc + 3 = pc') (kk : ∀ r τ, f r τ → hg_G E p l e R s m args below meth c nL Q τ pc' lv (.int r :: st)) : hg_G E p l e R s m args below meth c nL Q σ pc lv (v1 :: v0 :: .ref (hg_ad E i) :: st) := hg_callV (i := i) cx lk_X3_58 se_X1_answer K hrm (by omega) (hg_ceDel E _ _ h1 h2) rfl rfl rfl rfl hcat hd hp (hg_kI kk)
theorem lk_X3_71 : hg_Lk RX3 71 yX1_weight cX1_weight 2 (some .int) 1 := ⟨(hg_Uin (List.mem_of_getElem? (i := 286) (by decide +kernel)) (by decide +kernel)), (hg_Uin (List.mem_of_getElem? (i := 289) (by decide +kernel)) (by decide +kernel)), (hg_Uin (List.mem_of_getElem? (i := 59) (by decide +kernel)) (by decide +kernel)), by decide +kernel⟩
theorem cv_X3_71 (cx : hg_Cx E p s m args meth c cc nL RX3 ret) {i : Nat} (h1 : 20 ≤ i) (h2 : i < 50) {rm : Room} {v0 : Value} {f : Int32 → hg_Mem → Prop} (K : hg_C l E yX1_weight cX1_weight 2 (some .int) rm [.ref (hg_ad E i), v0] σ (hg_pi f)) (hrm : rm.cells = 0 ∧ rm.slots = 0 ∧ rm.frames + 1 ≤ R.frames ∧ 8 + (2 + 11) + rm.locals ≤ R.locals) (hcat : (st.map fun v => v.category).sum ≤ 8) (hd : decode cc pc = .ok (.invokevirtual 71, 3)) (hp : pc + 3 = pc') (kk : ∀ r τ, f r τ → hg_G E p l e R s m args below meth c nL Q τ pc' lv (.int r :: st)) : hg_G E p l e R s m args below meth c nL Q σ pc lv (v0 :: .ref (hg_ad E i) :: st) := hg_callV (i := i) cx lk_X3_71 se_X1_weight K hrm (by omega) (hg_ceDel E _ _ h1 h2) rfl rfl rfl rfl hcat hd hp (hg_kI kk)
theorem lk_X3_74 : hg_LkN RX3 74 yX5_bit cX5_bit 2 (some .int) 2 "HatCongress" := ⟨by decide +kernel, (hg_Uin (List.mem_of_getElem? (i := 281) (by decide +kernel)) (by decide +kernel)), (hg_Uin (List.mem_of_getElem? (i := 57) (by decide +kernel)) (by decide +kernel)), by decide +kernel⟩
theorem cs_X3_74 (cx : hg_Cx E p s m args meth c cc nL RX3 ret) {rm : Room} {v0 v1 : Value} {f : Int32 → hg_Mem → Prop} (K : hg_C l E yX5_bit cX5_bit 2 (some .int) rm [v0, v1] σ (hg_pi f)) (hrm : rm.cells = 0 ∧ rm.slots = 0 ∧ rm.frames + 1 ≤ R.frames ∧ 8 + (2 + 11) + rm.locals ≤ R.locals) (hcat : (st.map fun v => v.category).sum ≤ 8) (hd : decode cc pc = .ok (.invokestatic 74, 3)) (hp : pc + 3 = pc') (kk : ∀ r τ, f r τ → hg_G E p l e R s m args below meth c nL Q τ pc' lv (.int r :: st)) : hg_G E p l e R s m args below meth c nL Q σ pc lv (v1 :: v0 :: st) := hg_callSN cx lk_X3_74 se_X5_bit K hrm rfl rfl hcat hd hp (hg_kI kk)
theorem lk_X3_77 : hg_Lk RX3 77 yX3_ask cX3_ask 4 none 0 := ⟨(hg_Uin (List.mem_of_getElem? (i := 376) (by decide +kernel)) (by decide +kernel)), (hg_Uin (List.mem_of_getElem? (i := 269) (by decide +kernel)) (by decide +kernel)), (hg_Uin (List.mem_of_getElem? (i := 58) (by decide +kernel)) (by decide +kernel)), by decide +kernel⟩
theorem cv_X3_77 (cx : hg_Cx E p s m args meth c cc nL RX3 ret) {i : Nat} (h1 : 1 ≤ i) (h2 : i < 4) {rm : Room} {f : hg_Mem → Prop} (K : hg_C l E yX3_ask cX3_ask 4 none rm [.ref (hg_ad E i)] σ (hg_pv f)) (hrm : rm.cells = 0 ∧ rm.slots = 0 ∧ rm.frames + 1 ≤ R.frames ∧ 8 + (4 + 11) + rm.locals ≤ R.locals) (hcat : (st.map fun v => v.category).sum ≤ 8) (hd : decode cc pc = .ok (.invokevirtual 77, 3)) (hp : pc + 3 = pc') (kk : ∀ τ, f τ → hg_G E p l e R s m args below meth c nL Q τ pc' lv st) : hg_G E p l e R s m args below meth c nL Q σ pc lv (.ref (hg_ad E i) :: st) := hg_callV (i := i) cx lk_X3_77 se_X3_ask K hrm (by omega) (hg_ceTab E _ _ h1 h2) rfl rfl rfl rfl hcat hd hp (hg_kV kk)
theorem lk_X3_80 : hg_Lk RX3 80 yX3_verdict cX3_verdict 1 (some .int) 0 := ⟨(hg_Uin (List.mem_of_getElem? (i := 377) (by decide +kernel)) (by decide +kernel)), (hg_Uin (List.mem_of_getElem? (i := 380) (by decide +kernel)) (by decide +kernel)), (hg_Uin (List.mem_of_getElem? (i := 58) (by decide +kernel)) (by decide +kernel)), by decide +kernel⟩
theorem cv_X3_80 (cx : hg_Cx E p s m args meth c cc nL RX3 ret) {i : Nat} (h1 : 1 ≤ i) (h2 : i < 4) {rm : Room} {f : Int32 → hg_Mem → Prop} (K : hg_C l E yX3_verdict cX3_verdict 1 (some .int) rm [.ref (hg_ad E i)] σ (hg_pi f)) (hrm : rm.cells = 0 ∧ rm.slots = 0 ∧ rm.frames + 1 ≤ R.frames ∧ 8 + (1 + 11) + rm.locals ≤ R.locals) (hcat : (st.map fun v => v.category).sum ≤ 8) (hd : decode cc pc = .ok (.invokevirtual 80, 3)) (hp : pc + 3 = pc') (kk : ∀ r τ, f r τ → hg_G E p l e R s m args below meth c nL Q τ pc' lv (.int r :: st)) : hg_G E p l e R s m args below meth c nL Q σ pc lv (.ref (hg_ad E i) :: st) := hg_callV (i := i) cx lk_X3_80 se_X3_verdict K hrm (by omega) (hg_ceTab E _ _ h1 h2) rfl rfl rfl rfl hcat hd hp (hg_kI kk)
theorem lk_X3_83 : hg_Lk RX3 83 yX3_judge cX3_judge 3 none 2 := ⟨(hg_Uin (List.mem_of_getElem? (i := 382) (by decide +kernel)) (by decide +kernel)), (hg_Uin (List.mem_of_getElem? (i := 385) (by decide +kernel)) (by decide +kernel)), (hg_Uin (List.mem_of_getElem? (i := 58) (by decide +kernel)) (by decide +kernel)), by decide +kernel⟩
theorem se_X3_judge : Cond.instanceMethod yX3_judge ∈ hg_U ∧ Cond.selects yX3_judge.cls yX3_judge yX3_judge ∈ hg_U := ⟨(hg_Uin (List.mem_of_getElem? (i := 384) (by decide +kernel)) (by decide +kernel)), (hg_Uin (List.mem_of_getElem? (i := 3) (by decide +kernel)) (by decide +kernel))⟩
theorem cv_X3_83 (cx : hg_Cx E p s m args meth c cc nL RX3 ret) {i : Nat} (h1 : 1 ≤ i) (h2 : i < 4) {rm : Room} {v0 v1 : Value} {f : hg_Mem → Prop} (K : hg_C l E yX3_judge cX3_judge 3 none rm [.ref (hg_ad E i), v0, v1] σ (hg_pv f)) (hrm : rm.cells = 0 ∧ rm.slots = 0 ∧ rm.frames + 1 ≤ R.frames ∧ 8 + (3 + 11) + rm.locals ≤ R.locals) (hcat : (st.map fun v => v.category).sum ≤ 8) (hd : decode cc pc = .ok (.invokevirtual 83, 3)) (hp : pc + 3 = pc') (kk : ∀ τ, f τ → hg_G E p l e R s m args below meth c nL Q τ pc' lv st) : hg_G E p l e R s m args below meth c nL Q σ pc lv (v1 :: v0 :: .ref (hg_ad E i) :: st) := hg_callV (i := i) cx lk_X3_83 se_X3_judge K hrm (by omega) (hg_ceTab E _ _ h1 h2) rfl rfl rfl rfl hcat hd hp (hg_kV kk)
theorem lk_X3_87 : hg_Lk RX3 87 yX1_beRight cX1_beRight 1 none 0 := ⟨(hg_Uin (List.mem_of_getElem? (i := 386) (by decide +kernel)) (by decide +kernel)), (hg_Uin (List.mem_of_getElem? (i := 389) (by decide +kernel)) (by decide +kernel)), (hg_Uin (List.mem_of_getElem? (i := 59) (by decide +kernel)) (by decide +kernel)), by decide +kernel⟩
theorem se_X1_beRight : Cond.instanceMethod yX1_beRight ∈ hg_U ∧ Cond.selects yX1_beRight.cls yX1_beRight yX1_beRight ∈ hg_U := ⟨(hg_Uin (List.mem_of_getElem? (i := 387) (by decide +kernel)) (by decide +kernel)), (hg_Uin (List.mem_of_getElem? (i := 388) (by decide +kernel)) (by decide +kernel))⟩
theorem cv_X3_87 (cx : hg_Cx E p s m args meth c cc nL RX3 ret) {i : Nat} (h1 : 20 ≤ i) (h2 : i < 50) {rm : Room} {f : hg_Mem → Prop} (K : hg_C l E yX1_beRight cX1_beRight 1 none rm [.ref (hg_ad E i)] σ (hg_pv f)) (hrm : rm.cells = 0 ∧ rm.slots = 0 ∧ rm.frames + 1 ≤ R.frames ∧ 8 + (1 + 11) + rm.locals ≤ R.locals) (hcat : (st.map fun v => v.category).sum ≤ 8) (hd : decode cc pc = .ok (.invokevirtual 87, 3)) (hp : pc + 3 = pc') (kk : ∀ τ, f τ → hg_G E p l e R s m args below meth c nL Q τ pc' lv st) : hg_G E p l e R s m args below meth c nL Q σ pc lv (.ref (hg_ad E i) :: st) := hg_callV (i := i) cx lk_X3_87 se_X1_beRight K hrm (by omega) (hg_ceDel E _ _ h1 h2) rfl rfl rfl rfl hcat hd hp (hg_kV kk)
theorem lk_X3_90 : hg_Lk RX3 90 yX1_beWrong cX1_beWrong 5 none 3 := ⟨(hg_Uin (List.mem_of_getElem? (i := 394) (by decide +kernel)) (by decide +kernel)), (hg_Uin (List.mem_of_getElem? (i := 397) (by decide +kernel)) (by decide +kernel)), (hg_Uin (List.mem_of_getElem? (i := 59) (by decide +kernel)) (by decide +kernel)), by decide +kernel⟩
theorem se_X1_beWrong : Cond.instanceMethod yX1_beWrong ∈ hg_U ∧ Cond.selects yX1_beWrong.cls yX1_beWrong yX1_beWrong ∈ hg_U := ⟨(hg_Uin (List.mem_of_getElem? (i := 395) (by decide +kernel)) (by decide +kernel)), (hg_Uin (List.mem_of_getElem? (i := 396) (by decide +kernel)) (by decide +kernel))⟩
theorem cv_X3_90 (cx : hg_Cx E p s m args meth c cc nL RX3 ret) {i : Nat} (h1 : 20 ≤ i) (h2 : i < 50) {rm : Room} {v0 v1 v2 : Value} {f : hg_Mem → Prop} (K : hg_C l E yX1_beWrong cX1_beWrong 5 none rm [.ref (hg_ad E i), v0, v1, v2] σ (hg_pv f)) (hrm : rm.cells = 0 ∧ rm.slots = 0 ∧ rm.frames + 1 ≤ R.frames ∧ 8 + (5 + 11) + rm.locals ≤ R.locals) (hcat : (st.map fun v => v.category).sum ≤ 8) (hd : decode cc pc = .ok (.invokevirtual 90, 3)) (hp : pc + 3 = pc') (kk : ∀ τ, f τ → hg_G E p l e R s m args below meth c nL Q τ pc' lv st) : hg_G E p l e R s m args below meth c nL Q σ pc lv (v2 :: v1 :: v0 :: .ref (hg_ad E i) :: st) := hg_callV (i := i) cx lk_X3_90 se_X1_beWrong K hrm (by omega) (hg_ceDel E _ _ h1 h2) rfl rfl rfl rfl hcat hd hp (hg_kV kk)
theorem lk_X6_40 : hg_Lk RX6 40 yX6_finds cX6_finds 2 (some .int) 1 := ⟨(hg_Uin (List.mem_of_getElem? (i := 775) (by decide +kernel)) (by decide +kernel)), (hg_Uin (List.mem_of_getElem? (i := 778) (by decide +kernel)) (by decide +kernel)), (hg_Uin (List.mem_of_getElem? (i := 63) (by decide +kernel)) (by decide +kernel)), by decide +kernel⟩
theorem se_X6_finds : Cond.instanceMethod yX6_finds ∈ hg_U ∧ Cond.selects yX6_finds.cls yX6_finds yX6_finds ∈ hg_U := ⟨(hg_Uin (List.mem_of_getElem? (i := 777) (by decide +kernel)) (by decide +kernel)), (hg_Uin (List.mem_of_getElem? (i := 18) (by decide +kernel)) (by decide +kernel))⟩
theorem cv_X6_40 (cx : hg_Cx E p s m args meth c cc nL RX6 ret) {rm : Room} {v0 : Value} {f : Int32 → hg_Mem → Prop} (K : hg_C l E yX6_finds cX6_finds 2 (some .int) rm [.ref (hg_ad E 50), v0] σ (hg_pi f)) (hrm : rm.cells = 0 ∧ rm.slots = 0 ∧ rm.frames + 1 ≤ R.frames ∧ 8 + (2 + 11) + rm.locals ≤ R.locals) (hcat : (st.map fun v => v.category).sum ≤ 8) (hd : decode cc pc = .ok (.invokevirtual 40, 3)) (hp : pc + 3 = pc') (kk : ∀ r τ, f r τ → hg_G E p l e R s m args below meth c nL Q τ pc' lv (.int r :: st)) : hg_G E p l e R s m args below meth c nL Q σ pc lv (v0 :: .ref (hg_ad E 50) :: st) := hg_callV (i := 50) cx lk_X6_40 se_X6_finds K hrm (by decide) rfl rfl rfl rfl rfl hcat hd hp (hg_kI kk)
theorem lk_X6_44 : hg_Lk RX6 44 yX6_in cX6_in 4 (some .boolean) 3 := ⟨(hg_Uin (List.mem_of_getElem? (i := 767) (by decide +kernel)) (by decide +kernel)), (hg_Uin (List.mem_of_getElem? (i := 769) (by decide +kernel)) (by decide +kernel)), (hg_Uin (List.mem_of_getElem? (i := 63) (by decide +kernel)) (by decide +kernel)), by decide +kernel⟩
theorem se_X6_in : Cond.static yX6_in ∈ hg_U := (hg_Uin (List.mem_of_getElem? (i := 768) (by decide +kernel)) (by decide +kernel))
theorem cs_X6_44 (cx : hg_Cx E p s m args meth c cc nL RX6 ret) {rm : Room} {v0 v1 v2 : Value} {f : Int32 → hg_Mem → Prop} (K : hg_C l E yX6_in cX6_in 4 (some .boolean) rm [v0, v1, v2] σ (hg_pi f)) (hrm : rm.cells = 0 ∧ rm.slots = 0 ∧ rm.frames + 1 ≤ R.frames ∧ 8 + (4 + 11) + rm.locals ≤ R.locals) (hcat : (st.map fun v => v.category).sum ≤ 8) (hd : decode cc pc = .ok (.invokestatic 44, 3)) (hp : pc + 3 = pc') (kk : ∀ r τ, f r τ → hg_G E p l e R s m args below meth c nL Q τ pc' lv (.int r :: st)) : hg_G E p l e R s m args below meth c nL Q σ pc lv (v2 :: v1 :: v0 :: st) := hg_callS cx lk_X6_44 se_X6_in K hrm rfl rfl hcat hd hp (hg_kI kk)
theorem lk_X6_48 : hg_Lk RX6 48 yX6_it cX6_it 3 (some .int) 2 := ⟨(hg_Uin (List.mem_of_getElem? (i := 791) (by decide +kernel)) (by decide +kernel)), (hg_Uin (List.mem_of_getElem? (i := 794) (by decide +kernel)) (by decide +kernel)), (hg_Uin (List.mem_of_getElem? (i := 63) (by decide +kernel)) (by decide +kernel)), by decide +kernel⟩
theorem se_X6_it : Cond.instanceMethod yX6_it ∈ hg_U ∧ Cond.selects yX6_it.cls yX6_it yX6_it ∈ hg_U := ⟨(hg_Uin (List.mem_of_getElem? (i := 793) (by decide +kernel)) (by decide +kernel)), (hg_Uin (List.mem_of_getElem? (i := 21) (by decide +kernel)) (by decide +kernel))⟩
theorem cv_X6_48 (cx : hg_Cx E p s m args meth c cc nL RX6 ret) {rm : Room} {v0 v1 : Value} {f : Int32 → hg_Mem → Prop} (K : hg_C l E yX6_it cX6_it 3 (some .int) rm [.ref (hg_ad E 50), v0, v1] σ (hg_pi f)) (hrm : rm.cells = 0 ∧ rm.slots = 0 ∧ rm.frames + 1 ≤ R.frames ∧ 8 + (3 + 11) + rm.locals ≤ R.locals) (hcat : (st.map fun v => v.category).sum ≤ 8) (hd : decode cc pc = .ok (.invokevirtual 48, 3)) (hp : pc + 3 = pc') (kk : ∀ r τ, f r τ → hg_G E p l e R s m args below meth c nL Q τ pc' lv (.int r :: st)) : hg_G E p l e R s m args below meth c nL Q σ pc lv (v1 :: v0 :: .ref (hg_ad E 50) :: st) := hg_callV (i := 50) cx lk_X6_48 se_X6_it K hrm (by decide) rfl rfl rfl rfl rfl hcat hd hp (hg_kI kk)
theorem lk_X6_52 : hg_Lk RX6 52 yX6_becomes cX6_becomes 4 (some .int) 2 := ⟨(hg_Uin (List.mem_of_getElem? (i := 770) (by decide +kernel)) (by decide +kernel)), (hg_Uin (List.mem_of_getElem? (i := 773) (by decide +kernel)) (by decide +kernel)), (hg_Uin (List.mem_of_getElem? (i := 63) (by decide +kernel)) (by decide +kernel)), by decide +kernel⟩
theorem se_X6_becomes : Cond.instanceMethod yX6_becomes ∈ hg_U ∧ Cond.selects yX6_becomes.cls yX6_becomes yX6_becomes ∈ hg_U := ⟨(hg_Uin (List.mem_of_getElem? (i := 772) (by decide +kernel)) (by decide +kernel)), (hg_Uin (List.mem_of_getElem? (i := 17) (by decide +kernel)) (by decide +kernel))⟩
theorem cv_X6_52 (cx : hg_Cx E p s m args meth c cc nL RX6 ret) {rm : Room} {v0 v1 : Value} {f : Int32 → hg_Mem → Prop} (K : hg_C l E yX6_becomes cX6_becomes 4 (some .int) rm [.ref (hg_ad E 50), v0, v1] σ (hg_pi f)) (hrm : rm.cells = 0 ∧ rm.slots = 0 ∧ rm.frames + 1 ≤ R.frames ∧ 8 + (4 + 11) + rm.locals ≤ R.locals) (hcat : (st.map fun v => v.category).sum ≤ 8) (hd : decode cc pc = .ok (.invokevirtual 52, 3)) (hp : pc + 3 = pc') (kk : ∀ r τ, f r τ → hg_G E p l e R s m args below meth c nL Q τ pc' lv (.int r :: st)) : hg_G E p l e R s m args below meth c nL Q σ pc lv (v1 :: v0 :: .ref (hg_ad E 50) :: st) := hg_callV (i := 50) cx lk_X6_52 se_X6_becomes K hrm (by decide) rfl rfl rfl rfl rfl hcat hd hp (hg_kI kk)
theorem lk_X6_55 : hg_Lk RX6 55 yX6_saysTo cX6_saysTo 6 (some .int) 2 := ⟨(hg_Uin (List.mem_of_getElem? (i := 795) (by decide +kernel)) (by decide +kernel)), (hg_Uin (List.mem_of_getElem? (i := 798) (by decide +kernel)) (by decide +kernel)), (hg_Uin (List.mem_of_getElem? (i := 63) (by decide +kernel)) (by decide +kernel)), by decide +kernel⟩
theorem se_X6_saysTo : Cond.instanceMethod yX6_saysTo ∈ hg_U ∧ Cond.selects yX6_saysTo.cls yX6_saysTo yX6_saysTo ∈ hg_U := ⟨(hg_Uin (List.mem_of_getElem? (i := 797) (by decide +kernel)) (by decide +kernel)), (hg_Uin (List.mem_of_getElem? (i := 22) (by decide +kernel)) (by decide +kernel))⟩
theorem cv_X6_55 (cx : hg_Cx E p s m args meth c cc nL RX6 ret) {rm : Room} {v0 v1 : Value} {f : Int32 → hg_Mem → Prop} (K : hg_C l E yX6_saysTo cX6_saysTo 6 (some .int) rm [.ref (hg_ad E 50), v0, v1] σ (hg_pi f)) (hrm : rm.cells = 0 ∧ rm.slots = 0 ∧ rm.frames + 1 ≤ R.frames ∧ 8 + (6 + 11) + rm.locals ≤ R.locals) (hcat : (st.map fun v => v.category).sum ≤ 8) (hd : decode cc pc = .ok (.invokevirtual 55, 3)) (hp : pc + 3 = pc') (kk : ∀ r τ, f r τ → hg_G E p l e R s m args below meth c nL Q τ pc' lv (.int r :: st)) : hg_G E p l e R s m args below meth c nL Q σ pc lv (v1 :: v0 :: .ref (hg_ad E 50) :: st) := hg_callV (i := 50) cx lk_X6_55 se_X6_saysTo K hrm (by decide) rfl rfl rfl rfl rfl hcat hd hp (hg_kI kk)
theorem lk_X6_58 : hg_Lk RX6 58 yX6_weighs cX6_weighs 3 (some .int) 1 := ⟨(hg_Uin (List.mem_of_getElem? (i := 799) (by decide +kernel)) (by decide +kernel)), (hg_Uin (List.mem_of_getElem? (i := 802) (by decide +kernel)) (by decide +kernel)), (hg_Uin (List.mem_of_getElem? (i := 63) (by decide +kernel)) (by decide +kernel)), by decide +kernel⟩
theorem se_X6_weighs : Cond.instanceMethod yX6_weighs ∈ hg_U ∧ Cond.selects yX6_weighs.cls yX6_weighs yX6_weighs ∈ hg_U := ⟨(hg_Uin (List.mem_of_getElem? (i := 801) (by decide +kernel)) (by decide +kernel)), (hg_Uin (List.mem_of_getElem? (i := 23) (by decide +kernel)) (by decide +kernel))⟩
theorem cv_X6_58 (cx : hg_Cx E p s m args meth c cc nL RX6 ret) {rm : Room} {v0 : Value} {f : Int32 → hg_Mem → Prop} (K : hg_C l E yX6_weighs cX6_weighs 3 (some .int) rm [.ref (hg_ad E 50), v0] σ (hg_pi f)) (hrm : rm.cells = 0 ∧ rm.slots = 0 ∧ rm.frames + 1 ≤ R.frames ∧ 8 + (3 + 11) + rm.locals ≤ R.locals) (hcat : (st.map fun v => v.category).sum ≤ 8) (hd : decode cc pc = .ok (.invokevirtual 58, 3)) (hp : pc + 3 = pc') (kk : ∀ r τ, f r τ → hg_G E p l e R s m args below meth c nL Q τ pc' lv (.int r :: st)) : hg_G E p l e R s m args below meth c nL Q σ pc lv (v0 :: .ref (hg_ad E 50) :: st) := hg_callV (i := 50) cx lk_X6_58 se_X6_weighs K hrm (by decide) rfl rfl rfl rfl rfl hcat hd hp (hg_kI kk)
theorem lk_X6_61 : hg_Lk RX6 61 yX6_asked cX6_asked 1 (some .int) 0 := ⟨(hg_Uin (List.mem_of_getElem? (i := 783) (by decide +kernel)) (by decide +kernel)), (hg_Uin (List.mem_of_getElem? (i := 786) (by decide +kernel)) (by decide +kernel)), (hg_Uin (List.mem_of_getElem? (i := 63) (by decide +kernel)) (by decide +kernel)), by decide +kernel⟩
theorem se_X6_asked : Cond.instanceMethod yX6_asked ∈ hg_U ∧ Cond.selects yX6_asked.cls yX6_asked yX6_asked ∈ hg_U := ⟨(hg_Uin (List.mem_of_getElem? (i := 785) (by decide +kernel)) (by decide +kernel)), (hg_Uin (List.mem_of_getElem? (i := 19) (by decide +kernel)) (by decide +kernel))⟩
theorem cv_X6_61 (cx : hg_Cx E p s m args meth c cc nL RX6 ret) {rm : Room} {f : Int32 → hg_Mem → Prop} (K : hg_C l E yX6_asked cX6_asked 1 (some .int) rm [.ref (hg_ad E 50)] σ (hg_pi f)) (hrm : rm.cells = 0 ∧ rm.slots = 0 ∧ rm.frames + 1 ≤ R.frames ∧ 8 + (1 + 11) + rm.locals ≤ R.locals) (hcat : (st.map fun v => v.category).sum ≤ 8) (hd : decode cc pc = .ok (.invokevirtual 61, 3)) (hp : pc + 3 = pc') (kk : ∀ r τ, f r τ → hg_G E p l e R s m args below meth c nL Q τ pc' lv (.int r :: st)) : hg_G E p l e R s m args below meth c nL Q σ pc lv (.ref (hg_ad E 50) :: st) := hg_callV (i := 50) cx lk_X6_61 se_X6_asked K hrm (by decide) rfl rfl rfl rfl rfl hcat hd hp (hg_kI kk)
theorem lk_X6_65 : hg_Lk RX6 65 yX6_weight cX6_weight 5 (some .int) 2 := ⟨(hg_Uin (List.mem_of_getElem? (i := 787) (by decide +kernel)) (by decide +kernel)), (hg_Uin (List.mem_of_getElem? (i := 790) (by decide +kernel)) (by decide +kernel)), (hg_Uin (List.mem_of_getElem? (i := 63) (by decide +kernel)) (by decide +kernel)), by decide +kernel⟩
theorem se_X6_weight : Cond.instanceMethod yX6_weight ∈ hg_U ∧ Cond.selects yX6_weight.cls yX6_weight yX6_weight ∈ hg_U := ⟨(hg_Uin (List.mem_of_getElem? (i := 789) (by decide +kernel)) (by decide +kernel)), (hg_Uin (List.mem_of_getElem? (i := 20) (by decide +kernel)) (by decide +kernel))⟩
theorem cv_X6_65 (cx : hg_Cx E p s m args meth c cc nL RX6 ret) {rm : Room} {v0 v1 : Value} {f : Int32 → hg_Mem → Prop} (K : hg_C l E yX6_weight cX6_weight 5 (some .int) rm [.ref (hg_ad E 50), v0, v1] σ (hg_pi f)) (hrm : rm.cells = 0 ∧ rm.slots = 0 ∧ rm.frames + 1 ≤ R.frames ∧ 8 + (5 + 11) + rm.locals ≤ R.locals) (hcat : (st.map fun v => v.category).sum ≤ 8) (hd : decode cc pc = .ok (.invokevirtual 65, 3)) (hp : pc + 3 = pc') (kk : ∀ r τ, f r τ → hg_G E p l e R s m args below meth c nL Q τ pc' lv (.int r :: st)) : hg_G E p l e R s m args below meth c nL Q σ pc lv (v1 :: v0 :: .ref (hg_ad E 50) :: st) := hg_callV (i := 50) cx lk_X6_65 se_X6_weight K hrm (by decide) rfl rfl rfl rfl rfl hcat hd hp (hg_kI kk)
theorem lk_X6_68 : hg_Lk RX6 68 yX6_onTable cX6_onTable 3 (some .int) 0 := ⟨(hg_Uin (List.mem_of_getElem? (i := 803) (by decide +kernel)) (by decide +kernel)), (hg_Uin (List.mem_of_getElem? (i := 806) (by decide +kernel)) (by decide +kernel)), (hg_Uin (List.mem_of_getElem? (i := 63) (by decide +kernel)) (by decide +kernel)), by decide +kernel⟩
theorem se_X6_onTable : Cond.instanceMethod yX6_onTable ∈ hg_U ∧ Cond.selects yX6_onTable.cls yX6_onTable yX6_onTable ∈ hg_U := ⟨(hg_Uin (List.mem_of_getElem? (i := 805) (by decide +kernel)) (by decide +kernel)), (hg_Uin (List.mem_of_getElem? (i := 24) (by decide +kernel)) (by decide +kernel))⟩
theorem cv_X6_68 (cx : hg_Cx E p s m args meth c cc nL RX6 ret) {rm : Room} {f : Int32 → hg_Mem → Prop} (K : hg_C l E yX6_onTable cX6_onTable 3 (some .int) rm [.ref (hg_ad E 50)] σ (hg_pi f)) (hrm : rm.cells = 0 ∧ rm.slots = 0 ∧ rm.frames + 1 ≤ R.frames ∧ 8 + (3 + 11) + rm.locals ≤ R.locals) (hcat : (st.map fun v => v.category).sum ≤ 8) (hd : decode cc pc = .ok (.invokevirtual 68, 3)) (hp : pc + 3 = pc') (kk : ∀ r τ, f r τ → hg_G E p l e R s m args below meth c nL Q τ pc' lv (.int r :: st)) : hg_G E p l e R s m args below meth c nL Q σ pc lv (.ref (hg_ad E 50) :: st) := hg_callV (i := 50) cx lk_X6_68 se_X6_onTable K hrm (by decide) rfl rfl rfl rfl rfl hcat hd hp (hg_kI kk)
theorem lk_X6_71 : hg_Lk RX6 71 yX6_trueOnes cX6_trueOnes 1 (some .int) 0 := ⟨(hg_Uin (List.mem_of_getElem? (i := 807) (by decide +kernel)) (by decide +kernel)), (hg_Uin (List.mem_of_getElem? (i := 810) (by decide +kernel)) (by decide +kernel)), (hg_Uin (List.mem_of_getElem? (i := 63) (by decide +kernel)) (by decide +kernel)), by decide +kernel⟩
theorem se_X6_trueOnes : Cond.instanceMethod yX6_trueOnes ∈ hg_U ∧ Cond.selects yX6_trueOnes.cls yX6_trueOnes yX6_trueOnes ∈ hg_U := ⟨(hg_Uin (List.mem_of_getElem? (i := 809) (by decide +kernel)) (by decide +kernel)), (hg_Uin (List.mem_of_getElem? (i := 25) (by decide +kernel)) (by decide +kernel))⟩
theorem cv_X6_71 (cx : hg_Cx E p s m args meth c cc nL RX6 ret) {rm : Room} {f : Int32 → hg_Mem → Prop} (K : hg_C l E yX6_trueOnes cX6_trueOnes 1 (some .int) rm [.ref (hg_ad E 50)] σ (hg_pi f)) (hrm : rm.cells = 0 ∧ rm.slots = 0 ∧ rm.frames + 1 ≤ R.frames ∧ 8 + (1 + 11) + rm.locals ≤ R.locals) (hcat : (st.map fun v => v.category).sum ≤ 8) (hd : decode cc pc = .ok (.invokevirtual 71, 3)) (hp : pc + 3 = pc') (kk : ∀ r τ, f r τ → hg_G E p l e R s m args below meth c nL Q τ pc' lv (.int r :: st)) : hg_G E p l e R s m args below meth c nL Q σ pc lv (.ref (hg_ad E 50) :: st) := hg_callV (i := 50) cx lk_X6_71 se_X6_trueOnes K hrm (by decide) rfl rfl rfl rfl rfl hcat hd hp (hg_kI kk)
theorem lk_X6_74 : hg_Lk RX6 74 yX6_put cX6_put 4 none 3 := ⟨(hg_Uin (List.mem_of_getElem? (i := 820) (by decide +kernel)) (by decide +kernel)), (hg_Uin (List.mem_of_getElem? (i := 823) (by decide +kernel)) (by decide +kernel)), (hg_Uin (List.mem_of_getElem? (i := 63) (by decide +kernel)) (by decide +kernel)), by decide +kernel⟩
theorem se_X6_put : Cond.instanceMethod yX6_put ∈ hg_U ∧ Cond.selects yX6_put.cls yX6_put yX6_put ∈ hg_U := ⟨(hg_Uin (List.mem_of_getElem? (i := 822) (by decide +kernel)) (by decide +kernel)), (hg_Uin (List.mem_of_getElem? (i := 27) (by decide +kernel)) (by decide +kernel))⟩
theorem cv_X6_74 (cx : hg_Cx E p s m args meth c cc nL RX6 ret) {rm : Room} {v0 v1 v2 : Value} {f : hg_Mem → Prop} (K : hg_C l E yX6_put cX6_put 4 none rm [.ref (hg_ad E 50), v0, v1, v2] σ (hg_pv f)) (hrm : rm.cells = 0 ∧ rm.slots = 0 ∧ rm.frames + 1 ≤ R.frames ∧ 8 + (4 + 11) + rm.locals ≤ R.locals) (hcat : (st.map fun v => v.category).sum ≤ 8) (hd : decode cc pc = .ok (.invokevirtual 74, 3)) (hp : pc + 3 = pc') (kk : ∀ τ, f τ → hg_G E p l e R s m args below meth c nL Q τ pc' lv st) : hg_G E p l e R s m args below meth c nL Q σ pc lv (v2 :: v1 :: v0 :: .ref (hg_ad E 50) :: st) := hg_callV (i := 50) cx lk_X6_74 se_X6_put K hrm (by decide) rfl rfl rfl rfl rfl hcat hd hp (hg_kV kk)
theorem lk_X6_79 : hg_Lk RX6 79 yX6_comesAs cX6_comesAs 6 (some .int) 4 := ⟨(hg_Uin (List.mem_of_getElem? (i := 816) (by decide +kernel)) (by decide +kernel)), (hg_Uin (List.mem_of_getElem? (i := 819) (by decide +kernel)) (by decide +kernel)), (hg_Uin (List.mem_of_getElem? (i := 63) (by decide +kernel)) (by decide +kernel)), by decide +kernel⟩
theorem se_X6_comesAs : Cond.instanceMethod yX6_comesAs ∈ hg_U ∧ Cond.selects yX6_comesAs.cls yX6_comesAs yX6_comesAs ∈ hg_U := ⟨(hg_Uin (List.mem_of_getElem? (i := 818) (by decide +kernel)) (by decide +kernel)), (hg_Uin (List.mem_of_getElem? (i := 26) (by decide +kernel)) (by decide +kernel))⟩
theorem cv_X6_79 (cx : hg_Cx E p s m args meth c cc nL RX6 ret) {rm : Room} {v0 v1 v2 v3 : Value} {f : Int32 → hg_Mem → Prop} (K : hg_C l E yX6_comesAs cX6_comesAs 6 (some .int) rm [.ref (hg_ad E 50), v0, v1, v2, v3] σ (hg_pi f)) (hrm : rm.cells = 0 ∧ rm.slots = 0 ∧ rm.frames + 1 ≤ R.frames ∧ 8 + (6 + 11) + rm.locals ≤ R.locals) (hcat : (st.map fun v => v.category).sum ≤ 8) (hd : decode cc pc = .ok (.invokevirtual 79, 3)) (hp : pc + 3 = pc') (kk : ∀ r τ, f r τ → hg_G E p l e R s m args below meth c nL Q τ pc' lv (.int r :: st)) : hg_G E p l e R s m args below meth c nL Q σ pc lv (v3 :: v2 :: v1 :: v0 :: .ref (hg_ad E 50) :: st) := hg_callV (i := 50) cx lk_X6_79 se_X6_comesAs K hrm (by decide) rfl rfl rfl rfl rfl hcat hd hp (hg_kI kk)
theorem lk_X6_83 : hg_Lk RX6 83 yX6_isHat cX6_isHat 2 (some .boolean) 1 := ⟨(hg_Uin (List.mem_of_getElem? (i := 828) (by decide +kernel)) (by decide +kernel)), (hg_Uin (List.mem_of_getElem? (i := 831) (by decide +kernel)) (by decide +kernel)), (hg_Uin (List.mem_of_getElem? (i := 63) (by decide +kernel)) (by decide +kernel)), by decide +kernel⟩
theorem se_X6_isHat : Cond.instanceMethod yX6_isHat ∈ hg_U ∧ Cond.selects yX6_isHat.cls yX6_isHat yX6_isHat ∈ hg_U := ⟨(hg_Uin (List.mem_of_getElem? (i := 830) (by decide +kernel)) (by decide +kernel)), (hg_Uin (List.mem_of_getElem? (i := 28) (by decide +kernel)) (by decide +kernel))⟩
theorem cv_X6_83 (cx : hg_Cx E p s m args meth c cc nL RX6 ret) {rm : Room} {v0 : Value} {f : Int32 → hg_Mem → Prop} (K : hg_C l E yX6_isHat cX6_isHat 2 (some .boolean) rm [.ref (hg_ad E 50), v0] σ (hg_pi f)) (hrm : rm.cells = 0 ∧ rm.slots = 0 ∧ rm.frames + 1 ≤ R.frames ∧ 8 + (2 + 11) + rm.locals ≤ R.locals) (hcat : (st.map fun v => v.category).sum ≤ 8) (hd : decode cc pc = .ok (.invokevirtual 83, 3)) (hp : pc + 3 = pc') (kk : ∀ r τ, f r τ → hg_G E p l e R s m args below meth c nL Q τ pc' lv (.int r :: st)) : hg_G E p l e R s m args below meth c nL Q σ pc lv (v0 :: .ref (hg_ad E 50) :: st) := hg_callV (i := 50) cx lk_X6_83 se_X6_isHat K hrm (by decide) rfl rfl rfl rfl rfl hcat hd hp (hg_kI kk)
theorem lk_X6_87 : hg_Lk RX6 87 yX6_doesLearn cX6_doesLearn 2 (some .boolean) 1 := ⟨(hg_Uin (List.mem_of_getElem? (i := 832) (by decide +kernel)) (by decide +kernel)), (hg_Uin (List.mem_of_getElem? (i := 835) (by decide +kernel)) (by decide +kernel)), (hg_Uin (List.mem_of_getElem? (i := 63) (by decide +kernel)) (by decide +kernel)), by decide +kernel⟩
theorem se_X6_doesLearn : Cond.instanceMethod yX6_doesLearn ∈ hg_U ∧ Cond.selects yX6_doesLearn.cls yX6_doesLearn yX6_doesLearn ∈ hg_U := ⟨(hg_Uin (List.mem_of_getElem? (i := 834) (by decide +kernel)) (by decide +kernel)), (hg_Uin (List.mem_of_getElem? (i := 29) (by decide +kernel)) (by decide +kernel))⟩
theorem cv_X6_87 (cx : hg_Cx E p s m args meth c cc nL RX6 ret) {rm : Room} {v0 : Value} {f : Int32 → hg_Mem → Prop} (K : hg_C l E yX6_doesLearn cX6_doesLearn 2 (some .boolean) rm [.ref (hg_ad E 50), v0] σ (hg_pi f)) (hrm : rm.cells = 0 ∧ rm.slots = 0 ∧ rm.frames + 1 ≤ R.frames ∧ 8 + (2 + 11) + rm.locals ≤ R.locals) (hcat : (st.map fun v => v.category).sum ≤ 8) (hd : decode cc pc = .ok (.invokevirtual 87, 3)) (hp : pc + 3 = pc') (kk : ∀ r τ, f r τ → hg_G E p l e R s m args below meth c nL Q τ pc' lv (.int r :: st)) : hg_G E p l e R s m args below meth c nL Q σ pc lv (v0 :: .ref (hg_ad E 50) :: st) := hg_callV (i := 50) cx lk_X6_87 se_X6_doesLearn K hrm (by decide) rfl rfl rfl rfl rfl hcat hd hp (hg_kI kk)
theorem lk_X6_90 : hg_Lk RX6 90 yX6_stirs cX6_stirs 2 (some .int) 1 := ⟨(hg_Uin (List.mem_of_getElem? (i := 836) (by decide +kernel)) (by decide +kernel)), (hg_Uin (List.mem_of_getElem? (i := 839) (by decide +kernel)) (by decide +kernel)), (hg_Uin (List.mem_of_getElem? (i := 63) (by decide +kernel)) (by decide +kernel)), by decide +kernel⟩
theorem se_X6_stirs : Cond.instanceMethod yX6_stirs ∈ hg_U ∧ Cond.selects yX6_stirs.cls yX6_stirs yX6_stirs ∈ hg_U := ⟨(hg_Uin (List.mem_of_getElem? (i := 838) (by decide +kernel)) (by decide +kernel)), (hg_Uin (List.mem_of_getElem? (i := 30) (by decide +kernel)) (by decide +kernel))⟩
theorem cv_X6_90 (cx : hg_Cx E p s m args meth c cc nL RX6 ret) {rm : Room} {v0 : Value} {f : Int32 → hg_Mem → Prop} (K : hg_C l E yX6_stirs cX6_stirs 2 (some .int) rm [.ref (hg_ad E 50), v0] σ (hg_pi f)) (hrm : rm.cells = 0 ∧ rm.slots = 0 ∧ rm.frames + 1 ≤ R.frames ∧ 8 + (2 + 11) + rm.locals ≤ R.locals) (hcat : (st.map fun v => v.category).sum ≤ 8) (hd : decode cc pc = .ok (.invokevirtual 90, 3)) (hp : pc + 3 = pc') (kk : ∀ r τ, f r τ → hg_G E p l e R s m args below meth c nL Q τ pc' lv (.int r :: st)) : hg_G E p l e R s m args below meth c nL Q σ pc lv (v0 :: .ref (hg_ad E 50) :: st) := hg_callV (i := 50) cx lk_X6_90 se_X6_stirs K hrm (by decide) rfl rfl rfl rfl rfl hcat hd hp (hg_kI kk)
theorem lk_X6_93 : hg_Lk RX6 93 yX6_mostOf cX6_mostOf 1 (some .int) 1 := ⟨(hg_Uin (List.mem_of_getElem? (i := 848) (by decide +kernel)) (by decide +kernel)), (hg_Uin (List.mem_of_getElem? (i := 850) (by decide +kernel)) (by decide +kernel)), (hg_Uin (List.mem_of_getElem? (i := 63) (by decide +kernel)) (by decide +kernel)), by decide +kernel⟩
theorem se_X6_mostOf : Cond.static yX6_mostOf ∈ hg_U := (hg_Uin (List.mem_of_getElem? (i := 849) (by decide +kernel)) (by decide +kernel))
theorem cs_X6_93 (cx : hg_Cx E p s m args meth c cc nL RX6 ret) {rm : Room} {v0 : Value} {f : Int32 → hg_Mem → Prop} (K : hg_C l E yX6_mostOf cX6_mostOf 1 (some .int) rm [v0] σ (hg_pi f)) (hrm : rm.cells = 0 ∧ rm.slots = 0 ∧ rm.frames + 1 ≤ R.frames ∧ 8 + (1 + 11) + rm.locals ≤ R.locals) (hcat : (st.map fun v => v.category).sum ≤ 8) (hd : decode cc pc = .ok (.invokestatic 93, 3)) (hp : pc + 3 = pc') (kk : ∀ r τ, f r τ → hg_G E p l e R s m args below meth c nL Q τ pc' lv (.int r :: st)) : hg_G E p l e R s m args below meth c nL Q σ pc lv (v0 :: st) := hg_callS cx lk_X6_93 se_X6_mostOf K hrm rfl rfl hcat hd hp (hg_kI kk)
theorem lk_X6_97 : hg_Lk RX6 97 yX6_held cX6_held 3 (some .int) 3 := ⟨(hg_Uin (List.mem_of_getElem? (i := 881) (by decide +kernel)) (by decide +kernel)), (hg_Uin (List.mem_of_getElem? (i := 883) (by decide +kernel)) (by decide +kernel)), (hg_Uin (List.mem_of_getElem? (i := 63) (by decide +kernel)) (by decide +kernel)), by decide +kernel⟩
theorem se_X6_held : Cond.static yX6_held ∈ hg_U := (hg_Uin (List.mem_of_getElem? (i := 882) (by decide +kernel)) (by decide +kernel))
theorem cs_X6_97 (cx : hg_Cx E p s m args meth c cc nL RX6 ret) {rm : Room} {v0 v1 v2 : Value} {f : Int32 → hg_Mem → Prop} (K : hg_C l E yX6_held cX6_held 3 (some .int) rm [v0, v1, v2] σ (hg_pi f)) (hrm : rm.cells = 0 ∧ rm.slots = 0 ∧ rm.frames + 1 ≤ R.frames ∧ 8 + (3 + 11) + rm.locals ≤ R.locals) (hcat : (st.map fun v => v.category).sum ≤ 8) (hd : decode cc pc = .ok (.invokestatic 97, 3)) (hp : pc + 3 = pc') (kk : ∀ r τ, f r τ → hg_G E p l e R s m args below meth c nL Q τ pc' lv (.int r :: st)) : hg_G E p l e R s m args below meth c nL Q σ pc lv (v2 :: v1 :: v0 :: st) := hg_callS cx lk_X6_97 se_X6_held K hrm rfl rfl hcat hd hp (hg_kI kk)
theorem lk_X6_101 : hg_Lk RX6 101 yX6_withBit cX6_withBit 3 (some .int) 3 := ⟨(hg_Uin (List.mem_of_getElem? (i := 874) (by decide +kernel)) (by decide +kernel)), (hg_Uin (List.mem_of_getElem? (i := 876) (by decide +kernel)) (by decide +kernel)), (hg_Uin (List.mem_of_getElem? (i := 63) (by decide +kernel)) (by decide +kernel)), by decide +kernel⟩
theorem se_X6_withBit : Cond.static yX6_withBit ∈ hg_U := (hg_Uin (List.mem_of_getElem? (i := 875) (by decide +kernel)) (by decide +kernel))
theorem cs_X6_101 (cx : hg_Cx E p s m args meth c cc nL RX6 ret) {rm : Room} {v0 v1 v2 : Value} {f : Int32 → hg_Mem → Prop} (K : hg_C l E yX6_withBit cX6_withBit 3 (some .int) rm [v0, v1, v2] σ (hg_pi f)) (hrm : rm.cells = 0 ∧ rm.slots = 0 ∧ rm.frames + 1 ≤ R.frames ∧ 8 + (3 + 11) + rm.locals ≤ R.locals) (hcat : (st.map fun v => v.category).sum ≤ 8) (hd : decode cc pc = .ok (.invokestatic 101, 3)) (hp : pc + 3 = pc') (kk : ∀ r τ, f r τ → hg_G E p l e R s m args below meth c nL Q τ pc' lv (.int r :: st)) : hg_G E p l e R s m args below meth c nL Q σ pc lv (v2 :: v1 :: v0 :: st) := hg_callS cx lk_X6_101 se_X6_withBit K hrm rfl rfl hcat hd hp (hg_kI kk)
theorem lk_X6_104 : hg_Lk RX6 104 yX6_isJudged cX6_isJudged 4 none 3 := ⟨(hg_Uin (List.mem_of_getElem? (i := 877) (by decide +kernel)) (by decide +kernel)), (hg_Uin (List.mem_of_getElem? (i := 880) (by decide +kernel)) (by decide +kernel)), (hg_Uin (List.mem_of_getElem? (i := 63) (by decide +kernel)) (by decide +kernel)), by decide +kernel⟩
theorem se_X6_isJudged : Cond.instanceMethod yX6_isJudged ∈ hg_U ∧ Cond.selects yX6_isJudged.cls yX6_isJudged yX6_isJudged ∈ hg_U := ⟨(hg_Uin (List.mem_of_getElem? (i := 879) (by decide +kernel)) (by decide +kernel)), (hg_Uin (List.mem_of_getElem? (i := 33) (by decide +kernel)) (by decide +kernel))⟩
theorem cv_X6_104 (cx : hg_Cx E p s m args meth c cc nL RX6 ret) {rm : Room} {v0 v1 v2 : Value} {f : hg_Mem → Prop} (K : hg_C l E yX6_isJudged cX6_isJudged 4 none rm [.ref (hg_ad E 50), v0, v1, v2] σ (hg_pv f)) (hrm : rm.cells = 0 ∧ rm.slots = 0 ∧ rm.frames + 1 ≤ R.frames ∧ 8 + (4 + 11) + rm.locals ≤ R.locals) (hcat : (st.map fun v => v.category).sum ≤ 8) (hd : decode cc pc = .ok (.invokevirtual 104, 3)) (hp : pc + 3 = pc') (kk : ∀ τ, f τ → hg_G E p l e R s m args below meth c nL Q τ pc' lv st) : hg_G E p l e R s m args below meth c nL Q σ pc lv (v2 :: v1 :: v0 :: .ref (hg_ad E 50) :: st) := hg_callV (i := 50) cx lk_X6_104 se_X6_isJudged K hrm (by decide) rfl rfl rfl rfl rfl hcat hd hp (hg_kV kk)
theorem lk_X6_107 : hg_Lk RX6 107 yX6_goes cX6_goes 5 none 0 := ⟨(hg_Uin (List.mem_of_getElem? (i := 870) (by decide +kernel)) (by decide +kernel)), (hg_Uin (List.mem_of_getElem? (i := 873) (by decide +kernel)) (by decide +kernel)), (hg_Uin (List.mem_of_getElem? (i := 63) (by decide +kernel)) (by decide +kernel)), by decide +kernel⟩
theorem se_X6_goes : Cond.instanceMethod yX6_goes ∈ hg_U ∧ Cond.selects yX6_goes.cls yX6_goes yX6_goes ∈ hg_U := ⟨(hg_Uin (List.mem_of_getElem? (i := 872) (by decide +kernel)) (by decide +kernel)), (hg_Uin (List.mem_of_getElem? (i := 32) (by decide +kernel)) (by decide +kernel))⟩
theorem cv_X6_107 (cx : hg_Cx E p s m args meth c cc nL RX6 ret) {rm : Room} {f : hg_Mem → Prop} (K : hg_C l E yX6_goes cX6_goes 5 none rm [.ref (hg_ad E 50)] σ (hg_pv f)) (hrm : rm.cells = 0 ∧ rm.slots = 0 ∧ rm.frames + 1 ≤ R.frames ∧ 8 + (5 + 11) + rm.locals ≤ R.locals) (hcat : (st.map fun v => v.category).sum ≤ 8) (hd : decode cc pc = .ok (.invokevirtual 107, 3)) (hp : pc + 3 = pc') (kk : ∀ τ, f τ → hg_G E p l e R s m args below meth c nL Q τ pc' lv st) : hg_G E p l e R s m args below meth c nL Q σ pc lv (.ref (hg_ad E 50) :: st) := hg_callV (i := 50) cx lk_X6_107 se_X6_goes K hrm (by decide) rfl rfl rfl rfl rfl hcat hd hp (hg_kV kk)
theorem lk_X6_112 : hg_Lk RX6 112 yX6_goesFor cX6_goesFor 3 none 1 := ⟨(hg_Uin (List.mem_of_getElem? (i := 866) (by decide +kernel)) (by decide +kernel)), (hg_Uin (List.mem_of_getElem? (i := 869) (by decide +kernel)) (by decide +kernel)), (hg_Uin (List.mem_of_getElem? (i := 63) (by decide +kernel)) (by decide +kernel)), by decide +kernel⟩
theorem se_X6_goesFor : Cond.instanceMethod yX6_goesFor ∈ hg_U ∧ Cond.selects yX6_goesFor.cls yX6_goesFor yX6_goesFor ∈ hg_U := ⟨(hg_Uin (List.mem_of_getElem? (i := 868) (by decide +kernel)) (by decide +kernel)), (hg_Uin (List.mem_of_getElem? (i := 31) (by decide +kernel)) (by decide +kernel))⟩
theorem cv_X6_112 (cx : hg_Cx E p s m args meth c cc nL RX6 ret) {rm : Room} {v0 : Value} {f : hg_Mem → Prop} (K : hg_C l E yX6_goesFor cX6_goesFor 3 none rm [.ref (hg_ad E 50), v0] σ (hg_pv f)) (hrm : rm.cells = 0 ∧ rm.slots = 0 ∧ rm.frames + 1 ≤ R.frames ∧ 8 + (3 + 11) + rm.locals ≤ R.locals) (hcat : (st.map fun v => v.category).sum ≤ 8) (hd : decode cc pc = .ok (.invokevirtual 112, 3)) (hp : pc + 3 = pc') (kk : ∀ τ, f τ → hg_G E p l e R s m args below meth c nL Q τ pc' lv st) : hg_G E p l e R s m args below meth c nL Q σ pc lv (v0 :: .ref (hg_ad E 50) :: st) := hg_callV (i := 50) cx lk_X6_112 se_X6_goesFor K hrm (by decide) rfl rfl rfl rfl rfl hcat hd hp (hg_kV kk)
theorem lk_X6_116 : hg_Lk RX6 116 yX6_copyAll cX6_copyAll 3 none 2 := ⟨(hg_Uin (List.mem_of_getElem? (i := 892) (by decide +kernel)) (by decide +kernel)), (hg_Uin (List.mem_of_getElem? (i := 894) (by decide +kernel)) (by decide +kernel)), (hg_Uin (List.mem_of_getElem? (i := 63) (by decide +kernel)) (by decide +kernel)), by decide +kernel⟩
theorem se_X6_copyAll : Cond.static yX6_copyAll ∈ hg_U := (hg_Uin (List.mem_of_getElem? (i := 893) (by decide +kernel)) (by decide +kernel))
theorem cs_X6_116 (cx : hg_Cx E p s m args meth c cc nL RX6 ret) {rm : Room} {v0 v1 : Value} {f : hg_Mem → Prop} (K : hg_C l E yX6_copyAll cX6_copyAll 3 none rm [v0, v1] σ (hg_pv f)) (hrm : rm.cells = 0 ∧ rm.slots = 0 ∧ rm.frames + 1 ≤ R.frames ∧ 8 + (3 + 11) + rm.locals ≤ R.locals) (hcat : (st.map fun v => v.category).sum ≤ 8) (hd : decode cc pc = .ok (.invokestatic 116, 3)) (hp : pc + 3 = pc') (kk : ∀ τ, f τ → hg_G E p l e R s m args below meth c nL Q τ pc' lv st) : hg_G E p l e R s m args below meth c nL Q σ pc lv (v1 :: v0 :: st) := hg_callS cx lk_X6_116 se_X6_copyAll K hrm rfl rfl hcat hd hp (hg_kV kk)
theorem lk_X6_120 : hg_Lk RX6 120 yX6_thinks cX6_thinks 1 none 0 := ⟨(hg_Uin (List.mem_of_getElem? (i := 888) (by decide +kernel)) (by decide +kernel)), (hg_Uin (List.mem_of_getElem? (i := 891) (by decide +kernel)) (by decide +kernel)), (hg_Uin (List.mem_of_getElem? (i := 63) (by decide +kernel)) (by decide +kernel)), by decide +kernel⟩
theorem se_X6_thinks : Cond.instanceMethod yX6_thinks ∈ hg_U ∧ Cond.selects yX6_thinks.cls yX6_thinks yX6_thinks ∈ hg_U := ⟨(hg_Uin (List.mem_of_getElem? (i := 890) (by decide +kernel)) (by decide +kernel)), (hg_Uin (List.mem_of_getElem? (i := 34) (by decide +kernel)) (by decide +kernel))⟩
theorem cv_X6_120 (cx : hg_Cx E p s m args meth c cc nL RX6 ret) {rm : Room} {f : hg_Mem → Prop} (K : hg_C l E yX6_thinks cX6_thinks 1 none rm [.ref (hg_ad E 50)] σ (hg_pv f)) (hrm : rm.cells = 0 ∧ rm.slots = 0 ∧ rm.frames + 1 ≤ R.frames ∧ 8 + (1 + 11) + rm.locals ≤ R.locals) (hcat : (st.map fun v => v.category).sum ≤ 8) (hd : decode cc pc = .ok (.invokevirtual 120, 3)) (hp : pc + 3 = pc') (kk : ∀ τ, f τ → hg_G E p l e R s m args below meth c nL Q τ pc' lv st) : hg_G E p l e R s m args below meth c nL Q σ pc lv (.ref (hg_ad E 50) :: st) := hg_callV (i := 50) cx lk_X6_120 se_X6_thinks K hrm (by decide) rfl rfl rfl rfl rfl hcat hd hp (hg_kV kk)
theorem lk_X6_123 : hg_Lk RX6 123 yX6_putsBack cX6_putsBack 1 none 0 := ⟨(hg_Uin (List.mem_of_getElem? (i := 895) (by decide +kernel)) (by decide +kernel)), (hg_Uin (List.mem_of_getElem? (i := 898) (by decide +kernel)) (by decide +kernel)), (hg_Uin (List.mem_of_getElem? (i := 63) (by decide +kernel)) (by decide +kernel)), by decide +kernel⟩
theorem se_X6_putsBack : Cond.instanceMethod yX6_putsBack ∈ hg_U ∧ Cond.selects yX6_putsBack.cls yX6_putsBack yX6_putsBack ∈ hg_U := ⟨(hg_Uin (List.mem_of_getElem? (i := 897) (by decide +kernel)) (by decide +kernel)), (hg_Uin (List.mem_of_getElem? (i := 35) (by decide +kernel)) (by decide +kernel))⟩
theorem cv_X6_123 (cx : hg_Cx E p s m args meth c cc nL RX6 ret) {rm : Room} {f : hg_Mem → Prop} (K : hg_C l E yX6_putsBack cX6_putsBack 1 none rm [.ref (hg_ad E 50)] σ (hg_pv f)) (hrm : rm.cells = 0 ∧ rm.slots = 0 ∧ rm.frames + 1 ≤ R.frames ∧ 8 + (1 + 11) + rm.locals ≤ R.locals) (hcat : (st.map fun v => v.category).sum ≤ 8) (hd : decode cc pc = .ok (.invokevirtual 123, 3)) (hp : pc + 3 = pc') (kk : ∀ τ, f τ → hg_G E p l e R s m args below meth c nL Q τ pc' lv st) : hg_G E p l e R s m args below meth c nL Q σ pc lv (.ref (hg_ad E 50) :: st) := hg_callV (i := 50) cx lk_X6_123 se_X6_putsBack K hrm (by decide) rfl rfl rfl rfl rfl hcat hd hp (hg_kV kk)
theorem lk_X6_126 : hg_Lk RX6 126 yX6_bits cX6_bits 3 (some .int) 1 := ⟨(hg_Uin (List.mem_of_getElem? (i := 924) (by decide +kernel)) (by decide +kernel)), (hg_Uin (List.mem_of_getElem? (i := 926) (by decide +kernel)) (by decide +kernel)), (hg_Uin (List.mem_of_getElem? (i := 63) (by decide +kernel)) (by decide +kernel)), by decide +kernel⟩
theorem se_X6_bits : Cond.static yX6_bits ∈ hg_U := (hg_Uin (List.mem_of_getElem? (i := 925) (by decide +kernel)) (by decide +kernel))
theorem cs_X6_126 (cx : hg_Cx E p s m args meth c cc nL RX6 ret) {rm : Room} {v0 : Value} {f : Int32 → hg_Mem → Prop} (K : hg_C l E yX6_bits cX6_bits 3 (some .int) rm [v0] σ (hg_pi f)) (hrm : rm.cells = 0 ∧ rm.slots = 0 ∧ rm.frames + 1 ≤ R.frames ∧ 8 + (3 + 11) + rm.locals ≤ R.locals) (hcat : (st.map fun v => v.category).sum ≤ 8) (hd : decode cc pc = .ok (.invokestatic 126, 3)) (hp : pc + 3 = pc') (kk : ∀ r τ, f r τ → hg_G E p l e R s m args below meth c nL Q τ pc' lv (.int r :: st)) : hg_G E p l e R s m args below meth c nL Q σ pc lv (v0 :: st) := hg_callS cx lk_X6_126 se_X6_bits K hrm rfl rfl hcat hd hp (hg_kI kk)
theorem lk_X6_129 : hg_Lk RX6 129 yX6_wiseOn cX6_wiseOn 3 (some .int) 1 := ⟨(hg_Uin (List.mem_of_getElem? (i := 920) (by decide +kernel)) (by decide +kernel)), (hg_Uin (List.mem_of_getElem? (i := 923) (by decide +kernel)) (by decide +kernel)), (hg_Uin (List.mem_of_getElem? (i := 63) (by decide +kernel)) (by decide +kernel)), by decide +kernel⟩
theorem se_X6_wiseOn : Cond.instanceMethod yX6_wiseOn ∈ hg_U ∧ Cond.selects yX6_wiseOn.cls yX6_wiseOn yX6_wiseOn ∈ hg_U := ⟨(hg_Uin (List.mem_of_getElem? (i := 922) (by decide +kernel)) (by decide +kernel)), (hg_Uin (List.mem_of_getElem? (i := 36) (by decide +kernel)) (by decide +kernel))⟩
theorem cv_X6_129 (cx : hg_Cx E p s m args meth c cc nL RX6 ret) {rm : Room} {v0 : Value} {f : Int32 → hg_Mem → Prop} (K : hg_C l E yX6_wiseOn cX6_wiseOn 3 (some .int) rm [.ref (hg_ad E 50), v0] σ (hg_pi f)) (hrm : rm.cells = 0 ∧ rm.slots = 0 ∧ rm.frames + 1 ≤ R.frames ∧ 8 + (3 + 11) + rm.locals ≤ R.locals) (hcat : (st.map fun v => v.category).sum ≤ 8) (hd : decode cc pc = .ok (.invokevirtual 129, 3)) (hp : pc + 3 = pc') (kk : ∀ r τ, f r τ → hg_G E p l e R s m args below meth c nL Q τ pc' lv (.int r :: st)) : hg_G E p l e R s m args below meth c nL Q σ pc lv (v0 :: .ref (hg_ad E 50) :: st) := hg_callV (i := 50) cx lk_X6_129 se_X6_wiseOn K hrm (by decide) rfl rfl rfl rfl rfl hcat hd hp (hg_kI kk)
theorem lk_X6_132 : hg_Lk RX6 132 yX6_orNone cX6_orNone 2 (some .int) 1 := ⟨(hg_Uin (List.mem_of_getElem? (i := 927) (by decide +kernel)) (by decide +kernel)), (hg_Uin (List.mem_of_getElem? (i := 930) (by decide +kernel)) (by decide +kernel)), (hg_Uin (List.mem_of_getElem? (i := 63) (by decide +kernel)) (by decide +kernel)), by decide +kernel⟩
theorem se_X6_orNone : Cond.instanceMethod yX6_orNone ∈ hg_U ∧ Cond.selects yX6_orNone.cls yX6_orNone yX6_orNone ∈ hg_U := ⟨(hg_Uin (List.mem_of_getElem? (i := 929) (by decide +kernel)) (by decide +kernel)), (hg_Uin (List.mem_of_getElem? (i := 37) (by decide +kernel)) (by decide +kernel))⟩
theorem cv_X6_132 (cx : hg_Cx E p s m args meth c cc nL RX6 ret) {rm : Room} {v0 : Value} {f : Int32 → hg_Mem → Prop} (K : hg_C l E yX6_orNone cX6_orNone 2 (some .int) rm [.ref (hg_ad E 50), v0] σ (hg_pi f)) (hrm : rm.cells = 0 ∧ rm.slots = 0 ∧ rm.frames + 1 ≤ R.frames ∧ 8 + (2 + 11) + rm.locals ≤ R.locals) (hcat : (st.map fun v => v.category).sum ≤ 8) (hd : decode cc pc = .ok (.invokevirtual 132, 3)) (hp : pc + 3 = pc') (kk : ∀ r τ, f r τ → hg_G E p l e R s m args below meth c nL Q τ pc' lv (.int r :: st)) : hg_G E p l e R s m args below meth c nL Q σ pc lv (v0 :: .ref (hg_ad E 50) :: st) := hg_callV (i := 50) cx lk_X6_132 se_X6_orNone K hrm (by decide) rfl rfl rfl rfl rfl hcat hd hp (hg_kI kk)
theorem lk_X6_135 : hg_Lk RX6 135 yX6_rightOn cX6_rightOn 4 (some .int) 2 := ⟨(hg_Uin (List.mem_of_getElem? (i := 935) (by decide +kernel)) (by decide +kernel)), (hg_Uin (List.mem_of_getElem? (i := 938) (by decide +kernel)) (by decide +kernel)), (hg_Uin (List.mem_of_getElem? (i := 63) (by decide +kernel)) (by decide +kernel)), by decide +kernel⟩
theorem se_X6_rightOn : Cond.instanceMethod yX6_rightOn ∈ hg_U ∧ Cond.selects yX6_rightOn.cls yX6_rightOn yX6_rightOn ∈ hg_U := ⟨(hg_Uin (List.mem_of_getElem? (i := 937) (by decide +kernel)) (by decide +kernel)), (hg_Uin (List.mem_of_getElem? (i := 38) (by decide +kernel)) (by decide +kernel))⟩
theorem cv_X6_135 (cx : hg_Cx E p s m args meth c cc nL RX6 ret) {rm : Room} {v0 v1 : Value} {f : Int32 → hg_Mem → Prop} (K : hg_C l E yX6_rightOn cX6_rightOn 4 (some .int) rm [.ref (hg_ad E 50), v0, v1] σ (hg_pi f)) (hrm : rm.cells = 0 ∧ rm.slots = 0 ∧ rm.frames + 1 ≤ R.frames ∧ 8 + (4 + 11) + rm.locals ≤ R.locals) (hcat : (st.map fun v => v.category).sum ≤ 8) (hd : decode cc pc = .ok (.invokevirtual 135, 3)) (hp : pc + 3 = pc') (kk : ∀ r τ, f r τ → hg_G E p l e R s m args below meth c nL Q τ pc' lv (.int r :: st)) : hg_G E p l e R s m args below meth c nL Q σ pc lv (v1 :: v0 :: .ref (hg_ad E 50) :: st) := hg_callV (i := 50) cx lk_X6_135 se_X6_rightOn K hrm (by decide) rfl rfl rfl rfl rfl hcat hd hp (hg_kI kk)
theorem lk_X6_138 : hg_Lk RX6 138 yX6_heldThen cX6_heldThen 3 (some .int) 0 := ⟨(hg_Uin (List.mem_of_getElem? (i := 951) (by decide +kernel)) (by decide +kernel)), (hg_Uin (List.mem_of_getElem? (i := 954) (by decide +kernel)) (by decide +kernel)), (hg_Uin (List.mem_of_getElem? (i := 63) (by decide +kernel)) (by decide +kernel)), by decide +kernel⟩
theorem se_X6_heldThen : Cond.instanceMethod yX6_heldThen ∈ hg_U ∧ Cond.selects yX6_heldThen.cls yX6_heldThen yX6_heldThen ∈ hg_U := ⟨(hg_Uin (List.mem_of_getElem? (i := 953) (by decide +kernel)) (by decide +kernel)), (hg_Uin (List.mem_of_getElem? (i := 39) (by decide +kernel)) (by decide +kernel))⟩
theorem cv_X6_138 (cx : hg_Cx E p s m args meth c cc nL RX6 ret) {rm : Room} {f : Int32 → hg_Mem → Prop} (K : hg_C l E yX6_heldThen cX6_heldThen 3 (some .int) rm [.ref (hg_ad E 50)] σ (hg_pi f)) (hrm : rm.cells = 0 ∧ rm.slots = 0 ∧ rm.frames + 1 ≤ R.frames ∧ 8 + (3 + 11) + rm.locals ≤ R.locals) (hcat : (st.map fun v => v.category).sum ≤ 8) (hd : decode cc pc = .ok (.invokevirtual 138, 3)) (hp : pc + 3 = pc') (kk : ∀ r τ, f r τ → hg_G E p l e R s m args below meth c nL Q τ pc' lv (.int r :: st)) : hg_G E p l e R s m args below meth c nL Q σ pc lv (.ref (hg_ad E 50) :: st) := hg_callV (i := 50) cx lk_X6_138 se_X6_heldThen K hrm (by decide) rfl rfl rfl rfl rfl hcat hd hp (hg_kI kk)
theorem lk_X6_141 : hg_Lk RX6 141 yX6_sums cX6_sums 4 (some .int) 1 := ⟨(hg_Uin (List.mem_of_getElem? (i := 959) (by decide +kernel)) (by decide +kernel)), (hg_Uin (List.mem_of_getElem? (i := 962) (by decide +kernel)) (by decide +kernel)), (hg_Uin (List.mem_of_getElem? (i := 63) (by decide +kernel)) (by decide +kernel)), by decide +kernel⟩
theorem se_X6_sums : Cond.instanceMethod yX6_sums ∈ hg_U ∧ Cond.selects yX6_sums.cls yX6_sums yX6_sums ∈ hg_U := ⟨(hg_Uin (List.mem_of_getElem? (i := 961) (by decide +kernel)) (by decide +kernel)), (hg_Uin (List.mem_of_getElem? (i := 40) (by decide +kernel)) (by decide +kernel))⟩
theorem cv_X6_141 (cx : hg_Cx E p s m args meth c cc nL RX6 ret) {rm : Room} {v0 : Value} {f : Int32 → hg_Mem → Prop} (K : hg_C l E yX6_sums cX6_sums 4 (some .int) rm [.ref (hg_ad E 50), v0] σ (hg_pi f)) (hrm : rm.cells = 0 ∧ rm.slots = 0 ∧ rm.frames + 1 ≤ R.frames ∧ 8 + (4 + 11) + rm.locals ≤ R.locals) (hcat : (st.map fun v => v.category).sum ≤ 8) (hd : decode cc pc = .ok (.invokevirtual 141, 3)) (hp : pc + 3 = pc') (kk : ∀ r τ, f r τ → hg_G E p l e R s m args below meth c nL Q τ pc' lv (.int r :: st)) : hg_G E p l e R s m args below meth c nL Q σ pc lv (v0 :: .ref (hg_ad E 50) :: st) := hg_callV (i := 50) cx lk_X6_141 se_X6_sums K hrm (by decide) rfl rfl rfl rfl rfl hcat hd hp (hg_kI kk)
theorem lk_X6_144 : hg_Lk RX6 144 yX6_merit cX6_merit 2 (some .int) 1 := ⟨(hg_Uin (List.mem_of_getElem? (i := 967) (by decide +kernel)) (by decide +kernel)), (hg_Uin (List.mem_of_getElem? (i := 970) (by decide +kernel)) (by decide +kernel)), (hg_Uin (List.mem_of_getElem? (i := 63) (by decide +kernel)) (by decide +kernel)), by decide +kernel⟩
theorem se_X6_merit : Cond.instanceMethod yX6_merit ∈ hg_U ∧ Cond.selects yX6_merit.cls yX6_merit yX6_merit ∈ hg_U := ⟨(hg_Uin (List.mem_of_getElem? (i := 969) (by decide +kernel)) (by decide +kernel)), (hg_Uin (List.mem_of_getElem? (i := 41) (by decide +kernel)) (by decide +kernel))⟩
theorem cv_X6_144 (cx : hg_Cx E p s m args meth c cc nL RX6 ret) {rm : Room} {v0 : Value} {f : Int32 → hg_Mem → Prop} (K : hg_C l E yX6_merit cX6_merit 2 (some .int) rm [.ref (hg_ad E 50), v0] σ (hg_pi f)) (hrm : rm.cells = 0 ∧ rm.slots = 0 ∧ rm.frames + 1 ≤ R.frames ∧ 8 + (2 + 11) + rm.locals ≤ R.locals) (hcat : (st.map fun v => v.category).sum ≤ 8) (hd : decode cc pc = .ok (.invokevirtual 144, 3)) (hp : pc + 3 = pc') (kk : ∀ r τ, f r τ → hg_G E p l e R s m args below meth c nL Q τ pc' lv (.int r :: st)) : hg_G E p l e R s m args below meth c nL Q σ pc lv (v0 :: .ref (hg_ad E 50) :: st) := hg_callV (i := 50) cx lk_X6_144 se_X6_merit K hrm (by decide) rfl rfl rfl rfl rfl hcat hd hp (hg_kI kk)
theorem lk_X6_160 : hg_Lk RX6 160 yX6_isName cX6_isName 5 (some .boolean) 2 := ⟨(hg_Uin (List.mem_of_getElem? (i := 995) (by decide +kernel)) (by decide +kernel)), (hg_Uin (List.mem_of_getElem? (i := 998) (by decide +kernel)) (by decide +kernel)), (hg_Uin (List.mem_of_getElem? (i := 63) (by decide +kernel)) (by decide +kernel)), by decide +kernel⟩
theorem se_X6_isName : Cond.instanceMethod yX6_isName ∈ hg_U ∧ Cond.selects yX6_isName.cls yX6_isName yX6_isName ∈ hg_U := ⟨(hg_Uin (List.mem_of_getElem? (i := 997) (by decide +kernel)) (by decide +kernel)), (hg_Uin (List.mem_of_getElem? (i := 45) (by decide +kernel)) (by decide +kernel))⟩
theorem cv_X6_160 (cx : hg_Cx E p s m args meth c cc nL RX6 ret) {rm : Room} {v0 v1 : Value} {f : Int32 → hg_Mem → Prop} (K : hg_C l E yX6_isName cX6_isName 5 (some .boolean) rm [.ref (hg_ad E 50), v0, v1] σ (hg_pi f)) (hrm : rm.cells = 0 ∧ rm.slots = 0 ∧ rm.frames + 1 ≤ R.frames ∧ 8 + (5 + 11) + rm.locals ≤ R.locals) (hcat : (st.map fun v => v.category).sum ≤ 8) (hd : decode cc pc = .ok (.invokevirtual 160, 3)) (hp : pc + 3 = pc') (kk : ∀ r τ, f r τ → hg_G E p l e R s m args below meth c nL Q τ pc' lv (.int r :: st)) : hg_G E p l e R s m args below meth c nL Q σ pc lv (v1 :: v0 :: .ref (hg_ad E 50) :: st) := hg_callV (i := 50) cx lk_X6_160 se_X6_isName K hrm (by decide) rfl rfl rfl rfl rfl hcat hd hp (hg_kI kk)
theorem lk_X6_164 : hg_Lk RX6 164 yX6_isByte cX6_isByte 4 (some .boolean) 3 := ⟨(hg_Uin (List.mem_of_getElem? (i := 987) (by decide +kernel)) (by decide +kernel)), (hg_Uin (List.mem_of_getElem? (i := 990) (by decide +kernel)) (by decide +kernel)), (hg_Uin (List.mem_of_getElem? (i := 63) (by decide +kernel)) (by decide +kernel)), by decide +kernel⟩
theorem se_X6_isByte : Cond.instanceMethod yX6_isByte ∈ hg_U ∧ Cond.selects yX6_isByte.cls yX6_isByte yX6_isByte ∈ hg_U := ⟨(hg_Uin (List.mem_of_getElem? (i := 989) (by decide +kernel)) (by decide +kernel)), (hg_Uin (List.mem_of_getElem? (i := 43) (by decide +kernel)) (by decide +kernel))⟩
theorem cv_X6_164 (cx : hg_Cx E p s m args meth c cc nL RX6 ret) {rm : Room} {v0 v1 v2 : Value} {f : Int32 → hg_Mem → Prop} (K : hg_C l E yX6_isByte cX6_isByte 4 (some .boolean) rm [.ref (hg_ad E 50), v0, v1, v2] σ (hg_pi f)) (hrm : rm.cells = 0 ∧ rm.slots = 0 ∧ rm.frames + 1 ≤ R.frames ∧ 8 + (4 + 11) + rm.locals ≤ R.locals) (hcat : (st.map fun v => v.category).sum ≤ 8) (hd : decode cc pc = .ok (.invokevirtual 164, 3)) (hp : pc + 3 = pc') (kk : ∀ r τ, f r τ → hg_G E p l e R s m args below meth c nL Q τ pc' lv (.int r :: st)) : hg_G E p l e R s m args below meth c nL Q σ pc lv (v2 :: v1 :: v0 :: .ref (hg_ad E 50) :: st) := hg_callV (i := 50) cx lk_X6_164 se_X6_isByte K hrm (by decide) rfl rfl rfl rfl rfl hcat hd hp (hg_kI kk)
theorem lk_X6_174 : hg_Lk RX6 174 yX6_wordHere cX6_wordHere 2 (some .int) 0 := ⟨(hg_Uin (List.mem_of_getElem? (i := 991) (by decide +kernel)) (by decide +kernel)), (hg_Uin (List.mem_of_getElem? (i := 994) (by decide +kernel)) (by decide +kernel)), (hg_Uin (List.mem_of_getElem? (i := 63) (by decide +kernel)) (by decide +kernel)), by decide +kernel⟩
theorem se_X6_wordHere : Cond.instanceMethod yX6_wordHere ∈ hg_U ∧ Cond.selects yX6_wordHere.cls yX6_wordHere yX6_wordHere ∈ hg_U := ⟨(hg_Uin (List.mem_of_getElem? (i := 993) (by decide +kernel)) (by decide +kernel)), (hg_Uin (List.mem_of_getElem? (i := 44) (by decide +kernel)) (by decide +kernel))⟩
theorem cv_X6_174 (cx : hg_Cx E p s m args meth c cc nL RX6 ret) {rm : Room} {f : Int32 → hg_Mem → Prop} (K : hg_C l E yX6_wordHere cX6_wordHere 2 (some .int) rm [.ref (hg_ad E 50)] σ (hg_pi f)) (hrm : rm.cells = 0 ∧ rm.slots = 0 ∧ rm.frames + 1 ≤ R.frames ∧ 8 + (2 + 11) + rm.locals ≤ R.locals) (hcat : (st.map fun v => v.category).sum ≤ 8) (hd : decode cc pc = .ok (.invokevirtual 174, 3)) (hp : pc + 3 = pc') (kk : ∀ r τ, f r τ → hg_G E p l e R s m args below meth c nL Q τ pc' lv (.int r :: st)) : hg_G E p l e R s m args below meth c nL Q σ pc lv (.ref (hg_ad E 50) :: st) := hg_callV (i := 50) cx lk_X6_174 se_X6_wordHere K hrm (by decide) rfl rfl rfl rfl rfl hcat hd hp (hg_kI kk)
theorem lk_X6_181 : hg_Lk RX6 181 yX6_reads cX6_reads 1 none 0 := ⟨(hg_Uin (List.mem_of_getElem? (i := 983) (by decide +kernel)) (by decide +kernel)), (hg_Uin (List.mem_of_getElem? (i := 986) (by decide +kernel)) (by decide +kernel)), (hg_Uin (List.mem_of_getElem? (i := 63) (by decide +kernel)) (by decide +kernel)), by decide +kernel⟩
theorem se_X6_reads : Cond.instanceMethod yX6_reads ∈ hg_U ∧ Cond.selects yX6_reads.cls yX6_reads yX6_reads ∈ hg_U := ⟨(hg_Uin (List.mem_of_getElem? (i := 985) (by decide +kernel)) (by decide +kernel)), (hg_Uin (List.mem_of_getElem? (i := 42) (by decide +kernel)) (by decide +kernel))⟩
theorem cv_X6_181 (cx : hg_Cx E p s m args meth c cc nL RX6 ret) {rm : Room} {f : hg_Mem → Prop} (K : hg_C l E yX6_reads cX6_reads 1 none rm [.ref (hg_ad E 50)] σ (hg_pv f)) (hrm : rm.cells = 0 ∧ rm.slots = 0 ∧ rm.frames + 1 ≤ R.frames ∧ 8 + (1 + 11) + rm.locals ≤ R.locals) (hcat : (st.map fun v => v.category).sum ≤ 8) (hd : decode cc pc = .ok (.invokevirtual 181, 3)) (hp : pc + 3 = pc') (kk : ∀ τ, f τ → hg_G E p l e R s m args below meth c nL Q τ pc' lv st) : hg_G E p l e R s m args below meth c nL Q σ pc lv (.ref (hg_ad E 50) :: st) := hg_callV (i := 50) cx lk_X6_181 se_X6_reads K hrm (by decide) rfl rfl rfl rfl rfl hcat hd hp (hg_kV kk)
theorem lk_X6_184 : hg_Lk RX6 184 yX6_passes cX6_passes 2 (some .boolean) 1 := ⟨(hg_Uin (List.mem_of_getElem? (i := 1013) (by decide +kernel)) (by decide +kernel)), (hg_Uin (List.mem_of_getElem? (i := 1016) (by decide +kernel)) (by decide +kernel)), (hg_Uin (List.mem_of_getElem? (i := 63) (by decide +kernel)) (by decide +kernel)), by decide +kernel⟩
theorem se_X6_passes : Cond.instanceMethod yX6_passes ∈ hg_U ∧ Cond.selects yX6_passes.cls yX6_passes yX6_passes ∈ hg_U := ⟨(hg_Uin (List.mem_of_getElem? (i := 1015) (by decide +kernel)) (by decide +kernel)), (hg_Uin (List.mem_of_getElem? (i := 49) (by decide +kernel)) (by decide +kernel))⟩
theorem cv_X6_184 (cx : hg_Cx E p s m args meth c cc nL RX6 ret) {rm : Room} {v0 : Value} {f : Int32 → hg_Mem → Prop} (K : hg_C l E yX6_passes cX6_passes 2 (some .boolean) rm [.ref (hg_ad E 50), v0] σ (hg_pi f)) (hrm : rm.cells = 0 ∧ rm.slots = 0 ∧ rm.frames + 1 ≤ R.frames ∧ 8 + (2 + 11) + rm.locals ≤ R.locals) (hcat : (st.map fun v => v.category).sum ≤ 8) (hd : decode cc pc = .ok (.invokevirtual 184, 3)) (hp : pc + 3 = pc') (kk : ∀ r τ, f r τ → hg_G E p l e R s m args below meth c nL Q τ pc' lv (.int r :: st)) : hg_G E p l e R s m args below meth c nL Q σ pc lv (v0 :: .ref (hg_ad E 50) :: st) := hg_callV (i := 50) cx lk_X6_184 se_X6_passes K hrm (by decide) rfl rfl rfl rfl rfl hcat hd hp (hg_kI kk)
theorem lk_X6_187 : hg_Lk RX6 187 yX6_number cX6_number 4 (some .int) 2 := ⟨(hg_Uin (List.mem_of_getElem? (i := 1017) (by decide +kernel)) (by decide +kernel)), (hg_Uin (List.mem_of_getElem? (i := 1020) (by decide +kernel)) (by decide +kernel)), (hg_Uin (List.mem_of_getElem? (i := 63) (by decide +kernel)) (by decide +kernel)), by decide +kernel⟩
theorem se_X6_number : Cond.instanceMethod yX6_number ∈ hg_U ∧ Cond.selects yX6_number.cls yX6_number yX6_number ∈ hg_U := ⟨(hg_Uin (List.mem_of_getElem? (i := 1019) (by decide +kernel)) (by decide +kernel)), (hg_Uin (List.mem_of_getElem? (i := 50) (by decide +kernel)) (by decide +kernel))⟩
theorem cv_X6_187 (cx : hg_Cx E p s m args meth c cc nL RX6 ret) {rm : Room} {v0 v1 : Value} {f : Int32 → hg_Mem → Prop} (K : hg_C l E yX6_number cX6_number 4 (some .int) rm [.ref (hg_ad E 50), v0, v1] σ (hg_pi f)) (hrm : rm.cells = 0 ∧ rm.slots = 0 ∧ rm.frames + 1 ≤ R.frames ∧ 8 + (4 + 11) + rm.locals ≤ R.locals) (hcat : (st.map fun v => v.category).sum ≤ 8) (hd : decode cc pc = .ok (.invokevirtual 187, 3)) (hp : pc + 3 = pc') (kk : ∀ r τ, f r τ → hg_G E p l e R s m args below meth c nL Q τ pc' lv (.int r :: st)) : hg_G E p l e R s m args below meth c nL Q σ pc lv (v1 :: v0 :: .ref (hg_ad E 50) :: st) := hg_callV (i := 50) cx lk_X6_187 se_X6_number K hrm (by decide) rfl rfl rfl rfl rfl hcat hd hp (hg_kI kk)
theorem lk_X6_190 : hg_Lk RX6 190 yX6_perhaps cX6_perhaps 5 (some .int) 4 := ⟨(hg_Uin (List.mem_of_getElem? (i := 1009) (by decide +kernel)) (by decide +kernel)), (hg_Uin (List.mem_of_getElem? (i := 1012) (by decide +kernel)) (by decide +kernel)), (hg_Uin (List.mem_of_getElem? (i := 63) (by decide +kernel)) (by decide +kernel)), by decide +kernel⟩
theorem se_X6_perhaps : Cond.instanceMethod yX6_perhaps ∈ hg_U ∧ Cond.selects yX6_perhaps.cls yX6_perhaps yX6_perhaps ∈ hg_U := ⟨(hg_Uin (List.mem_of_getElem? (i := 1011) (by decide +kernel)) (by decide +kernel)), (hg_Uin (List.mem_of_getElem? (i := 48) (by decide +kernel)) (by decide +kernel))⟩
theorem cv_X6_190 (cx : hg_Cx E p s m args meth c cc nL RX6 ret) {rm : Room} {v0 v1 v2 v3 : Value} {f : Int32 → hg_Mem → Prop} (K : hg_C l E yX6_perhaps cX6_perhaps 5 (some .int) rm [.ref (hg_ad E 50), v0, v1, v2, v3] σ (hg_pi f)) (hrm : rm.cells = 0 ∧ rm.slots = 0 ∧ rm.frames + 1 ≤ R.frames ∧ 8 + (5 + 11) + rm.locals ≤ R.locals) (hcat : (st.map fun v => v.category).sum ≤ 8) (hd : decode cc pc = .ok (.invokevirtual 190, 3)) (hp : pc + 3 = pc') (kk : ∀ r τ, f r τ → hg_G E p l e R s m args below meth c nL Q τ pc' lv (.int r :: st)) : hg_G E p l e R s m args below meth c nL Q σ pc lv (v3 :: v2 :: v1 :: v0 :: .ref (hg_ad E 50) :: st) := hg_callV (i := 50) cx lk_X6_190 se_X6_perhaps K hrm (by decide) rfl rfl rfl rfl rfl hcat hd hp (hg_kI kk)
theorem lk_X6_193 : hg_Lk RX6 193 yX6_hatItem cX6_hatItem 6 none 0 := ⟨(hg_Uin (List.mem_of_getElem? (i := 1005) (by decide +kernel)) (by decide +kernel)), (hg_Uin (List.mem_of_getElem? (i := 1008) (by decide +kernel)) (by decide +kernel)), (hg_Uin (List.mem_of_getElem? (i := 63) (by decide +kernel)) (by decide +kernel)), by decide +kernel⟩
theorem se_X6_hatItem : Cond.instanceMethod yX6_hatItem ∈ hg_U ∧ Cond.selects yX6_hatItem.cls yX6_hatItem yX6_hatItem ∈ hg_U := ⟨(hg_Uin (List.mem_of_getElem? (i := 1007) (by decide +kernel)) (by decide +kernel)), (hg_Uin (List.mem_of_getElem? (i := 47) (by decide +kernel)) (by decide +kernel))⟩
theorem cv_X6_193 (cx : hg_Cx E p s m args meth c cc nL RX6 ret) {rm : Room} {f : hg_Mem → Prop} (K : hg_C l E yX6_hatItem cX6_hatItem 6 none rm [.ref (hg_ad E 50)] σ (hg_pv f)) (hrm : rm.cells = 0 ∧ rm.slots = 0 ∧ rm.frames + 1 ≤ R.frames ∧ 8 + (6 + 11) + rm.locals ≤ R.locals) (hcat : (st.map fun v => v.category).sum ≤ 8) (hd : decode cc pc = .ok (.invokevirtual 193, 3)) (hp : pc + 3 = pc') (kk : ∀ τ, f τ → hg_G E p l e R s m args below meth c nL Q τ pc' lv st) : hg_G E p l e R s m args below meth c nL Q σ pc lv (.ref (hg_ad E 50) :: st) := hg_callV (i := 50) cx lk_X6_193 se_X6_hatItem K hrm (by decide) rfl rfl rfl rfl rfl hcat hd hp (hg_kV kk)
theorem lk_X6_196 : hg_Lk RX6 196 yX6_holdsItem cX6_holdsItem 3 none 0 := ⟨(hg_Uin (List.mem_of_getElem? (i := 1021) (by decide +kernel)) (by decide +kernel)), (hg_Uin (List.mem_of_getElem? (i := 1024) (by decide +kernel)) (by decide +kernel)), (hg_Uin (List.mem_of_getElem? (i := 63) (by decide +kernel)) (by decide +kernel)), by decide +kernel⟩
theorem se_X6_holdsItem : Cond.instanceMethod yX6_holdsItem ∈ hg_U ∧ Cond.selects yX6_holdsItem.cls yX6_holdsItem yX6_holdsItem ∈ hg_U := ⟨(hg_Uin (List.mem_of_getElem? (i := 1023) (by decide +kernel)) (by decide +kernel)), (hg_Uin (List.mem_of_getElem? (i := 51) (by decide +kernel)) (by decide +kernel))⟩
theorem cv_X6_196 (cx : hg_Cx E p s m args meth c cc nL RX6 ret) {rm : Room} {f : hg_Mem → Prop} (K : hg_C l E yX6_holdsItem cX6_holdsItem 3 none rm [.ref (hg_ad E 50)] σ (hg_pv f)) (hrm : rm.cells = 0 ∧ rm.slots = 0 ∧ rm.frames + 1 ≤ R.frames ∧ 8 + (3 + 11) + rm.locals ≤ R.locals) (hcat : (st.map fun v => v.category).sum ≤ 8) (hd : decode cc pc = .ok (.invokevirtual 196, 3)) (hp : pc + 3 = pc') (kk : ∀ τ, f τ → hg_G E p l e R s m args below meth c nL Q τ pc' lv st) : hg_G E p l e R s m args below meth c nL Q σ pc lv (.ref (hg_ad E 50) :: st) := hg_callV (i := 50) cx lk_X6_196 se_X6_holdsItem K hrm (by decide) rfl rfl rfl rfl rfl hcat hd hp (hg_kV kk)
theorem lk_X6_199 : hg_Lk RX6 199 yX6_item cX6_item 2 none 0 := ⟨(hg_Uin (List.mem_of_getElem? (i := 1001) (by decide +kernel)) (by decide +kernel)), (hg_Uin (List.mem_of_getElem? (i := 1004) (by decide +kernel)) (by decide +kernel)), (hg_Uin (List.mem_of_getElem? (i := 63) (by decide +kernel)) (by decide +kernel)), by decide +kernel⟩
theorem se_X6_item : Cond.instanceMethod yX6_item ∈ hg_U ∧ Cond.selects yX6_item.cls yX6_item yX6_item ∈ hg_U := ⟨(hg_Uin (List.mem_of_getElem? (i := 1003) (by decide +kernel)) (by decide +kernel)), (hg_Uin (List.mem_of_getElem? (i := 46) (by decide +kernel)) (by decide +kernel))⟩
theorem cv_X6_199 (cx : hg_Cx E p s m args meth c cc nL RX6 ret) {rm : Room} {f : hg_Mem → Prop} (K : hg_C l E yX6_item cX6_item 2 none rm [.ref (hg_ad E 50)] σ (hg_pv f)) (hrm : rm.cells = 0 ∧ rm.slots = 0 ∧ rm.frames + 1 ≤ R.frames ∧ 8 + (2 + 11) + rm.locals ≤ R.locals) (hcat : (st.map fun v => v.category).sum ≤ 8) (hd : decode cc pc = .ok (.invokevirtual 199, 3)) (hp : pc + 3 = pc') (kk : ∀ τ, f τ → hg_G E p l e R s m args below meth c nL Q τ pc' lv st) : hg_G E p l e R s m args below meth c nL Q σ pc lv (.ref (hg_ad E 50) :: st) := hg_callV (i := 50) cx lk_X6_199 se_X6_item K hrm (by decide) rfl rfl rfl rfl rfl hcat hd hp (hg_kV kk)
theorem lk_X6_202 : hg_Lk RX6 202 yX6_isSheet cX6_isSheet 1 (some .boolean) 1 := ⟨(hg_Uin (List.mem_of_getElem? (i := 1029) (by decide +kernel)) (by decide +kernel)), (hg_Uin (List.mem_of_getElem? (i := 1031) (by decide +kernel)) (by decide +kernel)), (hg_Uin (List.mem_of_getElem? (i := 63) (by decide +kernel)) (by decide +kernel)), by decide +kernel⟩
theorem se_X6_isSheet : Cond.static yX6_isSheet ∈ hg_U := (hg_Uin (List.mem_of_getElem? (i := 1030) (by decide +kernel)) (by decide +kernel))
theorem cs_X6_202 (cx : hg_Cx E p s m args meth c cc nL RX6 ret) {rm : Room} {v0 : Value} {f : Int32 → hg_Mem → Prop} (K : hg_C l E yX6_isSheet cX6_isSheet 1 (some .boolean) rm [v0] σ (hg_pi f)) (hrm : rm.cells = 0 ∧ rm.slots = 0 ∧ rm.frames + 1 ≤ R.frames ∧ 8 + (1 + 11) + rm.locals ≤ R.locals) (hcat : (st.map fun v => v.category).sum ≤ 8) (hd : decode cc pc = .ok (.invokestatic 202, 3)) (hp : pc + 3 = pc') (kk : ∀ r τ, f r τ → hg_G E p l e R s m args below meth c nL Q τ pc' lv (.int r :: st)) : hg_G E p l e R s m args below meth c nL Q σ pc lv (v0 :: st) := hg_callS cx lk_X6_202 se_X6_isSheet K hrm rfl rfl hcat hd hp (hg_kI kk)
theorem lk_X6_207 : hg_Lk RX6 207 yX6_notThere cX6_notThere 2 (some .int) 1 := ⟨(hg_Uin (List.mem_of_getElem? (i := 1037) (by decide +kernel)) (by decide +kernel)), (hg_Uin (List.mem_of_getElem? (i := 1040) (by decide +kernel)) (by decide +kernel)), (hg_Uin (List.mem_of_getElem? (i := 63) (by decide +kernel)) (by decide +kernel)), by decide +kernel⟩
theorem se_X6_notThere : Cond.instanceMethod yX6_notThere ∈ hg_U ∧ Cond.selects yX6_notThere.cls yX6_notThere yX6_notThere ∈ hg_U := ⟨(hg_Uin (List.mem_of_getElem? (i := 1039) (by decide +kernel)) (by decide +kernel)), (hg_Uin (List.mem_of_getElem? (i := 52) (by decide +kernel)) (by decide +kernel))⟩
theorem cv_X6_207 (cx : hg_Cx E p s m args meth c cc nL RX6 ret) {rm : Room} {v0 : Value} {f : Int32 → hg_Mem → Prop} (K : hg_C l E yX6_notThere cX6_notThere 2 (some .int) rm [.ref (hg_ad E 50), v0] σ (hg_pi f)) (hrm : rm.cells = 0 ∧ rm.slots = 0 ∧ rm.frames + 1 ≤ R.frames ∧ 8 + (2 + 11) + rm.locals ≤ R.locals) (hcat : (st.map fun v => v.category).sum ≤ 8) (hd : decode cc pc = .ok (.invokevirtual 207, 3)) (hp : pc + 3 = pc') (kk : ∀ r τ, f r τ → hg_G E p l e R s m args below meth c nL Q τ pc' lv (.int r :: st)) : hg_G E p l e R s m args below meth c nL Q σ pc lv (v0 :: .ref (hg_ad E 50) :: st) := hg_callV (i := 50) cx lk_X6_207 se_X6_notThere K hrm (by decide) rfl rfl rfl rfl rfl hcat hd hp (hg_kI kk)
theorem lk_X6_210 : hg_Lk RX6 210 yX6_cutTo cX6_cutTo 3 (some .long) 2 := ⟨(hg_Uin (List.mem_of_getElem? (i := 1042) (by decide +kernel)) (by decide +kernel)), (hg_Uin (List.mem_of_getElem? (i := 1044) (by decide +kernel)) (by decide +kernel)), (hg_Uin (List.mem_of_getElem? (i := 63) (by decide +kernel)) (by decide +kernel)), by decide +kernel⟩
theorem se_X6_cutTo : Cond.static yX6_cutTo ∈ hg_U := (hg_Uin (List.mem_of_getElem? (i := 1043) (by decide +kernel)) (by decide +kernel))
theorem cs_X6_210 (cx : hg_Cx E p s m args meth c cc nL RX6 ret) {rm : Room} {v0 v1 : Value} {f : Int64 → hg_Mem → Prop} (K : hg_C l E yX6_cutTo cX6_cutTo 3 (some .long) rm [v0, v1] σ (hg_pl f)) (hrm : rm.cells = 0 ∧ rm.slots = 0 ∧ rm.frames + 1 ≤ R.frames ∧ 8 + (3 + 11) + rm.locals ≤ R.locals) (hcat : (st.map fun v => v.category).sum ≤ 8) (hd : decode cc pc = .ok (.invokestatic 210, 3)) (hp : pc + 3 = pc') (kk : ∀ r τ, f r τ → hg_G E p l e R s m args below meth c nL Q τ pc' lv (.long r :: st)) : hg_G E p l e R s m args below meth c nL Q σ pc lv (v1 :: v0 :: st) := hg_callS cx lk_X6_210 se_X6_cutTo K hrm rfl rfl hcat hd hp (hg_kL kk)
theorem lk_X6_214 : hg_Lk RX6 214 yX6_notCopied cX6_notCopied 7 (some .int) 5 := ⟨(hg_Uin (List.mem_of_getElem? (i := 1049) (by decide +kernel)) (by decide +kernel)), (hg_Uin (List.mem_of_getElem? (i := 1052) (by decide +kernel)) (by decide +kernel)), (hg_Uin (List.mem_of_getElem? (i := 63) (by decide +kernel)) (by decide +kernel)), by decide +kernel⟩
theorem se_X6_notCopied : Cond.instanceMethod yX6_notCopied ∈ hg_U ∧ Cond.selects yX6_notCopied.cls yX6_notCopied yX6_notCopied ∈ hg_U := ⟨(hg_Uin (List.mem_of_getElem? (i := 1051) (by decide +kernel)) (by decide +kernel)), (hg_Uin (List.mem_of_getElem? (i := 53) (by decide +kernel)) (by decide +kernel))⟩
theorem cv_X6_214 (cx : hg_Cx E p s m args meth c cc nL RX6 ret) {rm : Room} {v0 v1 v2 v3 v4 : Value} {f : Int32 → hg_Mem → Prop} (K : hg_C l E yX6_notCopied cX6_notCopied 7 (some .int) rm [.ref (hg_ad E 50), v0, v1, v2, v3, v4] σ (hg_pi f)) (hrm : rm.cells = 0 ∧ rm.slots = 0 ∧ rm.frames + 1 ≤ R.frames ∧ 8 + (7 + 11) + rm.locals ≤ R.locals) (hcat : (st.map fun v => v.category).sum ≤ 8) (hd : decode cc pc = .ok (.invokevirtual 214, 3)) (hp : pc + 3 = pc') (kk : ∀ r τ, f r τ → hg_G E p l e R s m args below meth c nL Q τ pc' lv (.int r :: st)) : hg_G E p l e R s m args below meth c nL Q σ pc lv (v4 :: v3 :: v2 :: v1 :: v0 :: .ref (hg_ad E 50) :: st) := hg_callV (i := 50) cx lk_X6_214 se_X6_notCopied K hrm (by decide) rfl rfl rfl rfl rfl hcat hd hp (hg_kI kk)
theorem lk_X6_218 : hg_Lk RX6 218 yX6_notAsked cX6_notAsked 4 (some .int) 2 := ⟨(hg_Uin (List.mem_of_getElem? (i := 1061) (by decide +kernel)) (by decide +kernel)), (hg_Uin (List.mem_of_getElem? (i := 1064) (by decide +kernel)) (by decide +kernel)), (hg_Uin (List.mem_of_getElem? (i := 63) (by decide +kernel)) (by decide +kernel)), by decide +kernel⟩
theorem se_X6_notAsked : Cond.instanceMethod yX6_notAsked ∈ hg_U ∧ Cond.selects yX6_notAsked.cls yX6_notAsked yX6_notAsked ∈ hg_U := ⟨(hg_Uin (List.mem_of_getElem? (i := 1063) (by decide +kernel)) (by decide +kernel)), (hg_Uin (List.mem_of_getElem? (i := 54) (by decide +kernel)) (by decide +kernel))⟩
theorem cv_X6_218 (cx : hg_Cx E p s m args meth c cc nL RX6 ret) {rm : Room} {v0 v1 : Value} {f : Int32 → hg_Mem → Prop} (K : hg_C l E yX6_notAsked cX6_notAsked 4 (some .int) rm [.ref (hg_ad E 50), v0, v1] σ (hg_pi f)) (hrm : rm.cells = 0 ∧ rm.slots = 0 ∧ rm.frames + 1 ≤ R.frames ∧ 8 + (4 + 11) + rm.locals ≤ R.locals) (hcat : (st.map fun v => v.category).sum ≤ 8) (hd : decode cc pc = .ok (.invokevirtual 218, 3)) (hp : pc + 3 = pc') (kk : ∀ r τ, f r τ → hg_G E p l e R s m args below meth c nL Q τ pc' lv (.int r :: st)) : hg_G E p l e R s m args below meth c nL Q σ pc lv (v1 :: v0 :: .ref (hg_ad E 50) :: st) := hg_callV (i := 50) cx lk_X6_218 se_X6_notAsked K hrm (by decide) rfl rfl rfl rfl rfl hcat hd hp (hg_kI kk)
theorem lk_X6_221 : hg_Lk RX6 221 yX6_isBook cX6_isBook 5 (some .boolean) 2 := ⟨(hg_Uin (List.mem_of_getElem? (i := 1069) (by decide +kernel)) (by decide +kernel)), (hg_Uin (List.mem_of_getElem? (i := 1072) (by decide +kernel)) (by decide +kernel)), (hg_Uin (List.mem_of_getElem? (i := 63) (by decide +kernel)) (by decide +kernel)), by decide +kernel⟩
theorem se_X6_isBook : Cond.instanceMethod yX6_isBook ∈ hg_U ∧ Cond.selects yX6_isBook.cls yX6_isBook yX6_isBook ∈ hg_U := ⟨(hg_Uin (List.mem_of_getElem? (i := 1071) (by decide +kernel)) (by decide +kernel)), (hg_Uin (List.mem_of_getElem? (i := 55) (by decide +kernel)) (by decide +kernel))⟩
theorem cv_X6_221 (cx : hg_Cx E p s m args meth c cc nL RX6 ret) {rm : Room} {v0 v1 : Value} {f : Int32 → hg_Mem → Prop} (K : hg_C l E yX6_isBook cX6_isBook 5 (some .boolean) rm [.ref (hg_ad E 50), v0, v1] σ (hg_pi f)) (hrm : rm.cells = 0 ∧ rm.slots = 0 ∧ rm.frames + 1 ≤ R.frames ∧ 8 + (5 + 11) + rm.locals ≤ R.locals) (hcat : (st.map fun v => v.category).sum ≤ 8) (hd : decode cc pc = .ok (.invokevirtual 221, 3)) (hp : pc + 3 = pc') (kk : ∀ r τ, f r τ → hg_G E p l e R s m args below meth c nL Q τ pc' lv (.int r :: st)) : hg_G E p l e R s m args below meth c nL Q σ pc lv (v1 :: v0 :: .ref (hg_ad E 50) :: st) := hg_callV (i := 50) cx lk_X6_221 se_X6_isBook K hrm (by decide) rfl rfl rfl rfl rfl hcat hd hp (hg_kI kk)
theorem lk_J0_335 : hg_Lk RJ0 335 yJ0_coder_7d493 cJ0_coder_7d493 1 (some .byte) 0 := ⟨(hg_Uin (List.mem_of_getElem? (i := 542) (by decide +kernel)) (by decide +kernel)), (hg_Uin (List.mem_of_getElem? (i := 545) (by decide +kernel)) (by decide +kernel)), (hg_Uin (List.mem_of_getElem? (i := 66) (by decide +kernel)) (by decide +kernel)), by decide +kernel⟩
theorem se_J0_coder_7d493 : Cond.instanceMethod yJ0_coder_7d493 ∈ hg_U ∧ Cond.selects yJ0_coder_7d493.cls yJ0_coder_7d493 yJ0_coder_7d493 ∈ hg_U := ⟨(hg_Uin (List.mem_of_getElem? (i := 543) (by decide +kernel)) (by decide +kernel)), (hg_Uin (List.mem_of_getElem? (i := 544) (by decide +kernel)) (by decide +kernel))⟩
theorem lk_J0_492 : hg_Lk RJ0 492 yJ0_isLatin1_aae02 cJ0_isLatin1_aae02 1 (some .boolean) 0 := ⟨(hg_Uin (List.mem_of_getElem? (i := 552) (by decide +kernel)) (by decide +kernel)), (hg_Uin (List.mem_of_getElem? (i := 555) (by decide +kernel)) (by decide +kernel)), (hg_Uin (List.mem_of_getElem? (i := 66) (by decide +kernel)) (by decide +kernel)), by decide +kernel⟩
theorem se_J0_isLatin1_aae02 : Cond.instanceMethod yJ0_isLatin1_aae02 ∈ hg_U ∧ Cond.selects yJ0_isLatin1_aae02.cls yJ0_isLatin1_aae02 yJ0_isLatin1_aae02 ∈ hg_U := ⟨(hg_Uin (List.mem_of_getElem? (i := 553) (by decide +kernel)) (by decide +kernel)), (hg_Uin (List.mem_of_getElem? (i := 554) (by decide +kernel)) (by decide +kernel))⟩
theorem lk_J0_495 : hg_Lk RJ0 495 yJ1_charAt_3b067 cJ1_charAt_3b067 2 (some .char) 2 := ⟨(hg_Uin (List.mem_of_getElem? (i := 556) (by decide +kernel)) (by decide +kernel)), (hg_Uin (List.mem_of_getElem? (i := 558) (by decide +kernel)) (by decide +kernel)), (hg_Uin (List.mem_of_getElem? (i := 67) (by decide +kernel)) (by decide +kernel)), by decide +kernel⟩
theorem se_J1_charAt_3b067 : Cond.static yJ1_charAt_3b067 ∈ hg_U := (hg_Uin (List.mem_of_getElem? (i := 557) (by decide +kernel)) (by decide +kernel))
theorem cs_J0_495 (cx : hg_Cx E p s m args meth c cc nL RJ0 ret) {rm : Room} {v0 v1 : Value} {f : Int32 → hg_Mem → Prop} (K : hg_C l E yJ1_charAt_3b067 cJ1_charAt_3b067 2 (some .char) rm [v0, v1] σ (hg_pi f)) (hrm : rm.cells = 0 ∧ rm.slots = 0 ∧ rm.frames + 1 ≤ R.frames ∧ 8 + (2 + 11) + rm.locals ≤ R.locals) (hcat : (st.map fun v => v.category).sum ≤ 8) (hd : decode cc pc = .ok (.invokestatic 495, 3)) (hp : pc + 3 = pc') (kk : ∀ r τ, f r τ → hg_G E p l e R s m args below meth c nL Q τ pc' lv (.int r :: st)) : hg_G E p l e R s m args below meth c nL Q σ pc lv (v1 :: v0 :: st) := hg_callS cx lk_J0_495 se_J1_charAt_3b067 K hrm rfl rfl hcat hd hp (hg_kI kk)
theorem lk_J0_498 : hg_Lk RJ0 498 yJ2_charAt_3b067 cJ2_charAt_3b067 2 (some .char) 2 := ⟨(hg_Uin (List.mem_of_getElem? (i := 567) (by decide +kernel)) (by decide +kernel)), (hg_Uin (List.mem_of_getElem? (i := 569) (by decide +kernel)) (by decide +kernel)), (hg_Uin (List.mem_of_getElem? (i := 69) (by decide +kernel)) (by decide +kernel)), by decide +kernel⟩
theorem se_J2_charAt_3b067 : Cond.static yJ2_charAt_3b067 ∈ hg_U := (hg_Uin (List.mem_of_getElem? (i := 568) (by decide +kernel)) (by decide +kernel))
theorem cs_J0_498 (cx : hg_Cx E p s m args meth c cc nL RJ0 ret) {rm : Room} {v0 v1 : Value} {f : Int32 → hg_Mem → Prop} (K : hg_C l E yJ2_charAt_3b067 cJ2_charAt_3b067 2 (some .char) rm [v0, v1] σ (hg_pi f)) (hrm : rm.cells = 0 ∧ rm.slots = 0 ∧ rm.frames + 1 ≤ R.frames ∧ 8 + (2 + 11) + rm.locals ≤ R.locals) (hcat : (st.map fun v => v.category).sum ≤ 8) (hd : decode cc pc = .ok (.invokestatic 498, 3)) (hp : pc + 3 = pc') (kk : ∀ r τ, f r τ → hg_G E p l e R s m args below meth c nL Q τ pc' lv (.int r :: st)) : hg_G E p l e R s m args below meth c nL Q σ pc lv (v1 :: v0 :: st) := hg_callS cx lk_J0_498 se_J2_charAt_3b067 K hrm rfl rfl hcat hd hp (hg_kI kk)
theorem lk_J0_1059 : hg_Lk RJ0 1059 yJ3_checkIndex_8e157 cJ3_checkIndex_8e157 3 (some .int) 3 := ⟨(hg_Uin (List.mem_of_getElem? (i := 564) (by decide +kernel)) (by decide +kernel)), (hg_Uin (List.mem_of_getElem? (i := 566) (by decide +kernel)) (by decide +kernel)), (hg_Uin (List.mem_of_getElem? (i := 68) (by decide +kernel)) (by decide +kernel)), by decide +kernel⟩
theorem se_J3_checkIndex_8e157 : Cond.static yJ3_checkIndex_8e157 ∈ hg_U := (hg_Uin (List.mem_of_getElem? (i := 565) (by decide +kernel)) (by decide +kernel))
theorem cs_J0_1059 (cx : hg_Cx E p s m args meth c cc nL RJ0 ret) {rm : Room} {v0 v1 v2 : Value} {f : Int32 → hg_Mem → Prop} (K : hg_C l E yJ3_checkIndex_8e157 cJ3_checkIndex_8e157 3 (some .int) rm [v0, v1, v2] σ (hg_pi f)) (hrm : rm.cells = 0 ∧ rm.slots = 0 ∧ rm.frames + 1 ≤ R.frames ∧ 8 + (3 + 11) + rm.locals ≤ R.locals) (hcat : (st.map fun v => v.category).sum ≤ 8) (hd : decode cc pc = .ok (.invokestatic 1059, 3)) (hp : pc + 3 = pc') (kk : ∀ r τ, f r τ → hg_G E p l e R s m args below meth c nL Q τ pc' lv (.int r :: st)) : hg_G E p l e R s m args below meth c nL Q σ pc lv (v2 :: v1 :: v0 :: st) := hg_callS cx lk_J0_1059 se_J3_checkIndex_8e157 K hrm rfl rfl hcat hd hp (hg_kI kk)
theorem lk_J1_9 : hg_Lk RJ1 9 yJ0_checkIndex_df160 cJ0_checkIndex_df160 2 none 2 := ⟨(hg_Uin (List.mem_of_getElem? (i := 559) (by decide +kernel)) (by decide +kernel)), (hg_Uin (List.mem_of_getElem? (i := 561) (by decide +kernel)) (by decide +kernel)), (hg_Uin (List.mem_of_getElem? (i := 66) (by decide +kernel)) (by decide +kernel)), by decide +kernel⟩
theorem se_J0_checkIndex_df160 : Cond.static yJ0_checkIndex_df160 ∈ hg_U := (hg_Uin (List.mem_of_getElem? (i := 560) (by decide +kernel)) (by decide +kernel))
theorem cs_J1_9 (cx : hg_Cx E p s m args meth c cc nL RJ1 ret) {rm : Room} {v0 v1 : Value} {f : hg_Mem → Prop} (K : hg_C l E yJ0_checkIndex_df160 cJ0_checkIndex_df160 2 none rm [v0, v1] σ (hg_pv f)) (hrm : rm.cells = 0 ∧ rm.slots = 0 ∧ rm.frames + 1 ≤ R.frames ∧ 8 + (2 + 11) + rm.locals ≤ R.locals) (hcat : (st.map fun v => v.category).sum ≤ 8) (hd : decode cc pc = .ok (.invokestatic 9, 3)) (hp : pc + 3 = pc') (kk : ∀ τ, f τ → hg_G E p l e R s m args below meth c nL Q τ pc' lv st) : hg_G E p l e R s m args below meth c nL Q σ pc lv (v1 :: v0 :: st) := hg_callS cx lk_J1_9 se_J0_checkIndex_df160 K hrm rfl rfl hcat hd hp (hg_kV kk)
theorem lk_J2_48 : hg_Lk RJ2 48 yJ2_length_9d52b cJ2_length_9d52b 1 (some .int) 1 := ⟨(hg_Uin (List.mem_of_getElem? (i := 573) (by decide +kernel)) (by decide +kernel)), (hg_Uin (List.mem_of_getElem? (i := 575) (by decide +kernel)) (by decide +kernel)), (hg_Uin (List.mem_of_getElem? (i := 69) (by decide +kernel)) (by decide +kernel)), by decide +kernel⟩
theorem se_J2_length_9d52b : Cond.static yJ2_length_9d52b ∈ hg_U := (hg_Uin (List.mem_of_getElem? (i := 574) (by decide +kernel)) (by decide +kernel))
theorem cs_J2_48 (cx : hg_Cx E p s m args meth c cc nL RJ2 ret) {rm : Room} {v0 : Value} {f : Int32 → hg_Mem → Prop} (K : hg_C l E yJ2_length_9d52b cJ2_length_9d52b 1 (some .int) rm [v0] σ (hg_pi f)) (hrm : rm.cells = 0 ∧ rm.slots = 0 ∧ rm.frames + 1 ≤ R.frames ∧ 8 + (1 + 11) + rm.locals ≤ R.locals) (hcat : (st.map fun v => v.category).sum ≤ 8) (hd : decode cc pc = .ok (.invokestatic 48, 3)) (hp : pc + 3 = pc') (kk : ∀ r τ, f r τ → hg_G E p l e R s m args below meth c nL Q τ pc' lv (.int r :: st)) : hg_G E p l e R s m args below meth c nL Q σ pc lv (v0 :: st) := hg_callS cx lk_J2_48 se_J2_length_9d52b K hrm rfl rfl hcat hd hp (hg_kI kk)
theorem lk_J2_67 : hg_Lk RJ2 67 yJ2_checkIndex_2214a cJ2_checkIndex_2214a 2 none 2 := ⟨(hg_Uin (List.mem_of_getElem? (i := 570) (by decide +kernel)) (by decide +kernel)), (hg_Uin (List.mem_of_getElem? (i := 572) (by decide +kernel)) (by decide +kernel)), (hg_Uin (List.mem_of_getElem? (i := 69) (by decide +kernel)) (by decide +kernel)), by decide +kernel⟩
theorem se_J2_checkIndex_2214a : Cond.static yJ2_checkIndex_2214a ∈ hg_U := (hg_Uin (List.mem_of_getElem? (i := 571) (by decide +kernel)) (by decide +kernel))
theorem cs_J2_67 (cx : hg_Cx E p s m args meth c cc nL RJ2 ret) {rm : Room} {v0 v1 : Value} {f : hg_Mem → Prop} (K : hg_C l E yJ2_checkIndex_2214a cJ2_checkIndex_2214a 2 none rm [v0, v1] σ (hg_pv f)) (hrm : rm.cells = 0 ∧ rm.slots = 0 ∧ rm.frames + 1 ≤ R.frames ∧ 8 + (2 + 11) + rm.locals ≤ R.locals) (hcat : (st.map fun v => v.category).sum ≤ 8) (hd : decode cc pc = .ok (.invokestatic 67, 3)) (hp : pc + 3 = pc') (kk : ∀ τ, f τ → hg_G E p l e R s m args below meth c nL Q τ pc' lv st) : hg_G E p l e R s m args below meth c nL Q σ pc lv (v1 :: v0 :: st) := hg_callS cx lk_J2_67 se_J2_checkIndex_2214a K hrm rfl rfl hcat hd hp (hg_kV kk)
theorem lk_J2_71 : hg_Lk RJ2 71 yJ2_getChar_3b067 cJ2_getChar_3b067 2 (some .char) 2 := ⟨(hg_Uin (List.mem_of_getElem? (i := 577) (by decide +kernel)) (by decide +kernel)), (hg_Uin (List.mem_of_getElem? (i := 579) (by decide +kernel)) (by decide +kernel)), (hg_Uin (List.mem_of_getElem? (i := 69) (by decide +kernel)) (by decide +kernel)), by decide +kernel⟩
theorem se_J2_getChar_3b067 : Cond.static yJ2_getChar_3b067 ∈ hg_U := (hg_Uin (List.mem_of_getElem? (i := 578) (by decide +kernel)) (by decide +kernel))
theorem cs_J2_71 (cx : hg_Cx E p s m args meth c cc nL RJ2 ret) {rm : Room} {v0 v1 : Value} {f : Int32 → hg_Mem → Prop} (K : hg_C l E yJ2_getChar_3b067 cJ2_getChar_3b067 2 (some .char) rm [v0, v1] σ (hg_pi f)) (hrm : rm.cells = 0 ∧ rm.slots = 0 ∧ rm.frames + 1 ≤ R.frames ∧ 8 + (2 + 11) + rm.locals ≤ R.locals) (hcat : (st.map fun v => v.category).sum ≤ 8) (hd : decode cc pc = .ok (.invokestatic 71, 3)) (hp : pc + 3 = pc') (kk : ∀ r τ, f r τ → hg_G E p l e R s m args below meth c nL Q τ pc' lv (.int r :: st)) : hg_G E p l e R s m args below meth c nL Q σ pc lv (v1 :: v0 :: st) := hg_callS cx lk_J2_71 se_J2_getChar_3b067 K hrm rfl rfl hcat hd hp (hg_kI kk)
theorem lk_J2_414 : hg_Lk RJ2 414 yJ0_checkIndex_df160 cJ0_checkIndex_df160 2 none 2 := ⟨(hg_Uin (List.mem_of_getElem? (i := 576) (by decide +kernel)) (by decide +kernel)), (hg_Uin (List.mem_of_getElem? (i := 561) (by decide +kernel)) (by decide +kernel)), (hg_Uin (List.mem_of_getElem? (i := 66) (by decide +kernel)) (by decide +kernel)), by decide +kernel⟩
theorem cs_J2_414 (cx : hg_Cx E p s m args meth c cc nL RJ2 ret) {rm : Room} {v0 v1 : Value} {f : hg_Mem → Prop} (K : hg_C l E yJ0_checkIndex_df160 cJ0_checkIndex_df160 2 none rm [v0, v1] σ (hg_pv f)) (hrm : rm.cells = 0 ∧ rm.slots = 0 ∧ rm.frames + 1 ≤ R.frames ∧ 8 + (2 + 11) + rm.locals ≤ R.locals) (hcat : (st.map fun v => v.category).sum ≤ 8) (hd : decode cc pc = .ok (.invokestatic 414, 3)) (hp : pc + 3 = pc') (kk : ∀ τ, f τ → hg_G E p l e R s m args below meth c nL Q τ pc' lv st) : hg_G E p l e R s m args below meth c nL Q σ pc lv (v1 :: v0 :: st) := hg_callS cx lk_J2_414 se_J0_checkIndex_df160 K hrm rfl rfl hcat hd hp (hg_kV kk)
end HGL
theorem kc_X5_53 : Cond.constant RX5 53 (-1000000001) ∈ hg_U := (hg_Uin (List.mem_of_getElem? (i := 253) (by decide +kernel)) (by decide +kernel))
theorem kc_X5_91 : Cond.constant RX5 91 (-1000000002) ∈ hg_U := (hg_Uin (List.mem_of_getElem? (i := 306) (by decide +kernel)) (by decide +kernel))
theorem kc_X5_140 : Cond.constant RX5 140 (-1000000003) ∈ hg_U := (hg_Uin (List.mem_of_getElem? (i := 365) (by decide +kernel)) (by decide +kernel))
theorem kc_X5_141 : Cond.constant RX5 141 (99999) ∈ hg_U := (hg_Uin (List.mem_of_getElem? (i := 370) (by decide +kernel)) (by decide +kernel))
theorem kc_X5_142 : Cond.constant RX5 142 (-1000000005) ∈ hg_U := (hg_Uin (List.mem_of_getElem? (i := 371) (by decide +kernel)) (by decide +kernel))
theorem kc_X5_157 : Cond.constant RX5 157 (-1000000004) ∈ hg_U := (hg_Uin (List.mem_of_getElem? (i := 427) (by decide +kernel)) (by decide +kernel))
theorem kc_X5_178 : Cond.constant RX5 178 (99991) ∈ hg_U := (hg_Uin (List.mem_of_getElem? (i := 467) (by decide +kernel)) (by decide +kernel))
theorem kc_X5_199 : Cond.constant RX5 199 (-1000000007) ∈ hg_U := (hg_Uin (List.mem_of_getElem? (i := 632) (by decide +kernel)) (by decide +kernel))
theorem kc_X5_207 : Cond.constant RX5 207 (-1000000006) ∈ hg_U := (hg_Uin (List.mem_of_getElem? (i := 650) (by decide +kernel)) (by decide +kernel))
theorem kc_X5_228 : Cond.constantLong RX5 228 (255) ∈ hg_U := (hg_Uin (List.mem_of_getElem? (i := 670) (by decide +kernel)) (by decide +kernel))
theorem kc_L_117 : Cond.constantLong RL 117 (4294967295) ∈ hg_U := (hg_Uin (List.mem_of_getElem? (i := 1093) (by decide +kernel)) (by decide +kernel))
theorem kc_X6_38 : Cond.constant RX6 38 (-1000000001) ∈ hg_U := (hg_Uin (List.mem_of_getElem? (i := 774) (by decide +kernel)) (by decide +kernel))
theorem kc_X6_39 : Cond.constant RX6 39 (-1000000004) ∈ hg_U := (hg_Uin (List.mem_of_getElem? (i := 907) (by decide +kernel)) (by decide +kernel))
theorem kc_X6_78 : Cond.constant RX6 78 (-1000000002) ∈ hg_U := (hg_Uin (List.mem_of_getElem? (i := 815) (by decide +kernel)) (by decide +kernel))
theorem kc_X6_96 : Cond.constant RX6 96 (-1000000003) ∈ hg_U := (hg_Uin (List.mem_of_getElem? (i := 859) (by decide +kernel)) (by decide +kernel))
theorem kc_X6_110 : Cond.constant RX6 110 (99999) ∈ hg_U := (hg_Uin (List.mem_of_getElem? (i := 864) (by decide +kernel)) (by decide +kernel))
theorem kc_X6_111 : Cond.constant RX6 111 (-1000000005) ∈ hg_U := (hg_Uin (List.mem_of_getElem? (i := 865) (by decide +kernel)) (by decide +kernel))
theorem kc_X6_205 : Cond.constant RX6 205 (-1000000007) ∈ hg_U := (hg_Uin (List.mem_of_getElem? (i := 1032) (by decide +kernel)) (by decide +kernel))
theorem kc_X6_206 : Cond.constant RX6 206 (-1000000006) ∈ hg_U := (hg_Uin (List.mem_of_getElem? (i := 1041) (by decide +kernel)) (by decide +kernel))
theorem kc_J6_265 : Cond.constant RJ6 265 (1431655765) ∈ hg_U := (hg_Uin (List.mem_of_getElem? (i := 443) (by decide +kernel)) (by decide +kernel))
theorem kc_J6_266 : Cond.constant RJ6 266 (858993459) ∈ hg_U := (hg_Uin (List.mem_of_getElem? (i := 444) (by decide +kernel)) (by decide +kernel))
theorem kc_J6_267 : Cond.constant RJ6 267 (252645135) ∈ hg_U := (hg_Uin (List.mem_of_getElem? (i := 445) (by decide +kernel)) (by decide +kernel))
end
section
/-! WHAT THE DOCUMENT'S WORDS ARE, as functions: a hat is its six numbers (KIND, VIEW, RIGHT, WRONG, FAITH, ON) by place; both the class and the reference are tied to these -/
def sp_bit (v q : Int32) : Int32 := (v >>> (q &&& 31)) &&& 1
def sp_bowler (h : Nat → Int32) (q : Int32) : Int32 := if h 2 < h 3 then 1 - sp_bit (h 1) q else sp_bit (h 1) q
def sp_cap (h : Nat → Int32) (q held : Int32) : Int32 := if h 4 < 30 then sp_bit held q else sp_bit (h 1) q
/-- SAYS -/
def sp_says (h : Nat → Int32) (q held : Int32) : Int32 :=
  if h 0 = 1 then sp_bowler h q
  else if h 0 = 2 then sp_cap h q held
  else if h 0 = 3 then (if h 3 = 0 ∧ h 2 < 3 then -1 else sp_bit (h 1) q)
  else if h 0 = 4 then (if h 4 = 0 then -1 else sp_bowler h q)
  else if h 0 = 5 then (if q = 7 then 1 else sp_cap h q held)
  else sp_bit (h 1) q
/-- WEIGHS -/
def sp_weighs (h : Nat → Int32) (ses : Int32) : Int32 :=
  if h 0 = 1 then 1 + h 4 / 50
  else if h 0 = 3 then 3
  else if h 0 = 4 then 2 * (1 + h 4 / 50)
  else if h 0 = 5 then (if ses - ses / 3 * 3 = 0 then 2 else 1)
  else 1
/-- LEARNS -/
def sp_learns (h : Nat → Int32) (ses : Int32) : Int32 :=
  if h 0 = 1 then 1
  else if h 0 = 3 then 0
  else if h 0 = 4 then (if ses - ses / 2 * 2 = 0 then 1 else 0)
  else if 50 ≤ h 4 then 1 else 0
/-- STIRS -/
def sp_stirs (h : Nat → Int32) : Int32 :=
  if h 0 = 2 then 10
  else if h 0 = 3 then 1
  else if h 0 = 1 ∨ h 0 = 4 ∨ h 0 = 5 then 3
  else 5
/-- one as one of a kind -/
def sp_isKind (h : Nat → Int32) (k : Int32) : Int32 := if k = h 0 ∨ k = 0 ∨ (k = 1 ∧ h 0 = 4) ∨ (k = 2 ∧ h 0 = 5) then 1 else 0
def sp_mostOf (what : Int32) : Int32 := if what = 1 then 255 else if what = 4 then 99 else if what = 5 then 1 else 9999
def sp_trait (h : Nat → Int32) (what : Int32) : Int32 := if what = 1 then h 1 else if what = 2 then h 2 else if what = 3 then h 3 else if what = 4 then h 4 else if what = 5 then h 5 else h 0
def sp_out (v a b : Int32) : Int32 := if v < a ∨ b < v then 1 else 0
theorem hg_z01 (P : Prop) [Decidable P] : narrow .boolean (.int (if P then (1 : Int32) else 0)) = .int (if P then 1 else 0) := by split <;> rfl
theorem hg_f01 (P : Prop) [Decidable P] : narrow .boolean (.int (if P then (1 : Int32) else 0)) = .int (if P then 1 else 0) ∧ fits .boolean (.int (if P then (1 : Int32) else 0)) = true := by split <;> exact ⟨rfl, rfl⟩
end
section
set_option maxHeartbeats 4000000 in
set_option maxRecDepth 100000 in
theorem K_X5_bit (l : Launch) (E : hg_Wd) (σ : hg_Mem) (v : Int32) (q : Int32) : hg_C l E yX5_bit cX5_bit 2 (some .int) { frames := 0, cells := 0, slots := 0, locals := 0 } [.int v, .int q] σ (hg_pi (fun r τ => r = sp_bit v q ∧ τ = σ)) := by
  refine hg_intro (by decide) [some (.int v), some (.int q)] rfl (Nat.le_of_ble_eq_true rfl) ?_
  intro p e s m args below meth c cx
  have cx : hg_Cx E p s m args meth c cX5_bit 2 RX5 (some .int) := cx
  refine hg_iload0 cx dX5_bit_0 rfl ?_
  refine hg_iload1 cx dX5_bit_1 rfl ?_
  refine hg_ishr cx dX5_bit_2 rfl ?_
  refine hg_iconst cx 1 dX5_bit_3 (by decide) rfl ?_
  refine hg_iand cx dX5_bit_4 rfl ?_
  refine hg_iret cx dX5_bit_5 ⟨_, rfl, ?_⟩
  exact ⟨by first | rfl | (simp [sp_bit, and_self]; done) | (simp (decide := true) only [sp_bit, and_self, ↓reduceIte, and_true, true_and, and_false, false_and, or_false, false_or, true_or, or_true]; done) | (simp only [sp_bit]; grind) | (simp_all [sp_bit]; done), rfl⟩
set_option maxHeartbeats 4000000 in
set_option maxRecDepth 100000 in
theorem K_X5_outside (l : Launch) (E : hg_Wd) (σ : hg_Mem) (v : Int32) (a : Int32) (b : Int32) : hg_C l E yX5_outside cX5_outside 3 (some .boolean) { frames := 0, cells := 0, slots := 0, locals := 0 } [.int v, .int a, .int b] σ (hg_pi (fun r τ => r = sp_out v a b ∧ τ = σ)) := by
  refine hg_intro (by decide) [some (.int v), some (.int a), some (.int b)] rfl (Nat.le_of_ble_eq_true rfl) ?_
  intro p e s m args below meth c cx
  have cx : hg_Cx E p s m args meth c cX5_outside 3 RX5 (some .boolean) := cx
  refine hg_iload0 cx dX5_outside_0 rfl ?_
  refine hg_iload1 cx dX5_outside_1 rfl ?_
  refine hg_icmp_lt cx 10 dX5_outside_2 (by decide) rfl (fun c_2 => ?_) (fun c_2 => ?_)
  ·
    refine hg_iconst cx 1 dX5_outside_10 (by decide) rfl ?_
    refine hg_goto cx 15 dX5_outside_11 (by decide) ?_
    refine hg_zret cx rfl dX5_outside_15 ⟨_, rfl, ?_⟩
    exact ⟨by first | rfl | (simp [sp_out, c_2]; done) | (simp (decide := true) only [sp_out, c_2, ↓reduceIte, and_true, true_and, and_false, false_and, or_false, false_or, true_or, or_true]; done) | (simp only [sp_out]; grind) | (simp_all [sp_out]; done), rfl⟩
  ·
    refine hg_iload0 cx dX5_outside_5 rfl ?_
    refine hg_iload2 cx dX5_outside_6 rfl ?_
    refine hg_icmp_le cx 14 dX5_outside_7 (by decide) rfl (fun c_7 => ?_) (fun c_7 => ?_)
    ·
      refine hg_iconst cx 0 dX5_outside_14 (by decide) rfl ?_
      refine hg_zret cx rfl dX5_outside_15 ⟨_, rfl, ?_⟩
      exact ⟨by first | rfl | (simp [sp_out, c_2, c_7]; done) | (simp (decide := true) only [sp_out, c_2, c_7, ↓reduceIte, and_true, true_and, and_false, false_and, or_false, false_or, true_or, or_true]; done) | (simp only [sp_out]; grind) | (simp_all [sp_out]; done), rfl⟩
    ·
      refine hg_iconst cx 1 dX5_outside_10 (by decide) rfl ?_
      refine hg_goto cx 15 dX5_outside_11 (by decide) ?_
      refine hg_zret cx rfl dX5_outside_15 ⟨_, rfl, ?_⟩
      exact ⟨by first | rfl | (simp [sp_out, c_2, c_7]; done) | (simp (decide := true) only [sp_out, c_2, c_7, ↓reduceIte, and_true, true_and, and_false, false_and, or_false, false_or, true_or, or_true]; done) | (simp only [sp_out]; grind) | (simp_all [sp_out]; done), rfl⟩
set_option maxHeartbeats 4000000 in
set_option maxRecDepth 100000 in
theorem K_X1_answerAsBowler (l : Launch) (E : hg_Wd) (σ : hg_Mem) (i : Nat) (h1 : 20 ≤ i) (h2 : i < 50) (q : Int32) : hg_C l E yX1_answerAsBowler cX1_answerAsBowler 2 (some .int) { frames := 1, cells := 0, slots := 0, locals := 21 } [.ref (hg_ad E i), .int q] σ (hg_pi (fun r τ => r = sp_bowler (σ.1 i) q ∧ τ = σ)) := by
  refine hg_intro (by decide) [some (.ref (hg_ad E i)), some (.int q)] rfl (Nat.le_of_ble_eq_true rfl) ?_
  intro p e s m args below meth c cx
  have cx : hg_Cx E p s m args meth c cX1_answerAsBowler 2 RX1 (some .int) := cx
  refine hg_aload0 cx dX1_answerAsBowler_0 rfl ?_
  refine gf_X1_21 cx (by first | assumption | omega | decide) (by first | assumption | omega | decide) dX1_answerAsBowler_1 rfl ?_
  refine hg_aload0 cx dX1_answerAsBowler_4 rfl ?_
  refine gf_X1_18 cx (by first | assumption | omega | decide) (by first | assumption | omega | decide) dX1_answerAsBowler_5 rfl ?_
  refine hg_icmp_le cx 24 dX1_answerAsBowler_8 (by decide) rfl (fun c_8 => ?_) (fun c_8 => ?_)
  ·
    refine hg_aload0 cx dX1_answerAsBowler_24 rfl ?_
    refine gf_X1_15 cx (by first | assumption | omega | decide) (by first | assumption | omega | decide) dX1_answerAsBowler_25 rfl ?_
    refine hg_iload1 cx dX1_answerAsBowler_28 rfl ?_
    refine cs_X1_38 cx (K_X5_bit l E _ _ _) ⟨rfl, rfl, Nat.le_of_ble_eq_true rfl, Nat.le_of_ble_eq_true rfl⟩ (Nat.le_of_ble_eq_true rfl) dX1_answerAsBowler_29 rfl (fun r_29 τ_29 h_29 => ?_)
    obtain ⟨rfl, rfl⟩ := h_29
    refine hg_iret cx dX1_answerAsBowler_32 ⟨_, rfl, ?_⟩
    exact ⟨by first | rfl | (simp [sp_bowler, c_8]; done) | (simp (decide := true) only [sp_bowler, c_8, ↓reduceIte, and_true, true_and, and_false, false_and, or_false, false_or, true_or, or_true]; done) | (simp only [sp_bowler]; grind) | (simp_all [sp_bowler]; done), rfl⟩
  ·
    refine hg_iconst cx 1 dX1_answerAsBowler_11 (by decide) rfl ?_
    refine hg_aload0 cx dX1_answerAsBowler_12 rfl ?_
    refine gf_X1_15 cx (by first | assumption | omega | decide) (by first | assumption | omega | decide) dX1_answerAsBowler_13 rfl ?_
    refine hg_iload1 cx dX1_answerAsBowler_16 rfl ?_
    refine cs_X1_38 cx (K_X5_bit l E _ _ _) ⟨rfl, rfl, Nat.le_of_ble_eq_true rfl, Nat.le_of_ble_eq_true rfl⟩ (Nat.le_of_ble_eq_true rfl) dX1_answerAsBowler_17 rfl (fun r_17 τ_17 h_17 => ?_)
    obtain ⟨rfl, rfl⟩ := h_17
    refine hg_isub cx dX1_answerAsBowler_20 rfl ?_
    refine hg_goto cx 32 dX1_answerAsBowler_21 (by decide) ?_
    refine hg_iret cx dX1_answerAsBowler_32 ⟨_, rfl, ?_⟩
    exact ⟨by first | rfl | (simp [sp_bowler, c_8]; done) | (simp (decide := true) only [sp_bowler, c_8, ↓reduceIte, and_true, true_and, and_false, false_and, or_false, false_or, true_or, or_true]; done) | (simp only [sp_bowler]; grind) | (simp_all [sp_bowler]; done), rfl⟩
set_option maxHeartbeats 4000000 in
set_option maxRecDepth 100000 in
theorem K_X1_answerAsCap (l : Launch) (E : hg_Wd) (σ : hg_Mem) (i : Nat) (h1 : 20 ≤ i) (h2 : i < 50) (q : Int32) (held : Int32) : hg_C l E yX1_answerAsCap cX1_answerAsCap 3 (some .int) { frames := 1, cells := 0, slots := 0, locals := 21 } [.ref (hg_ad E i), .int q, .int held] σ (hg_pi (fun r τ => r = sp_cap (σ.1 i) q held ∧ τ = σ)) := by
  refine hg_intro (by decide) [some (.ref (hg_ad E i)), some (.int q), some (.int held)] rfl (Nat.le_of_ble_eq_true rfl) ?_
  intro p e s m args below meth c cx
  have cx : hg_Cx E p s m args meth c cX1_answerAsCap 3 RX1 (some .int) := cx
  refine hg_aload0 cx dX1_answerAsCap_0 rfl ?_
  refine gf_X1_24 cx (by first | assumption | omega | decide) (by first | assumption | omega | decide) dX1_answerAsCap_1 rfl ?_
  refine hg_bipush cx 30 dX1_answerAsCap_4 (by decide) rfl ?_
  refine hg_icmp_ge cx 13 dX1_answerAsCap_6 (by decide) rfl (fun c_6 => ?_) (fun c_6 => ?_)
  ·
    refine hg_aload0 cx dX1_answerAsCap_13 rfl ?_
    refine gf_X1_15 cx (by first | assumption | omega | decide) (by first | assumption | omega | decide) dX1_answerAsCap_14 rfl ?_
    refine hg_iload1 cx dX1_answerAsCap_17 rfl ?_
    refine cs_X1_38 cx (K_X5_bit l E _ _ _) ⟨rfl, rfl, Nat.le_of_ble_eq_true rfl, Nat.le_of_ble_eq_true rfl⟩ (Nat.le_of_ble_eq_true rfl) dX1_answerAsCap_18 rfl (fun r_18 τ_18 h_18 => ?_)
    obtain ⟨rfl, rfl⟩ := h_18
    refine hg_iret cx dX1_answerAsCap_21 ⟨_, rfl, ?_⟩
    exact ⟨by first | rfl | (simp [sp_cap, c_6]; done) | (simp (decide := true) only [sp_cap, c_6, ↓reduceIte, and_true, true_and, and_false, false_and, or_false, false_or, true_or, or_true]; done) | (simp only [sp_cap]; grind) | (simp_all [sp_cap]; done), rfl⟩
  ·
    refine hg_iload2 cx dX1_answerAsCap_9 rfl ?_
    refine hg_goto cx 17 dX1_answerAsCap_10 (by decide) ?_
    refine hg_iload1 cx dX1_answerAsCap_17 rfl ?_
    refine cs_X1_38 cx (K_X5_bit l E _ _ _) ⟨rfl, rfl, Nat.le_of_ble_eq_true rfl, Nat.le_of_ble_eq_true rfl⟩ (Nat.le_of_ble_eq_true rfl) dX1_answerAsCap_18 rfl (fun r_18 τ_18 h_18 => ?_)
    obtain ⟨rfl, rfl⟩ := h_18
    refine hg_iret cx dX1_answerAsCap_21 ⟨_, rfl, ?_⟩
    exact ⟨by first | rfl | (simp [sp_cap, c_6]; done) | (simp (decide := true) only [sp_cap, c_6, ↓reduceIte, and_true, true_and, and_false, false_and, or_false, false_or, true_or, or_true]; done) | (simp only [sp_cap]; grind) | (simp_all [sp_cap]; done), rfl⟩
set_option maxHeartbeats 4000000 in
set_option maxRecDepth 100000 in
theorem K_X1_answer (l : Launch) (E : hg_Wd) (σ : hg_Mem) (i : Nat) (h1 : 20 ≤ i) (h2 : i < 50) (q : Int32) (held : Int32) : hg_C l E yX1_answer cX1_answer 3 (some .int) { frames := 2, cells := 0, slots := 0, locals := 43 } [.ref (hg_ad E i), .int q, .int held] σ (hg_pi (fun r τ => r = sp_says (σ.1 i) q held ∧ τ = σ)) := by
  refine hg_intro (by decide) [some (.ref (hg_ad E i)), some (.int q), some (.int held)] rfl (Nat.le_of_ble_eq_true rfl) ?_
  intro p e s m args below meth c cx
  have cx : hg_Cx E p s m args meth c cX1_answer 3 RX1 (some .int) := cx
  refine hg_aload0 cx dX1_answer_0 rfl ?_
  refine gf_X1_9 cx (by first | assumption | omega | decide) (by first | assumption | omega | decide) dX1_answer_1 rfl ?_
  refine hg_tsw cx [1, 2, 3, 4, 5] [40, 46, 53, 81, 98] 115 dX1_answer_4 (by decide) (by decide) (fun c_4 => ?_) (fun i v t hk ht c_4 => ?_)
  ·
    simp only [List.mem_cons, List.not_mem_nil, or_false, forall_eq_or_imp, forall_eq] at c_4
    refine hg_aload0 cx dX1_answer_115 rfl ?_
    refine gf_X1_15 cx (by first | assumption | omega | decide) (by first | assumption | omega | decide) dX1_answer_116 rfl ?_
    refine hg_iload1 cx dX1_answer_119 rfl ?_
    refine cs_X1_38 cx (K_X5_bit l E _ _ _) ⟨rfl, rfl, Nat.le_of_ble_eq_true rfl, Nat.le_of_ble_eq_true rfl⟩ (Nat.le_of_ble_eq_true rfl) dX1_answer_120 rfl (fun r_120 τ_120 h_120 => ?_)
    obtain ⟨rfl, rfl⟩ := h_120
    refine hg_iret cx dX1_answer_123 ⟨_, rfl, ?_⟩
    exact ⟨by first | rfl | (simp [sp_says, c_4]; done) | (simp (decide := true) only [sp_says, c_4, ↓reduceIte, and_true, true_and, and_false, false_and, or_false, false_or, true_or, or_true]; done) | (simp only [sp_says]; grind) | (simp_all [sp_says]; done), rfl⟩
  ·
    match i, hk, ht with
    | 0, hk, ht =>
      cases hk; cases ht
      refine hg_aload0 cx dX1_answer_40 rfl ?_
      refine hg_iload1 cx dX1_answer_41 rfl ?_
      refine cv_X1_30 cx (by first | assumption | omega | decide) (by first | assumption | omega | decide) (K_X1_answerAsBowler l E _ _ (by first | assumption | omega | decide) (by first | assumption | omega | decide) _) ⟨rfl, rfl, Nat.le_of_ble_eq_true rfl, Nat.le_of_ble_eq_true rfl⟩ (Nat.le_of_ble_eq_true rfl) dX1_answer_42 rfl (fun r_42 τ_42 h_42 => ?_)
      obtain ⟨rfl, rfl⟩ := h_42
      refine hg_iret cx dX1_answer_45 ⟨_, rfl, ?_⟩
      exact ⟨by first | rfl | (simp [sp_says, c_4]; done) | (simp (decide := true) only [sp_says, c_4, ↓reduceIte, and_true, true_and, and_false, false_and, or_false, false_or, true_or, or_true]; done) | (simp only [sp_says]; grind) | (simp_all [sp_says]; done), rfl⟩
    | 1, hk, ht =>
      cases hk; cases ht
      refine hg_aload0 cx dX1_answer_46 rfl ?_
      refine hg_iload1 cx dX1_answer_47 rfl ?_
      refine hg_iload2 cx dX1_answer_48 rfl ?_
      refine cv_X1_34 cx (by first | assumption | omega | decide) (by first | assumption | omega | decide) (K_X1_answerAsCap l E _ _ (by first | assumption | omega | decide) (by first | assumption | omega | decide) _ _) ⟨rfl, rfl, Nat.le_of_ble_eq_true rfl, Nat.le_of_ble_eq_true rfl⟩ (Nat.le_of_ble_eq_true rfl) dX1_answer_49 rfl (fun r_49 τ_49 h_49 => ?_)
      obtain ⟨rfl, rfl⟩ := h_49
      refine hg_iret cx dX1_answer_52 ⟨_, rfl, ?_⟩
      exact ⟨by first | rfl | (simp [sp_says, c_4]; done) | (simp (decide := true) only [sp_says, c_4, ↓reduceIte, and_true, true_and, and_false, false_and, or_false, false_or, true_or, or_true]; done) | (simp only [sp_says]; grind) | (simp_all [sp_says]; done), rfl⟩
    | 2, hk, ht =>
      cases hk; cases ht
      refine hg_aload0 cx dX1_answer_53 rfl ?_
      refine gf_X1_21 cx (by first | assumption | omega | decide) (by first | assumption | omega | decide) dX1_answer_54 rfl ?_
      refine hg_if_ne cx 72 dX1_answer_57 (by decide) rfl (fun c_57 => ?_) (fun c_57 => ?_)
      ·
        refine hg_aload0 cx dX1_answer_72 rfl ?_
        refine gf_X1_15 cx (by first | assumption | omega | decide) (by first | assumption | omega | decide) dX1_answer_73 rfl ?_
        refine hg_iload1 cx dX1_answer_76 rfl ?_
        refine cs_X1_38 cx (K_X5_bit l E _ _ _) ⟨rfl, rfl, Nat.le_of_ble_eq_true rfl, Nat.le_of_ble_eq_true rfl⟩ (Nat.le_of_ble_eq_true rfl) dX1_answer_77 rfl (fun r_77 τ_77 h_77 => ?_)
        obtain ⟨rfl, rfl⟩ := h_77
        refine hg_iret cx dX1_answer_80 ⟨_, rfl, ?_⟩
        exact ⟨by first | rfl | (simp [sp_says, c_4, c_57]; done) | (simp (decide := true) only [sp_says, c_4, c_57, ↓reduceIte, and_true, true_and, and_false, false_and, or_false, false_or, true_or, or_true]; done) | (simp only [sp_says]; grind) | (simp_all [sp_says]; done), rfl⟩
      ·
        refine hg_aload0 cx dX1_answer_60 rfl ?_
        refine gf_X1_18 cx (by first | assumption | omega | decide) (by first | assumption | omega | decide) dX1_answer_61 rfl ?_
        refine hg_iconst cx 3 dX1_answer_64 (by decide) rfl ?_
        refine hg_icmp_ge cx 72 dX1_answer_65 (by decide) rfl (fun c_65 => ?_) (fun c_65 => ?_)
        ·
          refine hg_aload0 cx dX1_answer_72 rfl ?_
          refine gf_X1_15 cx (by first | assumption | omega | decide) (by first | assumption | omega | decide) dX1_answer_73 rfl ?_
          refine hg_iload1 cx dX1_answer_76 rfl ?_
          refine cs_X1_38 cx (K_X5_bit l E _ _ _) ⟨rfl, rfl, Nat.le_of_ble_eq_true rfl, Nat.le_of_ble_eq_true rfl⟩ (Nat.le_of_ble_eq_true rfl) dX1_answer_77 rfl (fun r_77 τ_77 h_77 => ?_)
          obtain ⟨rfl, rfl⟩ := h_77
          refine hg_iret cx dX1_answer_80 ⟨_, rfl, ?_⟩
          exact ⟨by first | rfl | (simp [sp_says, c_4, c_57, c_65]; done) | (simp (decide := true) only [sp_says, c_4, c_57, c_65, ↓reduceIte, and_true, true_and, and_false, false_and, or_false, false_or, true_or, or_true]; done) | (simp only [sp_says]; grind) | (simp_all [sp_says]; done), rfl⟩
        ·
          refine hg_iconst cx (-1) dX1_answer_68 (by decide) rfl ?_
          refine hg_goto cx 80 dX1_answer_69 (by decide) ?_
          refine hg_iret cx dX1_answer_80 ⟨_, rfl, ?_⟩
          exact ⟨by first | rfl | (simp [sp_says, c_4, c_57, c_65]; done) | (simp (decide := true) only [sp_says, c_4, c_57, c_65, ↓reduceIte, and_true, true_and, and_false, false_and, or_false, false_or, true_or, or_true]; done) | (simp only [sp_says]; grind) | (simp_all [sp_says]; done), rfl⟩
    | 3, hk, ht =>
      cases hk; cases ht
      refine hg_aload0 cx dX1_answer_81 rfl ?_
      refine gf_X1_24 cx (by first | assumption | omega | decide) (by first | assumption | omega | decide) dX1_answer_82 rfl ?_
      refine hg_if_ne cx 92 dX1_answer_85 (by decide) rfl (fun c_85 => ?_) (fun c_85 => ?_)
      ·
        refine hg_aload0 cx dX1_answer_92 rfl ?_
        refine hg_iload1 cx dX1_answer_93 rfl ?_
        refine cv_X1_30 cx (by first | assumption | omega | decide) (by first | assumption | omega | decide) (K_X1_answerAsBowler l E _ _ (by first | assumption | omega | decide) (by first | assumption | omega | decide) _) ⟨rfl, rfl, Nat.le_of_ble_eq_true rfl, Nat.le_of_ble_eq_true rfl⟩ (Nat.le_of_ble_eq_true rfl) dX1_answer_94 rfl (fun r_94 τ_94 h_94 => ?_)
        obtain ⟨rfl, rfl⟩ := h_94
        refine hg_iret cx dX1_answer_97 ⟨_, rfl, ?_⟩
        exact ⟨by first | rfl | (simp [sp_says, c_4, c_85]; done) | (simp (decide := true) only [sp_says, c_4, c_85, ↓reduceIte, and_true, true_and, and_false, false_and, or_false, false_or, true_or, or_true]; done) | (simp only [sp_says]; grind) | (simp_all [sp_says]; done), rfl⟩
      ·
        refine hg_iconst cx (-1) dX1_answer_88 (by decide) rfl ?_
        refine hg_goto cx 97 dX1_answer_89 (by decide) ?_
        refine hg_iret cx dX1_answer_97 ⟨_, rfl, ?_⟩
        exact ⟨by first | rfl | (simp [sp_says, c_4, c_85]; done) | (simp (decide := true) only [sp_says, c_4, c_85, ↓reduceIte, and_true, true_and, and_false, false_and, or_false, false_or, true_or, or_true]; done) | (simp only [sp_says]; grind) | (simp_all [sp_says]; done), rfl⟩
    | 4, hk, ht =>
      cases hk; cases ht
      refine hg_iload1 cx dX1_answer_98 rfl ?_
      refine hg_bipush cx 7 dX1_answer_99 (by decide) rfl ?_
      refine hg_icmp_ne cx 108 dX1_answer_101 (by decide) rfl (fun c_101 => ?_) (fun c_101 => ?_)
      ·
        refine hg_aload0 cx dX1_answer_108 rfl ?_
        refine hg_iload1 cx dX1_answer_109 rfl ?_
        refine hg_iload2 cx dX1_answer_110 rfl ?_
        refine cv_X1_34 cx (by first | assumption | omega | decide) (by first | assumption | omega | decide) (K_X1_answerAsCap l E _ _ (by first | assumption | omega | decide) (by first | assumption | omega | decide) _ _) ⟨rfl, rfl, Nat.le_of_ble_eq_true rfl, Nat.le_of_ble_eq_true rfl⟩ (Nat.le_of_ble_eq_true rfl) dX1_answer_111 rfl (fun r_111 τ_111 h_111 => ?_)
        obtain ⟨rfl, rfl⟩ := h_111
        refine hg_iret cx dX1_answer_114 ⟨_, rfl, ?_⟩
        exact ⟨by first | rfl | (simp [sp_says, c_4, c_101]; done) | (simp (decide := true) only [sp_says, c_4, c_101, ↓reduceIte, and_true, true_and, and_false, false_and, or_false, false_or, true_or, or_true]; done) | (simp only [sp_says]; grind) | (simp_all [sp_says]; done), rfl⟩
      ·
        refine hg_iconst cx 1 dX1_answer_104 (by decide) rfl ?_
        refine hg_goto cx 114 dX1_answer_105 (by decide) ?_
        refine hg_iret cx dX1_answer_114 ⟨_, rfl, ?_⟩
        exact ⟨by first | rfl | (simp [sp_says, c_4, c_101]; done) | (simp (decide := true) only [sp_says, c_4, c_101, ↓reduceIte, and_true, true_and, and_false, false_and, or_false, false_or, true_or, or_true]; done) | (simp only [sp_says]; grind) | (simp_all [sp_says]; done), rfl⟩
    | j + 5, hk, ht => exact absurd hk (by simp)
set_option maxHeartbeats 4000000 in
set_option maxRecDepth 100000 in
theorem K_X1_weight (l : Launch) (E : hg_Wd) (σ : hg_Mem) (i : Nat) (h1 : 20 ≤ i) (h2 : i < 50) (ses : Int32) : hg_C l E yX1_weight cX1_weight 2 (some .int) { frames := 0, cells := 0, slots := 0, locals := 0 } [.ref (hg_ad E i), .int ses] σ (hg_pi (fun r τ => r = sp_weighs (σ.1 i) ses ∧ τ = σ)) := by
  refine hg_intro (by decide) [some (.ref (hg_ad E i)), some (.int ses)] rfl (Nat.le_of_ble_eq_true rfl) ?_
  intro p e s m args below meth c cx
  have cx : hg_Cx E p s m args meth c cX1_weight 2 RX1 (some .int) := cx
  refine hg_aload0 cx dX1_weight_0 rfl ?_
  refine gf_X1_9 cx (by first | assumption | omega | decide) (by first | assumption | omega | decide) dX1_weight_1 rfl ?_
  refine hg_tsw cx [1, 2, 3, 4, 5] [40, 76, 50, 52, 64] 76 dX1_weight_4 (by decide) (by decide) (fun c_4 => ?_) (fun i v t hk ht c_4 => ?_)
  ·
    simp only [List.mem_cons, List.not_mem_nil, or_false, forall_eq_or_imp, forall_eq] at c_4
    refine hg_iconst cx 1 dX1_weight_76 (by decide) rfl ?_
    refine hg_iret cx dX1_weight_77 ⟨_, rfl, ?_⟩
    exact ⟨by first | rfl | (simp [sp_weighs, c_4]; done) | (simp (decide := true) only [sp_weighs, c_4, ↓reduceIte, and_true, true_and, and_false, false_and, or_false, false_or, true_or, or_true]; done) | (simp only [sp_weighs]; grind) | (simp_all [sp_weighs]; done), rfl⟩
  ·
    match i, hk, ht with
    | 0, hk, ht =>
      cases hk; cases ht
      refine hg_iconst cx 1 dX1_weight_40 (by decide) rfl ?_
      refine hg_aload0 cx dX1_weight_41 rfl ?_
      refine gf_X1_24 cx (by first | assumption | omega | decide) (by first | assumption | omega | decide) dX1_weight_42 rfl ?_
      refine hg_bipush cx 50 dX1_weight_45 (by decide) rfl ?_
      refine hg_idiv cx (by decide) dX1_weight_47 rfl ?_
      refine hg_iadd cx dX1_weight_48 rfl ?_
      refine hg_iret cx dX1_weight_49 ⟨_, rfl, ?_⟩
      exact ⟨by first | rfl | (simp [sp_weighs, c_4]; done) | (simp (decide := true) only [sp_weighs, c_4, ↓reduceIte, and_true, true_and, and_false, false_and, or_false, false_or, true_or, or_true]; done) | (simp only [sp_weighs]; grind) | (simp_all [sp_weighs]; done), rfl⟩
    | 1, hk, ht =>
      cases hk; cases ht
      refine hg_iconst cx 1 dX1_weight_76 (by decide) rfl ?_
      refine hg_iret cx dX1_weight_77 ⟨_, rfl, ?_⟩
      exact ⟨by first | rfl | (simp [sp_weighs, c_4]; done) | (simp (decide := true) only [sp_weighs, c_4, ↓reduceIte, and_true, true_and, and_false, false_and, or_false, false_or, true_or, or_true]; done) | (simp only [sp_weighs]; grind) | (simp_all [sp_weighs]; done), rfl⟩
    | 2, hk, ht =>
      cases hk; cases ht
      refine hg_iconst cx 3 dX1_weight_50 (by decide) rfl ?_
      refine hg_iret cx dX1_weight_51 ⟨_, rfl, ?_⟩
      exact ⟨by first | rfl | (simp [sp_weighs, c_4]; done) | (simp (decide := true) only [sp_weighs, c_4, ↓reduceIte, and_true, true_and, and_false, false_and, or_false, false_or, true_or, or_true]; done) | (simp only [sp_weighs]; grind) | (simp_all [sp_weighs]; done), rfl⟩
    | 3, hk, ht =>
      cases hk; cases ht
      refine hg_iconst cx 2 dX1_weight_52 (by decide) rfl ?_
      refine hg_iconst cx 1 dX1_weight_53 (by decide) rfl ?_
      refine hg_aload0 cx dX1_weight_54 rfl ?_
      refine gf_X1_24 cx (by first | assumption | omega | decide) (by first | assumption | omega | decide) dX1_weight_55 rfl ?_
      refine hg_bipush cx 50 dX1_weight_58 (by decide) rfl ?_
      refine hg_idiv cx (by decide) dX1_weight_60 rfl ?_
      refine hg_iadd cx dX1_weight_61 rfl ?_
      refine hg_imul cx dX1_weight_62 rfl ?_
      refine hg_iret cx dX1_weight_63 ⟨_, rfl, ?_⟩
      exact ⟨by first | rfl | (simp [sp_weighs, c_4]; done) | (simp (decide := true) only [sp_weighs, c_4, ↓reduceIte, and_true, true_and, and_false, false_and, or_false, false_or, true_or, or_true]; done) | (simp only [sp_weighs]; grind) | (simp_all [sp_weighs]; done), rfl⟩
    | 4, hk, ht =>
      cases hk; cases ht
      refine hg_iload1 cx dX1_weight_64 rfl ?_
      refine hg_iconst cx 3 dX1_weight_65 (by decide) rfl ?_
      refine hg_irem cx (by decide) dX1_weight_66 rfl ?_
      refine hg_if_ne cx 74 dX1_weight_67 (by decide) rfl (fun c_67 => ?_) (fun c_67 => ?_)
      ·
        refine hg_iconst cx 1 dX1_weight_74 (by decide) rfl ?_
        refine hg_iret cx dX1_weight_75 ⟨_, rfl, ?_⟩
        exact ⟨by first | rfl | (simp [sp_weighs, c_4, c_67]; done) | (simp (decide := true) only [sp_weighs, c_4, c_67, ↓reduceIte, and_true, true_and, and_false, false_and, or_false, false_or, true_or, or_true]; done) | (simp only [sp_weighs]; grind) | (simp_all [sp_weighs]; done), rfl⟩
      ·
        refine hg_iconst cx 2 dX1_weight_70 (by decide) rfl ?_
        refine hg_goto cx 75 dX1_weight_71 (by decide) ?_
        refine hg_iret cx dX1_weight_75 ⟨_, rfl, ?_⟩
        exact ⟨by first | rfl | (simp [sp_weighs, c_4, c_67]; done) | (simp (decide := true) only [sp_weighs, c_4, c_67, ↓reduceIte, and_true, true_and, and_false, false_and, or_false, false_or, true_or, or_true]; done) | (simp only [sp_weighs]; grind) | (simp_all [sp_weighs]; done), rfl⟩
    | j + 5, hk, ht => exact absurd hk (by simp)
set_option maxHeartbeats 4000000 in
set_option maxRecDepth 100000 in
theorem K_X1_isLearning (l : Launch) (E : hg_Wd) (σ : hg_Mem) (i : Nat) (h1 : 20 ≤ i) (h2 : i < 50) (ses : Int32) : hg_C l E yX1_isLearning cX1_isLearning 2 (some .boolean) { frames := 0, cells := 0, slots := 0, locals := 0 } [.ref (hg_ad E i), .int ses] σ (hg_pi (fun r τ => r = sp_learns (σ.1 i) ses ∧ τ = σ)) := by
  refine hg_intro (by decide) [some (.ref (hg_ad E i)), some (.int ses)] rfl (Nat.le_of_ble_eq_true rfl) ?_
  intro p e s m args below meth c cx
  have cx : hg_Cx E p s m args meth c cX1_isLearning 2 RX1 (some .boolean) := cx
  refine hg_aload0 cx dX1_isLearning_0 rfl ?_
  refine gf_X1_9 cx (by first | assumption | omega | decide) (by first | assumption | omega | decide) dX1_isLearning_1 rfl ?_
  refine hg_tsw cx [1, 2, 3, 4] [36, 52, 38, 40] 52 dX1_isLearning_4 (by decide) (by decide) (fun c_4 => ?_) (fun i v t hk ht c_4 => ?_)
  ·
    simp only [List.mem_cons, List.not_mem_nil, or_false, forall_eq_or_imp, forall_eq] at c_4
    refine hg_aload0 cx dX1_isLearning_52 rfl ?_
    refine gf_X1_24 cx (by first | assumption | omega | decide) (by first | assumption | omega | decide) dX1_isLearning_53 rfl ?_
    refine hg_bipush cx 50 dX1_isLearning_56 (by decide) rfl ?_
    refine hg_icmp_lt cx 65 dX1_isLearning_58 (by decide) rfl (fun c_58 => ?_) (fun c_58 => ?_)
    ·
      refine hg_iconst cx 0 dX1_isLearning_65 (by decide) rfl ?_
      refine hg_zret cx rfl dX1_isLearning_66 ⟨_, rfl, ?_⟩
      exact ⟨by first | rfl | (simp [sp_learns, c_4, c_58]; done) | (simp (decide := true) only [sp_learns, c_4, c_58, ↓reduceIte, and_true, true_and, and_false, false_and, or_false, false_or, true_or, or_true]; done) | (simp only [sp_learns]; grind) | (simp_all [sp_learns]; done), rfl⟩
    ·
      refine hg_iconst cx 1 dX1_isLearning_61 (by decide) rfl ?_
      refine hg_goto cx 66 dX1_isLearning_62 (by decide) ?_
      refine hg_zret cx rfl dX1_isLearning_66 ⟨_, rfl, ?_⟩
      exact ⟨by first | rfl | (simp [sp_learns, c_4, c_58]; done) | (simp (decide := true) only [sp_learns, c_4, c_58, ↓reduceIte, and_true, true_and, and_false, false_and, or_false, false_or, true_or, or_true]; done) | (simp only [sp_learns]; grind) | (simp_all [sp_learns]; done), rfl⟩
  ·
    match i, hk, ht with
    | 0, hk, ht =>
      cases hk; cases ht
      refine hg_iconst cx 1 dX1_isLearning_36 (by decide) rfl ?_
      refine hg_zret cx rfl dX1_isLearning_37 ⟨_, rfl, ?_⟩
      exact ⟨by first | rfl | (simp [sp_learns, c_4]; done) | (simp (decide := true) only [sp_learns, c_4, ↓reduceIte, and_true, true_and, and_false, false_and, or_false, false_or, true_or, or_true]; done) | (simp only [sp_learns]; grind) | (simp_all [sp_learns]; done), rfl⟩
    | 1, hk, ht =>
      cases hk; cases ht
      refine hg_aload0 cx dX1_isLearning_52 rfl ?_
      refine gf_X1_24 cx (by first | assumption | omega | decide) (by first | assumption | omega | decide) dX1_isLearning_53 rfl ?_
      refine hg_bipush cx 50 dX1_isLearning_56 (by decide) rfl ?_
      refine hg_icmp_lt cx 65 dX1_isLearning_58 (by decide) rfl (fun c_58 => ?_) (fun c_58 => ?_)
      ·
        refine hg_iconst cx 0 dX1_isLearning_65 (by decide) rfl ?_
        refine hg_zret cx rfl dX1_isLearning_66 ⟨_, rfl, ?_⟩
        exact ⟨by first | rfl | (simp [sp_learns, c_4, c_58]; done) | (simp (decide := true) only [sp_learns, c_4, c_58, ↓reduceIte, and_true, true_and, and_false, false_and, or_false, false_or, true_or, or_true]; done) | (simp only [sp_learns]; grind) | (simp_all [sp_learns]; done), rfl⟩
      ·
        refine hg_iconst cx 1 dX1_isLearning_61 (by decide) rfl ?_
        refine hg_goto cx 66 dX1_isLearning_62 (by decide) ?_
        refine hg_zret cx rfl dX1_isLearning_66 ⟨_, rfl, ?_⟩
        exact ⟨by first | rfl | (simp [sp_learns, c_4, c_58]; done) | (simp (decide := true) only [sp_learns, c_4, c_58, ↓reduceIte, and_true, true_and, and_false, false_and, or_false, false_or, true_or, or_true]; done) | (simp only [sp_learns]; grind) | (simp_all [sp_learns]; done), rfl⟩
    | 2, hk, ht =>
      cases hk; cases ht
      refine hg_iconst cx 0 dX1_isLearning_38 (by decide) rfl ?_
      refine hg_zret cx rfl dX1_isLearning_39 ⟨_, rfl, ?_⟩
      exact ⟨by first | rfl | (simp [sp_learns, c_4]; done) | (simp (decide := true) only [sp_learns, c_4, ↓reduceIte, and_true, true_and, and_false, false_and, or_false, false_or, true_or, or_true]; done) | (simp only [sp_learns]; grind) | (simp_all [sp_learns]; done), rfl⟩
    | 3, hk, ht =>
      cases hk; cases ht
      refine hg_iload1 cx dX1_isLearning_40 rfl ?_
      refine hg_iconst cx 2 dX1_isLearning_41 (by decide) rfl ?_
      refine hg_irem cx (by decide) dX1_isLearning_42 rfl ?_
      refine hg_if_ne cx 50 dX1_isLearning_43 (by decide) rfl (fun c_43 => ?_) (fun c_43 => ?_)
      ·
        refine hg_iconst cx 0 dX1_isLearning_50 (by decide) rfl ?_
        refine hg_zret cx rfl dX1_isLearning_51 ⟨_, rfl, ?_⟩
        exact ⟨by first | rfl | (simp [sp_learns, c_4, c_43]; done) | (simp (decide := true) only [sp_learns, c_4, c_43, ↓reduceIte, and_true, true_and, and_false, false_and, or_false, false_or, true_or, or_true]; done) | (simp only [sp_learns]; grind) | (simp_all [sp_learns]; done), rfl⟩
      ·
        refine hg_iconst cx 1 dX1_isLearning_46 (by decide) rfl ?_
        refine hg_goto cx 51 dX1_isLearning_47 (by decide) ?_
        refine hg_zret cx rfl dX1_isLearning_51 ⟨_, rfl, ?_⟩
        exact ⟨by first | rfl | (simp [sp_learns, c_4, c_43]; done) | (simp (decide := true) only [sp_learns, c_4, c_43, ↓reduceIte, and_true, true_and, and_false, false_and, or_false, false_or, true_or, or_true]; done) | (simp only [sp_learns]; grind) | (simp_all [sp_learns]; done), rfl⟩
    | j + 4, hk, ht => exact absurd hk (by simp)
set_option maxHeartbeats 4000000 in
set_option maxRecDepth 100000 in
theorem K_X1_stir (l : Launch) (E : hg_Wd) (σ : hg_Mem) (i : Nat) (h1 : 20 ≤ i) (h2 : i < 50) : hg_C l E yX1_stir cX1_stir 1 (some .int) { frames := 0, cells := 0, slots := 0, locals := 0 } [.ref (hg_ad E i)] σ (hg_pi (fun r τ => r = sp_stirs (σ.1 i) ∧ τ = σ)) := by
  refine hg_intro (by decide) [some (.ref (hg_ad E i))] rfl (Nat.le_of_ble_eq_true rfl) ?_
  intro p e s m args below meth c cx
  have cx : hg_Cx E p s m args meth c cX1_stir 1 RX1 (some .int) := cx
  refine hg_aload0 cx dX1_stir_0 rfl ?_
  refine gf_X1_9 cx (by first | assumption | omega | decide) (by first | assumption | omega | decide) dX1_stir_1 rfl ?_
  refine hg_tsw cx [1, 2, 3, 4, 5] [45, 40, 43, 45, 45] 47 dX1_stir_4 (by decide) (by decide) (fun c_4 => ?_) (fun i v t hk ht c_4 => ?_)
  ·
    simp only [List.mem_cons, List.not_mem_nil, or_false, forall_eq_or_imp, forall_eq] at c_4
    refine hg_iconst cx 5 dX1_stir_47 (by decide) rfl ?_
    refine hg_iret cx dX1_stir_48 ⟨_, rfl, ?_⟩
    exact ⟨by first | rfl | (simp [sp_stirs, c_4]; done) | (simp (decide := true) only [sp_stirs, c_4, ↓reduceIte, and_true, true_and, and_false, false_and, or_false, false_or, true_or, or_true]; done) | (simp only [sp_stirs]; grind) | (simp_all [sp_stirs]; done), rfl⟩
  ·
    match i, hk, ht with
    | 0, hk, ht =>
      cases hk; cases ht
      refine hg_iconst cx 3 dX1_stir_45 (by decide) rfl ?_
      refine hg_iret cx dX1_stir_46 ⟨_, rfl, ?_⟩
      exact ⟨by first | rfl | (simp [sp_stirs, c_4]; done) | (simp (decide := true) only [sp_stirs, c_4, ↓reduceIte, and_true, true_and, and_false, false_and, or_false, false_or, true_or, or_true]; done) | (simp only [sp_stirs]; grind) | (simp_all [sp_stirs]; done), rfl⟩
    | 1, hk, ht =>
      cases hk; cases ht
      refine hg_bipush cx 10 dX1_stir_40 (by decide) rfl ?_
      refine hg_iret cx dX1_stir_42 ⟨_, rfl, ?_⟩
      exact ⟨by first | rfl | (simp [sp_stirs, c_4]; done) | (simp (decide := true) only [sp_stirs, c_4, ↓reduceIte, and_true, true_and, and_false, false_and, or_false, false_or, true_or, or_true]; done) | (simp only [sp_stirs]; grind) | (simp_all [sp_stirs]; done), rfl⟩
    | 2, hk, ht =>
      cases hk; cases ht
      refine hg_iconst cx 1 dX1_stir_43 (by decide) rfl ?_
      refine hg_iret cx dX1_stir_44 ⟨_, rfl, ?_⟩
      exact ⟨by first | rfl | (simp [sp_stirs, c_4]; done) | (simp (decide := true) only [sp_stirs, c_4, ↓reduceIte, and_true, true_and, and_false, false_and, or_false, false_or, true_or, or_true]; done) | (simp only [sp_stirs]; grind) | (simp_all [sp_stirs]; done), rfl⟩
    | 3, hk, ht =>
      cases hk; cases ht
      refine hg_iconst cx 3 dX1_stir_45 (by decide) rfl ?_
      refine hg_iret cx dX1_stir_46 ⟨_, rfl, ?_⟩
      exact ⟨by first | rfl | (simp [sp_stirs, c_4]; done) | (simp (decide := true) only [sp_stirs, c_4, ↓reduceIte, and_true, true_and, and_false, false_and, or_false, false_or, true_or, or_true]; done) | (simp only [sp_stirs]; grind) | (simp_all [sp_stirs]; done), rfl⟩
    | 4, hk, ht =>
      cases hk; cases ht
      refine hg_iconst cx 3 dX1_stir_45 (by decide) rfl ?_
      refine hg_iret cx dX1_stir_46 ⟨_, rfl, ?_⟩
      exact ⟨by first | rfl | (simp [sp_stirs, c_4]; done) | (simp (decide := true) only [sp_stirs, c_4, ↓reduceIte, and_true, true_and, and_false, false_and, or_false, false_or, true_or, or_true]; done) | (simp only [sp_stirs]; grind) | (simp_all [sp_stirs]; done), rfl⟩
    | j + 5, hk, ht => exact absurd hk (by simp)
set_option maxHeartbeats 4000000 in
set_option maxRecDepth 100000 in
theorem K_X1_trait (l : Launch) (E : hg_Wd) (σ : hg_Mem) (i : Nat) (h1 : 20 ≤ i) (h2 : i < 50) (w : Int32) : hg_C l E yX1_trait cX1_trait 2 (some .int) { frames := 0, cells := 0, slots := 0, locals := 0 } [.ref (hg_ad E i), .int w] σ (hg_pi (fun r τ => r = sp_trait (σ.1 i) w ∧ τ = σ)) := by
  refine hg_intro (by decide) [some (.ref (hg_ad E i)), some (.int w)] rfl (Nat.le_of_ble_eq_true rfl) ?_
  intro p e s m args below meth c cx
  have cx : hg_Cx E p s m args meth c cX1_trait 2 RX1 (some .int) := cx
  refine hg_iload1 cx dX1_trait_0 rfl ?_
  refine hg_tsw cx [1, 2, 3, 4, 5] [36, 41, 46, 51, 56] 61 dX1_trait_1 (by decide) (by decide) (fun c_1 => ?_) (fun i v t hk ht c_1 => ?_)
  ·
    simp only [List.mem_cons, List.not_mem_nil, or_false, forall_eq_or_imp, forall_eq] at c_1
    refine hg_aload0 cx dX1_trait_61 rfl ?_
    refine gf_X1_9 cx (by first | assumption | omega | decide) (by first | assumption | omega | decide) dX1_trait_62 rfl ?_
    refine hg_iret cx dX1_trait_65 ⟨_, rfl, ?_⟩
    exact ⟨by first | rfl | (simp [sp_trait, c_1]; done) | (simp (decide := true) only [sp_trait, c_1, ↓reduceIte, and_true, true_and, and_false, false_and, or_false, false_or, true_or, or_true]; done) | (simp only [sp_trait]; grind) | (simp_all [sp_trait]; done), rfl⟩
  ·
    match i, hk, ht with
    | 0, hk, ht =>
      cases hk; cases ht
      refine hg_aload0 cx dX1_trait_36 rfl ?_
      refine gf_X1_15 cx (by first | assumption | omega | decide) (by first | assumption | omega | decide) dX1_trait_37 rfl ?_
      refine hg_iret cx dX1_trait_40 ⟨_, rfl, ?_⟩
      exact ⟨by first | rfl | (simp [sp_trait, c_1]; done) | (simp (decide := true) only [sp_trait, c_1, ↓reduceIte, and_true, true_and, and_false, false_and, or_false, false_or, true_or, or_true]; done) | (simp only [sp_trait]; grind) | (simp_all [sp_trait]; done), rfl⟩
    | 1, hk, ht =>
      cases hk; cases ht
      refine hg_aload0 cx dX1_trait_41 rfl ?_
      refine gf_X1_18 cx (by first | assumption | omega | decide) (by first | assumption | omega | decide) dX1_trait_42 rfl ?_
      refine hg_iret cx dX1_trait_45 ⟨_, rfl, ?_⟩
      exact ⟨by first | rfl | (simp [sp_trait, c_1]; done) | (simp (decide := true) only [sp_trait, c_1, ↓reduceIte, and_true, true_and, and_false, false_and, or_false, false_or, true_or, or_true]; done) | (simp only [sp_trait]; grind) | (simp_all [sp_trait]; done), rfl⟩
    | 2, hk, ht =>
      cases hk; cases ht
      refine hg_aload0 cx dX1_trait_46 rfl ?_
      refine gf_X1_21 cx (by first | assumption | omega | decide) (by first | assumption | omega | decide) dX1_trait_47 rfl ?_
      refine hg_iret cx dX1_trait_50 ⟨_, rfl, ?_⟩
      exact ⟨by first | rfl | (simp [sp_trait, c_1]; done) | (simp (decide := true) only [sp_trait, c_1, ↓reduceIte, and_true, true_and, and_false, false_and, or_false, false_or, true_or, or_true]; done) | (simp only [sp_trait]; grind) | (simp_all [sp_trait]; done), rfl⟩
    | 3, hk, ht =>
      cases hk; cases ht
      refine hg_aload0 cx dX1_trait_51 rfl ?_
      refine gf_X1_24 cx (by first | assumption | omega | decide) (by first | assumption | omega | decide) dX1_trait_52 rfl ?_
      refine hg_iret cx dX1_trait_55 ⟨_, rfl, ?_⟩
      exact ⟨by first | rfl | (simp [sp_trait, c_1]; done) | (simp (decide := true) only [sp_trait, c_1, ↓reduceIte, and_true, true_and, and_false, false_and, or_false, false_or, true_or, or_true]; done) | (simp only [sp_trait]; grind) | (simp_all [sp_trait]; done), rfl⟩
    | 4, hk, ht =>
      cases hk; cases ht
      refine hg_aload0 cx dX1_trait_56 rfl ?_
      refine gf_X1_27 cx (by first | assumption | omega | decide) (by first | assumption | omega | decide) dX1_trait_57 rfl ?_
      refine hg_iret cx dX1_trait_60 ⟨_, rfl, ?_⟩
      exact ⟨by first | rfl | (simp [sp_trait, c_1]; done) | (simp (decide := true) only [sp_trait, c_1, ↓reduceIte, and_true, true_and, and_false, false_and, or_false, false_or, true_or, or_true]; done) | (simp only [sp_trait]; grind) | (simp_all [sp_trait]; done), rfl⟩
    | j + 5, hk, ht => exact absurd hk (by simp)
set_option maxHeartbeats 4000000 in
set_option maxRecDepth 100000 in
theorem K_X1_mostOf (l : Launch) (E : hg_Wd) (σ : hg_Mem) (w : Int32) : hg_C l E yX1_mostOf cX1_mostOf 1 (some .int) { frames := 0, cells := 0, slots := 0, locals := 0 } [.int w] σ (hg_pi (fun r τ => r = sp_mostOf w ∧ τ = σ)) := by
  refine hg_intro (by decide) [some (.int w)] rfl (Nat.le_of_ble_eq_true rfl) ?_
  intro p e s m args below meth c cx
  have cx : hg_Cx E p s m args meth c cX1_mostOf 1 RX1 (some .int) := cx
  refine hg_iload0 cx dX1_mostOf_0 rfl ?_
  refine hg_tsw cx [1, 2, 3, 4, 5] [36, 45, 45, 40, 43] 45 dX1_mostOf_1 (by decide) (by decide) (fun c_1 => ?_) (fun i v t hk ht c_1 => ?_)
  ·
    simp only [List.mem_cons, List.not_mem_nil, or_false, forall_eq_or_imp, forall_eq] at c_1
    refine hg_sipush cx 9999 dX1_mostOf_45 (by decide) rfl ?_
    refine hg_iret cx dX1_mostOf_48 ⟨_, rfl, ?_⟩
    exact ⟨by first | rfl | (simp [sp_mostOf, c_1]; done) | (simp (decide := true) only [sp_mostOf, c_1, ↓reduceIte, and_true, true_and, and_false, false_and, or_false, false_or, true_or, or_true]; done) | (simp only [sp_mostOf]; grind) | (simp_all [sp_mostOf]; done), rfl⟩
  ·
    match i, hk, ht with
    | 0, hk, ht =>
      cases hk; cases ht
      refine hg_sipush cx 255 dX1_mostOf_36 (by decide) rfl ?_
      refine hg_iret cx dX1_mostOf_39 ⟨_, rfl, ?_⟩
      exact ⟨by first | rfl | (simp [sp_mostOf, c_1]; done) | (simp (decide := true) only [sp_mostOf, c_1, ↓reduceIte, and_true, true_and, and_false, false_and, or_false, false_or, true_or, or_true]; done) | (simp only [sp_mostOf]; grind) | (simp_all [sp_mostOf]; done), rfl⟩
    | 1, hk, ht =>
      cases hk; cases ht
      refine hg_sipush cx 9999 dX1_mostOf_45 (by decide) rfl ?_
      refine hg_iret cx dX1_mostOf_48 ⟨_, rfl, ?_⟩
      exact ⟨by first | rfl | (simp [sp_mostOf, c_1]; done) | (simp (decide := true) only [sp_mostOf, c_1, ↓reduceIte, and_true, true_and, and_false, false_and, or_false, false_or, true_or, or_true]; done) | (simp only [sp_mostOf]; grind) | (simp_all [sp_mostOf]; done), rfl⟩
    | 2, hk, ht =>
      cases hk; cases ht
      refine hg_sipush cx 9999 dX1_mostOf_45 (by decide) rfl ?_
      refine hg_iret cx dX1_mostOf_48 ⟨_, rfl, ?_⟩
      exact ⟨by first | rfl | (simp [sp_mostOf, c_1]; done) | (simp (decide := true) only [sp_mostOf, c_1, ↓reduceIte, and_true, true_and, and_false, false_and, or_false, false_or, true_or, or_true]; done) | (simp only [sp_mostOf]; grind) | (simp_all [sp_mostOf]; done), rfl⟩
    | 3, hk, ht =>
      cases hk; cases ht
      refine hg_bipush cx 99 dX1_mostOf_40 (by decide) rfl ?_
      refine hg_iret cx dX1_mostOf_42 ⟨_, rfl, ?_⟩
      exact ⟨by first | rfl | (simp [sp_mostOf, c_1]; done) | (simp (decide := true) only [sp_mostOf, c_1, ↓reduceIte, and_true, true_and, and_false, false_and, or_false, false_or, true_or, or_true]; done) | (simp only [sp_mostOf]; grind) | (simp_all [sp_mostOf]; done), rfl⟩
    | 4, hk, ht =>
      cases hk; cases ht
      refine hg_iconst cx 1 dX1_mostOf_43 (by decide) rfl ?_
      refine hg_iret cx dX1_mostOf_44 ⟨_, rfl, ?_⟩
      exact ⟨by first | rfl | (simp [sp_mostOf, c_1]; done) | (simp (decide := true) only [sp_mostOf, c_1, ↓reduceIte, and_true, true_and, and_false, false_and, or_false, false_or, true_or, or_true]; done) | (simp only [sp_mostOf]; grind) | (simp_all [sp_mostOf]; done), rfl⟩
    | j + 5, hk, ht => exact absurd hk (by simp)
set_option maxHeartbeats 4000000 in
set_option maxRecDepth 100000 in
theorem K_X1_isOfKind (l : Launch) (E : hg_Wd) (σ : hg_Mem) (i : Nat) (h1 : 20 ≤ i) (h2 : i < 50) (k : Int32) : hg_C l E yX1_isOfKind cX1_isOfKind 2 (some .boolean) { frames := 0, cells := 0, slots := 0, locals := 0 } [.ref (hg_ad E i), .int k] σ (hg_pi (fun r τ => r = sp_isKind (σ.1 i) k ∧ τ = σ)) := by
  refine hg_intro (by decide) [some (.ref (hg_ad E i)), some (.int k)] rfl (Nat.le_of_ble_eq_true rfl) ?_
  intro p e s m args below meth c cx
  have cx : hg_Cx E p s m args meth c cX1_isOfKind 2 RX1 (some .boolean) := cx
  refine hg_iload1 cx dX1_isOfKind_0 rfl ?_
  refine hg_aload0 cx dX1_isOfKind_1 rfl ?_
  refine gf_X1_9 cx (by first | assumption | omega | decide) (by first | assumption | omega | decide) dX1_isOfKind_2 rfl ?_
  refine hg_icmp_eq cx 38 dX1_isOfKind_5 (by decide) rfl (fun c_5 => ?_) (fun c_5 => ?_)
  ·
    refine hg_iconst cx 1 dX1_isOfKind_38 (by decide) rfl ?_
    refine hg_goto cx 43 dX1_isOfKind_39 (by decide) ?_
    refine hg_zret cx rfl dX1_isOfKind_43 ⟨_, rfl, ?_⟩
    exact ⟨by first | rfl | (simp [sp_isKind, c_5]; done) | (simp (decide := true) only [sp_isKind, c_5, ↓reduceIte, and_true, true_and, and_false, false_and, or_false, false_or, true_or, or_true]; done) | (simp only [sp_isKind]; grind) | (simp_all [sp_isKind]; done), rfl⟩
  ·
    refine hg_iload1 cx dX1_isOfKind_8 rfl ?_
    refine hg_if_eq cx 38 dX1_isOfKind_9 (by decide) rfl (fun c_9 => ?_) (fun c_9 => ?_)
    ·
      refine hg_iconst cx 1 dX1_isOfKind_38 (by decide) rfl ?_
      refine hg_goto cx 43 dX1_isOfKind_39 (by decide) ?_
      refine hg_zret cx rfl dX1_isOfKind_43 ⟨_, rfl, ?_⟩
      exact ⟨by first | rfl | (simp [sp_isKind, c_5, c_9]; done) | (simp (decide := true) only [sp_isKind, c_5, c_9, ↓reduceIte, and_true, true_and, and_false, false_and, or_false, false_or, true_or, or_true]; done) | (simp only [sp_isKind]; grind) | (simp_all [sp_isKind]; done), rfl⟩
    ·
      refine hg_iload1 cx dX1_isOfKind_12 rfl ?_
      refine hg_iconst cx 1 dX1_isOfKind_13 (by decide) rfl ?_
      refine hg_icmp_ne cx 25 dX1_isOfKind_14 (by decide) rfl (fun c_14 => ?_) (fun c_14 => ?_)
      ·
        refine hg_iload1 cx dX1_isOfKind_25 rfl ?_
        refine hg_iconst cx 2 dX1_isOfKind_26 (by decide) rfl ?_
        refine hg_icmp_ne cx 42 dX1_isOfKind_27 (by decide) rfl (fun c_27 => ?_) (fun c_27 => ?_)
        ·
          refine hg_iconst cx 0 dX1_isOfKind_42 (by decide) rfl ?_
          refine hg_zret cx rfl dX1_isOfKind_43 ⟨_, rfl, ?_⟩
          exact ⟨by first | rfl | (simp [sp_isKind, c_5, c_9, c_14, c_27]; done) | (simp (decide := true) only [sp_isKind, c_5, c_9, c_14, c_27, ↓reduceIte, and_true, true_and, and_false, false_and, or_false, false_or, true_or, or_true]; done) | (simp only [sp_isKind]; grind) | (simp_all [sp_isKind]; done), rfl⟩
        ·
          refine hg_aload0 cx dX1_isOfKind_30 rfl ?_
          refine gf_X1_9 cx (by first | assumption | omega | decide) (by first | assumption | omega | decide) dX1_isOfKind_31 rfl ?_
          refine hg_iconst cx 5 dX1_isOfKind_34 (by decide) rfl ?_
          refine hg_icmp_ne cx 42 dX1_isOfKind_35 (by decide) rfl (fun c_35 => ?_) (fun c_35 => ?_)
          ·
            refine hg_iconst cx 0 dX1_isOfKind_42 (by decide) rfl ?_
            refine hg_zret cx rfl dX1_isOfKind_43 ⟨_, rfl, ?_⟩
            exact ⟨by first | rfl | (simp [sp_isKind, c_5, c_9, c_14, c_27, c_35]; done) | (simp (decide := true) only [sp_isKind, c_5, c_9, c_14, c_27, c_35, ↓reduceIte, and_true, true_and, and_false, false_and, or_false, false_or, true_or, or_true]; done) | (simp only [sp_isKind]; grind) | (simp_all [sp_isKind]; done), rfl⟩
          ·
            refine hg_iconst cx 1 dX1_isOfKind_38 (by decide) rfl ?_
            refine hg_goto cx 43 dX1_isOfKind_39 (by decide) ?_
            refine hg_zret cx rfl dX1_isOfKind_43 ⟨_, rfl, ?_⟩
            exact ⟨by first | rfl | (simp [sp_isKind, c_5, c_9, c_14, c_27, c_35]; done) | (simp (decide := true) only [sp_isKind, c_5, c_9, c_14, c_27, c_35, ↓reduceIte, and_true, true_and, and_false, false_and, or_false, false_or, true_or, or_true]; done) | (simp only [sp_isKind]; grind) | (simp_all [sp_isKind]; done), rfl⟩
      ·
        refine hg_aload0 cx dX1_isOfKind_17 rfl ?_
        refine gf_X1_9 cx (by first | assumption | omega | decide) (by first | assumption | omega | decide) dX1_isOfKind_18 rfl ?_
        refine hg_iconst cx 4 dX1_isOfKind_21 (by decide) rfl ?_
        refine hg_icmp_eq cx 38 dX1_isOfKind_22 (by decide) rfl (fun c_22 => ?_) (fun c_22 => ?_)
        ·
          refine hg_iconst cx 1 dX1_isOfKind_38 (by decide) rfl ?_
          refine hg_goto cx 43 dX1_isOfKind_39 (by decide) ?_
          refine hg_zret cx rfl dX1_isOfKind_43 ⟨_, rfl, ?_⟩
          exact ⟨by first | rfl | (simp [sp_isKind, c_5, c_9, c_14, c_22]; done) | (simp (decide := true) only [sp_isKind, c_5, c_9, c_14, c_22, ↓reduceIte, and_true, true_and, and_false, false_and, or_false, false_or, true_or, or_true]; done) | (simp only [sp_isKind]; grind) | (simp_all [sp_isKind]; done), rfl⟩
        ·
          refine hg_iload1 cx dX1_isOfKind_25 rfl ?_
          refine hg_iconst cx 2 dX1_isOfKind_26 (by decide) rfl ?_
          refine hg_icmp_ne cx 42 dX1_isOfKind_27 (by decide) rfl (fun c_27 => ?_) (fun c_27 => ?_)
          ·
            refine hg_iconst cx 0 dX1_isOfKind_42 (by decide) rfl ?_
            refine hg_zret cx rfl dX1_isOfKind_43 ⟨_, rfl, ?_⟩
            exact ⟨by first | rfl | (simp [sp_isKind, c_5, c_9, c_14, c_22, c_27]; done) | (simp (decide := true) only [sp_isKind, c_5, c_9, c_14, c_22, c_27, ↓reduceIte, and_true, true_and, and_false, false_and, or_false, false_or, true_or, or_true]; done) | (simp only [sp_isKind]; grind) | (simp_all [sp_isKind]; done), rfl⟩
          ·
            refine hg_aload0 cx dX1_isOfKind_30 rfl ?_
            refine gf_X1_9 cx (by first | assumption | omega | decide) (by first | assumption | omega | decide) dX1_isOfKind_31 rfl ?_
            refine hg_iconst cx 5 dX1_isOfKind_34 (by decide) rfl ?_
            refine hg_icmp_ne cx 42 dX1_isOfKind_35 (by decide) rfl (fun c_35 => ?_) (fun c_35 => ?_)
            ·
              refine hg_iconst cx 0 dX1_isOfKind_42 (by decide) rfl ?_
              refine hg_zret cx rfl dX1_isOfKind_43 ⟨_, rfl, ?_⟩
              exact ⟨by first | rfl | (simp [sp_isKind, c_5, c_9, c_14, c_22, c_27, c_35]; done) | (simp (decide := true) only [sp_isKind, c_5, c_9, c_14, c_22, c_27, c_35, ↓reduceIte, and_true, true_and, and_false, false_and, or_false, false_or, true_or, or_true]; done) | (simp only [sp_isKind]; grind) | (simp_all [sp_isKind]; done), rfl⟩
            ·
              refine hg_iconst cx 1 dX1_isOfKind_38 (by decide) rfl ?_
              refine hg_goto cx 43 dX1_isOfKind_39 (by decide) ?_
              refine hg_zret cx rfl dX1_isOfKind_43 ⟨_, rfl, ?_⟩
              exact ⟨by first | rfl | (simp [sp_isKind, c_5, c_9, c_14, c_22, c_27, c_35]; done) | (simp (decide := true) only [sp_isKind, c_5, c_9, c_14, c_22, c_27, c_35, ↓reduceIte, and_true, true_and, and_false, false_and, or_false, false_or, true_or, or_true]; done) | (simp only [sp_isKind]; grind) | (simp_all [sp_isKind]; done), rfl⟩
set_option maxHeartbeats 4000000 in
set_option maxRecDepth 100000 in
theorem K_X1_credit (l : Launch) (E : hg_Wd) (σ : hg_Mem) (i : Nat) (h1 : 20 ≤ i) (h2 : i < 50) : hg_C l E yX1_credit cX1_credit 1 (some .int) { frames := 0, cells := 0, slots := 0, locals := 0 } [.ref (hg_ad E i)] σ (hg_pi (fun r τ => r = σ.1 i 2 - σ.1 i 3 ∧ τ = σ)) := by
  refine hg_intro (by decide) [some (.ref (hg_ad E i))] rfl (Nat.le_of_ble_eq_true rfl) ?_
  intro p e s m args below meth c cx
  have cx : hg_Cx E p s m args meth c cX1_credit 1 RX1 (some .int) := cx
  refine hg_aload0 cx dX1_credit_0 rfl ?_
  refine gf_X1_18 cx (by first | assumption | omega | decide) (by first | assumption | omega | decide) dX1_credit_1 rfl ?_
  refine hg_aload0 cx dX1_credit_4 rfl ?_
  refine gf_X1_21 cx (by first | assumption | omega | decide) (by first | assumption | omega | decide) dX1_credit_5 rfl ?_
  refine hg_isub cx dX1_credit_8 rfl ?_
  refine hg_iret cx dX1_credit_9 ⟨_, rfl, ?_⟩
  exact ⟨by first | rfl | (simp [sp_bit, and_self]; done) | (simp (decide := true) only [sp_bit, and_self, ↓reduceIte, and_true, true_and, and_false, false_and, or_false, false_or, true_or, or_true]; done) | (simp only [sp_bit]; grind) | (simp_all [sp_bit]; done), rfl⟩
end
section
/-! MORE ROWS: a whole row of numbers set, seats, sheets, arrays by Nat places, Math.min and max; what a session is -/
def hg_sH (σ : hg_Mem) (i : Nat) (f : Nat → Int32) : hg_Mem := (va_up σ.1 i f, σ.2)
theorem hg_sI_eq (σ : hg_Mem) (i k : Nat) (v : Int32) : hg_sI σ i k v = hg_sH σ i (va_up (σ.1 i) k v) := rfl
theorem hg_sH_at (σ : hg_Mem) (i : Nat) (f : Nat → Int32) : (hg_sH σ i f).1 i = f := by simp [hg_sH, va_up]
theorem hg_sH_ne (σ : hg_Mem) {i j : Nat} (f : Nat → Int32) (h : j ≠ i) : (hg_sH σ i f).1 j = σ.1 j := by simp [hg_sH, va_up, h]
theorem hg_sH_2 (σ : hg_Mem) (i : Nat) (f : Nat → Int32) : (hg_sH σ i f).2 = σ.2 := rfl
theorem hg_sH_sH (σ : hg_Mem) (i : Nat) (f g : Nat → Int32) : hg_sH (hg_sH σ i f) i g = hg_sH σ i g := by
  unfold hg_sH
  refine congrArg (fun x => (x, σ.2)) (funext fun j => ?_)
  by_cases hj : j = i <;> simp [va_up, hj]
theorem hg_sH_self (σ : hg_Mem) (i : Nat) : hg_sH σ i (σ.1 i) = σ := by
  unfold hg_sH
  refine Prod.ext (funext fun j => ?_) rfl
  by_cases hj : j = i <;> simp [va_up, hj]
theorem va_upE {α : Type} (f : Nat → α) (k : Nat) (v : α) : va_up f k v k = v := by simp [va_up]
theorem va_upN {α : Type} (f : Nat → α) {k j : Nat} (v : α) (h : j ≠ k) : va_up f k v j = f j := by simp [va_up, h]
section HGM
variable {E : hg_Wd} {p : Program} {l : Launch} {e : Env} {R : Room} {s : State} {m : MethodId} {args : Array Value} {below : List Frame} {meth : Method} {c : Code} {cc : ByteArray} {nL : Nat} {own : String} {ret : Option FieldType} {Q : State → Prop} {σ : hg_Mem} {pc pc' : Nat} {st : List Value} {lv : List (Option Value)}
theorem hg_seat (cx : hg_Cx E p s m args meth c cc nL own ret) {t j : Nat} (h1 : 1 ≤ t) (h2 : t < 4) (hj : j < 10) (hd : decode cc pc = .ok (.aaload, 1)) (hp : pc + 1 = pc') (kk : hg_G E p l e R s m args below meth c nL Q σ pc' lv (.ref (hg_ad E (10 + 10 * t + j)) :: st)) : hg_G E p l e R s m args below meth c nL Q σ pc lv (.int (nI j) :: .ref (hg_ad E (t + 3)) :: st) :=
  hg_aald (t0 := 2) cx (by omega) (hg_ceSeat E _ _ h1 h2) rfl (vp_in_nI hj (by decide)) (by rw [nI_clamp (by omega)]) hd hp kk
theorem hg_shat (cx : hg_Cx E p s m args meth c cc nL own ret) {j : Nat} (hj : j < 4) (hd : decode cc pc = .ok (.aaload, 1)) (hp : pc + 1 = pc') (kk : hg_G E p l e R s m args below meth c nL Q σ pc' lv (.ref (hg_ad E (12 + j)) :: st)) : hg_G E p l e R s m args below meth c nL Q σ pc lv (.int (nI j) :: .ref (hg_ad E 10) :: st) :=
  hg_aald (t0 := 3) cx (by decide) (hg_ceS10 E _ _) rfl (vp_in_nI hj (by decide)) (by rw [nI_clamp (by omega)]) hd hp kk
theorem hg_iald2 (cx : hg_Cx E p s m args meth c cc nL own ret) {i n j : Nat} (hi : i < 60) (he : ∀ f g, hg_ce E i f g = .inl (hg_cA E 0, n, .inl f)) (hj : j < n) (hn : n < 1000) (hd : decode cc pc = .ok (.iaload, 1)) (hp : pc + 1 = pc') (kk : hg_G E p l e R s m args below meth c nL Q σ pc' lv (.int (σ.1 i j) :: st)) : hg_G E p l e R s m args below meth c nL Q σ pc lv (.int (nI j) :: .ref (hg_ad E i) :: st) :=
  hg_iald cx hi (he _ _) (vp_in_nI hj (by omega)) hd hp (by rw [nI_clamp (by omega)]; exact kk)
theorem hg_iast2 (cx : hg_Cx E p s m args meth c cc nL own ret) {i n j : Nat} {y : Int32} (hi : i < 60) (he : ∀ f g, hg_ce E i f g = .inl (hg_cA E 0, n, .inl f)) (hj : j < n) (hn : n < 1000) (hd : decode cc pc = .ok (.iastore, 1)) (hp : pc + 1 = pc') (kk : hg_G E p l e R s m args below meth c nL Q (hg_sI σ i j y) pc' lv st) : hg_G E p l e R s m args below meth c nL Q σ pc lv (.int y :: .int (nI j) :: .ref (hg_ad E i) :: st) :=
  hg_iast cx hi (he _ _) (vp_in_nI hj (by omega)) (he _ _) hd hp (by rw [nI_clamp (by omega)]; exact kk)
theorem hg_lald2 (cx : hg_Cx E p s m args meth c cc nL own ret) {i n j : Nat} (hi : i < 60) (he : ∀ f g, hg_ce E i f g = .inl (hg_cA E 1, n, .inr (.inl g))) (hj : j < n) (hn : n < 1000) (hd : decode cc pc = .ok (.laload, 1)) (hp : pc + 1 = pc') (kk : hg_G E p l e R s m args below meth c nL Q σ pc' lv (.long (σ.2 i j) :: st)) : hg_G E p l e R s m args below meth c nL Q σ pc lv (.int (nI j) :: .ref (hg_ad E i) :: st) :=
  hg_lald cx hi (he _ _) (vp_in_nI hj (by omega)) hd hp (by rw [nI_clamp (by omega)]; exact kk)
theorem hg_last2 (cx : hg_Cx E p s m args meth c cc nL own ret) {i n j : Nat} {y : Int64} (hi : i < 60) (he : ∀ f g, hg_ce E i f g = .inl (hg_cA E 1, n, .inr (.inl g))) (hj : j < n) (hn : n < 1000) (hd : decode cc pc = .ok (.lastore, 1)) (hp : pc + 1 = pc') (kk : hg_G E p l e R s m args below meth c nL Q (hg_sL σ i j y) pc' lv st) : hg_G E p l e R s m args below meth c nL Q σ pc lv (.long y :: .int (nI j) :: .ref (hg_ad E i) :: st) :=
  hg_last cx hi (he _ _) (vp_in_nI hj (by omega)) (he _ _) hd hp (by rw [nI_clamp (by omega)]; exact kk)
theorem hg_mmin (cx : hg_Cx E p s m args meth c cc nL own ret) {idx : Nat} {x y : Int32} (hlk : Cond.methodLink own idx Lib.Math.min.name ∈ hg_U) (hw : Cond.static Lib.Math.min.name ∈ hg_U ∧ Cond.initialized "java/lang/Math" ∈ hg_U ∧ Cond.code Lib.Math.min.name Lib.Math.min.code 2 (some .int) ∈ hg_U) (hfr : 1 ≤ R.frames) (hlo : (st.map fun v => v.category).sum + 13 ≤ R.locals) (hd : decode cc pc = .ok (.invokestatic idx, 3)) (hp : pc + 3 = pc') (kk : hg_G E p l e R s m args below meth c nL Q σ pc' lv (.int (if y < x then y else x) :: st)) : hg_G E p l e R s m args below meth c nL Q σ pc lv (.int y :: .int x :: st) := by
  subst hp; intro H locs ls hP hS hL; exact va_mmin cx.1 cx.2.1 (by rw [cx.2.2.1, hL.1]) cx.2.2.2.1 (cx.2.2.2.2.1 _ hlk) (cx.2.2.2.2.1 _ hw.1) (cx.2.2.2.2.1 _ hw.2.1) (cx.2.2.2.2.1 _ hw.2.2) hfr hlo (Nat.zero_le _) (Nat.zero_le _) hd (kk H locs ls hP hS hL)
theorem hg_mmax (cx : hg_Cx E p s m args meth c cc nL own ret) {idx : Nat} {x y : Int32} (hlk : Cond.methodLink own idx Lib.Math.max.name ∈ hg_U) (hw : Cond.static Lib.Math.max.name ∈ hg_U ∧ Cond.initialized "java/lang/Math" ∈ hg_U ∧ Cond.code Lib.Math.max.name Lib.Math.max.code 2 (some .int) ∈ hg_U) (hfr : 1 ≤ R.frames) (hlo : (st.map fun v => v.category).sum + 13 ≤ R.locals) (hd : decode cc pc = .ok (.invokestatic idx, 3)) (hp : pc + 3 = pc') (kk : hg_G E p l e R s m args below meth c nL Q σ pc' lv (.int (if x < y then y else x) :: st)) : hg_G E p l e R s m args below meth c nL Q σ pc lv (.int y :: .int x :: st) := by
  subst hp; intro H locs ls hP hS hL; exact va_mmax cx.1 cx.2.1 (by rw [cx.2.2.1, hL.1]) cx.2.2.2.1 (cx.2.2.2.2.1 _ hlk) (cx.2.2.2.2.1 _ hw.1) (cx.2.2.2.2.1 _ hw.2.1) (cx.2.2.2.2.1 _ hw.2.2) hfr hlo (Nat.zero_le _) (Nat.zero_le _) hd (kk H locs ls hP hS hL)
end HGM
theorem hg_wmin : Cond.static Lib.Math.min.name ∈ hg_U ∧ Cond.initialized "java/lang/Math" ∈ hg_U ∧ Cond.code Lib.Math.min.name Lib.Math.min.code 2 (some .int) ∈ hg_U := ⟨(hg_Uin (List.mem_of_getElem? (i := 391) (by decide +kernel)) (by decide +kernel)), (hg_Uin (List.mem_of_getElem? (i := 64) (by decide +kernel)) (by decide +kernel)), (hg_Uin (List.mem_of_getElem? (i := 392) (by decide +kernel)) (by decide +kernel))⟩
theorem hg_wmax : Cond.static Lib.Math.max.name ∈ hg_U ∧ Cond.initialized "java/lang/Math" ∈ hg_U ∧ Cond.code Lib.Math.max.name Lib.Math.max.code 2 (some .int) ∈ hg_U := ⟨(hg_Uin (List.mem_of_getElem? (i := 400) (by decide +kernel)) (by decide +kernel)), (hg_Uin (List.mem_of_getElem? (i := 64) (by decide +kernel)) (by decide +kernel)), (hg_Uin (List.mem_of_getElem? (i := 401) (by decide +kernel)) (by decide +kernel))⟩
theorem lm_X1_41 : Cond.methodLink RX1 41 Lib.Math.min.name ∈ hg_U := (hg_Uin (List.mem_of_getElem? (i := 390) (by decide +kernel)) (by decide +kernel))
theorem lm_X1_54 : Cond.methodLink RX1 54 Lib.Math.max.name ∈ hg_U := (hg_Uin (List.mem_of_getElem? (i := 399) (by decide +kernel)) (by decide +kernel))
theorem lm_X2_23 : Cond.methodLink RX2 23 Lib.Math.min.name ∈ hg_U := (hg_Uin (List.mem_of_getElem? (i := 641) (by decide +kernel)) (by decide +kernel))
/-- a hat that is new -/
def sp_new (h : Nat → Int32) (kind view : Int32) : Nat → Int32 := va_up (va_up (va_up (va_up (va_up (va_up h 0 kind) 1 view) 2 0) 3 0) 4 50) 5 1
/-- six numbers of another -/
def sp_cpy (f g : Nat → Int32) : Nat → Int32 := va_up (va_up (va_up (va_up (va_up (va_up f 0 (g 0)) 1 (g 1)) 2 (g 2)) 3 (g 3)) 4 (g 4)) 5 (g 5)
def sp_min (x y : Int32) : Int32 := if y < x then y else x
def sp_max (x y : Int32) : Int32 := if x < y then y else x
/-- having been right -/
def sp_right (h : Nat → Int32) : Nat → Int32 := va_up (va_up h 2 (sp_min (h 2 + 1) 9999)) 4 (sp_min (h 4 + sp_stirs h) 99)
/-- having been wrong -/
def sp_wrong (h : Nat → Int32) (ses q truth : Int32) : Nat → Int32 :=
  va_up (va_up (if sp_learns h ses = 0 then h else va_up h 1 ((h 1 &&& (((1 : Int32) <<< (q &&& 31)) ^^^ (-1))) ||| (truth &&& ((1 : Int32) <<< (q &&& 31))))) 3 (sp_min (h 3 + 1) 9999)) 4 (sp_max (h 4 - sp_stirs h) 0)
theorem sp_stirs_up (h : Nat → Int32) {k : Nat} (v : Int32) (hk : k ≠ 0) : sp_stirs (va_up h k v) = sp_stirs h := by
  have : va_up h k v 0 = h 0 := va_upN h v (fun e => hk e.symm)
  simp only [sp_stirs, this]
def sp_put (h : Nat → Int32) (what v : Int32) : Nat → Int32 := if what = 1 then va_up h 1 v else if what = 2 then va_up h 2 v else if what = 3 then va_up h 3 v else if what = 4 then va_up h 4 v else va_up h 5 v
end
section
set_option maxHeartbeats 4000000 in
set_option maxRecDepth 100000 in
theorem K_X1_begin (l : Launch) (E : hg_Wd) (σ : hg_Mem) (i : Nat) (h1 : 20 ≤ i) (h2 : i < 50) (kind : Int32) (view : Int32) : hg_C l E yX1_begin cX1_begin 3 none { frames := 0, cells := 0, slots := 0, locals := 0 } [.ref (hg_ad E i), .int kind, .int view] σ (hg_pv (fun τ => τ = hg_sH σ i (sp_new (σ.1 i) kind view))) := by
  refine hg_intro (by decide) [some (.ref (hg_ad E i)), some (.int kind), some (.int view)] rfl (Nat.le_of_ble_eq_true rfl) ?_
  intro p e s m args below meth c cx
  have cx : hg_Cx E p s m args meth c cX1_begin 3 RX1 none := cx
  refine hg_aload0 cx dX1_begin_0 rfl ?_
  refine hg_iload1 cx dX1_begin_1 rfl ?_
  refine pf_X1_9 cx (by first | assumption | omega | decide) (by first | assumption | omega | decide) dX1_begin_2 rfl ?_
  refine hg_aload0 cx dX1_begin_5 rfl ?_
  refine hg_iload2 cx dX1_begin_6 rfl ?_
  refine pf_X1_15 cx (by first | assumption | omega | decide) (by first | assumption | omega | decide) dX1_begin_7 rfl ?_
  refine hg_aload0 cx dX1_begin_10 rfl ?_
  refine hg_iconst cx 0 dX1_begin_11 (by decide) rfl ?_
  refine pf_X1_18 cx (by first | assumption | omega | decide) (by first | assumption | omega | decide) dX1_begin_12 rfl ?_
  refine hg_aload0 cx dX1_begin_15 rfl ?_
  refine hg_iconst cx 0 dX1_begin_16 (by decide) rfl ?_
  refine pf_X1_21 cx (by first | assumption | omega | decide) (by first | assumption | omega | decide) dX1_begin_17 rfl ?_
  refine hg_aload0 cx dX1_begin_20 rfl ?_
  refine hg_bipush cx 50 dX1_begin_21 (by decide) rfl ?_
  refine pf_X1_24 cx (by first | assumption | omega | decide) (by first | assumption | omega | decide) dX1_begin_23 rfl ?_
  refine hg_aload0 cx dX1_begin_26 rfl ?_
  refine hg_iconst cx 1 dX1_begin_27 (by decide) rfl ?_
  refine pf_X1_27 cx (by first | assumption | omega | decide) (by first | assumption | omega | decide) dX1_begin_28 rfl ?_
  refine hg_vret cx dX1_begin_31 ⟨rfl, ?_⟩
  simp only [hg_sI_eq, hg_sH_at, hg_sH_sH]
  rfl
set_option maxHeartbeats 4000000 in
set_option maxRecDepth 100000 in
theorem K_X1_become (l : Launch) (E : hg_Wd) (σ : hg_Mem) (i : Nat) (h1 : 20 ≤ i) (h2 : i < 50) (j : Nat) (h3 : 20 ≤ j) (h4 : j < 50) (hij : j ≠ i) : hg_C l E yX1_become cX1_become 2 none { frames := 0, cells := 0, slots := 0, locals := 0 } [.ref (hg_ad E i), .ref (hg_ad E j)] σ (hg_pv (fun τ => τ = hg_sH σ i (sp_cpy (σ.1 i) (σ.1 j)))) := by
  refine hg_intro (by decide) [some (.ref (hg_ad E i)), some (.ref (hg_ad E j))] rfl (Nat.le_of_ble_eq_true rfl) ?_
  intro p e s m args below meth c cx
  have cx : hg_Cx E p s m args meth c cX1_become 2 RX1 none := cx
  refine hg_aload0 cx dX1_become_0 rfl ?_
  refine hg_aload1 cx dX1_become_1 rfl ?_
  refine gf_X1_9 cx (by first | assumption | omega | decide) (by first | assumption | omega | decide) dX1_become_2 rfl ?_
  refine pf_X1_9 cx (by first | assumption | omega | decide) (by first | assumption | omega | decide) dX1_become_5 rfl ?_
  refine hg_aload0 cx dX1_become_8 rfl ?_
  refine hg_aload1 cx dX1_become_9 rfl ?_
  refine gf_X1_15 cx (by first | assumption | omega | decide) (by first | assumption | omega | decide) dX1_become_10 rfl ?_
  refine pf_X1_15 cx (by first | assumption | omega | decide) (by first | assumption | omega | decide) dX1_become_13 rfl ?_
  refine hg_aload0 cx dX1_become_16 rfl ?_
  refine hg_aload1 cx dX1_become_17 rfl ?_
  refine gf_X1_18 cx (by first | assumption | omega | decide) (by first | assumption | omega | decide) dX1_become_18 rfl ?_
  refine pf_X1_18 cx (by first | assumption | omega | decide) (by first | assumption | omega | decide) dX1_become_21 rfl ?_
  refine hg_aload0 cx dX1_become_24 rfl ?_
  refine hg_aload1 cx dX1_become_25 rfl ?_
  refine gf_X1_21 cx (by first | assumption | omega | decide) (by first | assumption | omega | decide) dX1_become_26 rfl ?_
  refine pf_X1_21 cx (by first | assumption | omega | decide) (by first | assumption | omega | decide) dX1_become_29 rfl ?_
  refine hg_aload0 cx dX1_become_32 rfl ?_
  refine hg_aload1 cx dX1_become_33 rfl ?_
  refine gf_X1_24 cx (by first | assumption | omega | decide) (by first | assumption | omega | decide) dX1_become_34 rfl ?_
  refine pf_X1_24 cx (by first | assumption | omega | decide) (by first | assumption | omega | decide) dX1_become_37 rfl ?_
  refine hg_aload0 cx dX1_become_40 rfl ?_
  refine hg_aload1 cx dX1_become_41 rfl ?_
  refine gf_X1_27 cx (by first | assumption | omega | decide) (by first | assumption | omega | decide) dX1_become_42 rfl ?_
  refine pf_X1_27 cx (by first | assumption | omega | decide) (by first | assumption | omega | decide) dX1_become_45 rfl ?_
  refine hg_vret cx dX1_become_48 ⟨rfl, ?_⟩
  simp only [hg_sI_eq, hg_sH_at, hg_sH_sH, hg_sH_ne _ _ hij]
  rfl
set_option maxHeartbeats 4000000 in
set_option maxRecDepth 100000 in
theorem K_X1_put (l : Launch) (E : hg_Wd) (σ : hg_Mem) (i : Nat) (h1 : 20 ≤ i) (h2 : i < 50) (w : Int32) (v : Int32) : hg_C l E yX1_put cX1_put 3 none { frames := 0, cells := 0, slots := 0, locals := 0 } [.ref (hg_ad E i), .int w, .int v] σ (hg_pv (fun τ => τ = hg_sH σ i (sp_put (σ.1 i) w v))) := by
  refine hg_intro (by decide) [some (.ref (hg_ad E i)), some (.int w), some (.int v)] rfl (Nat.le_of_ble_eq_true rfl) ?_
  intro p e s m args below meth c cx
  have cx : hg_Cx E p s m args meth c cX1_put 3 RX1 none := cx
  refine hg_iload1 cx dX1_put_0 rfl ?_
  refine hg_tsw cx [1, 2, 3, 4] [32, 40, 48, 56] 64 dX1_put_1 (by decide) (by decide) (fun c_1 => ?_) (fun i v t hk ht c_1 => ?_)
  ·
    simp only [List.mem_cons, List.not_mem_nil, or_false, forall_eq_or_imp, forall_eq] at c_1
    refine hg_aload0 cx dX1_put_64 rfl ?_
    refine hg_iload2 cx dX1_put_65 rfl ?_
    refine pf_X1_27 cx (by first | assumption | omega | decide) (by first | assumption | omega | decide) dX1_put_66 rfl ?_
    refine hg_vret cx dX1_put_69 ⟨rfl, ?_⟩
    simp [sp_put, hg_sI_eq, c_1]
  ·
    match i, hk, ht with
    | 0, hk, ht =>
      cases hk; cases ht
      refine hg_aload0 cx dX1_put_32 rfl ?_
      refine hg_iload2 cx dX1_put_33 rfl ?_
      refine pf_X1_15 cx (by first | assumption | omega | decide) (by first | assumption | omega | decide) dX1_put_34 rfl ?_
      refine hg_goto cx 69 dX1_put_37 (by decide) ?_
      refine hg_vret cx dX1_put_69 ⟨rfl, ?_⟩
      simp [sp_put, hg_sI_eq, c_1]
    | 1, hk, ht =>
      cases hk; cases ht
      refine hg_aload0 cx dX1_put_40 rfl ?_
      refine hg_iload2 cx dX1_put_41 rfl ?_
      refine pf_X1_18 cx (by first | assumption | omega | decide) (by first | assumption | omega | decide) dX1_put_42 rfl ?_
      refine hg_goto cx 69 dX1_put_45 (by decide) ?_
      refine hg_vret cx dX1_put_69 ⟨rfl, ?_⟩
      simp [sp_put, hg_sI_eq, c_1]
    | 2, hk, ht =>
      cases hk; cases ht
      refine hg_aload0 cx dX1_put_48 rfl ?_
      refine hg_iload2 cx dX1_put_49 rfl ?_
      refine pf_X1_21 cx (by first | assumption | omega | decide) (by first | assumption | omega | decide) dX1_put_50 rfl ?_
      refine hg_goto cx 69 dX1_put_53 (by decide) ?_
      refine hg_vret cx dX1_put_69 ⟨rfl, ?_⟩
      simp [sp_put, hg_sI_eq, c_1]
    | 3, hk, ht =>
      cases hk; cases ht
      refine hg_aload0 cx dX1_put_56 rfl ?_
      refine hg_iload2 cx dX1_put_57 rfl ?_
      refine pf_X1_24 cx (by first | assumption | omega | decide) (by first | assumption | omega | decide) dX1_put_58 rfl ?_
      refine hg_goto cx 69 dX1_put_61 (by decide) ?_
      refine hg_vret cx dX1_put_69 ⟨rfl, ?_⟩
      simp [sp_put, hg_sI_eq, c_1]
    | j + 4, hk, ht => exact absurd hk (by simp)
set_option maxHeartbeats 4000000 in
set_option maxRecDepth 100000 in
theorem K_X1_beRight (l : Launch) (E : hg_Wd) (σ : hg_Mem) (i : Nat) (h1 : 20 ≤ i) (h2 : i < 50) : hg_C l E yX1_beRight cX1_beRight 1 none { frames := 1, cells := 0, slots := 0, locals := 21 } [.ref (hg_ad E i)] σ (hg_pv (fun τ => τ = hg_sH σ i (sp_right (σ.1 i)))) := by
  refine hg_intro (by decide) [some (.ref (hg_ad E i))] rfl (Nat.le_of_ble_eq_true rfl) ?_
  intro p e s m args below meth c cx
  have cx : hg_Cx E p s m args meth c cX1_beRight 1 RX1 none := cx
  refine hg_aload0 cx dX1_beRight_0 rfl ?_
  refine hg_aload0 cx dX1_beRight_1 rfl ?_
  refine gf_X1_18 cx (by first | assumption | omega | decide) (by first | assumption | omega | decide) dX1_beRight_2 rfl ?_
  refine hg_iconst cx 1 dX1_beRight_5 (by decide) rfl ?_
  refine hg_iadd cx dX1_beRight_6 rfl ?_
  refine hg_sipush cx 9999 dX1_beRight_7 (by decide) rfl ?_
  refine hg_mmin cx lm_X1_41 hg_wmin (Nat.le_of_ble_eq_true rfl) (Nat.le_of_ble_eq_true rfl) dX1_beRight_10 rfl ?_
  refine pf_X1_18 cx (by first | assumption | omega | decide) (by first | assumption | omega | decide) dX1_beRight_13 rfl ?_
  refine hg_aload0 cx dX1_beRight_16 rfl ?_
  refine hg_aload0 cx dX1_beRight_17 rfl ?_
  refine gf_X1_24 cx (by first | assumption | omega | decide) (by first | assumption | omega | decide) dX1_beRight_18 rfl ?_
  refine hg_aload0 cx dX1_beRight_21 rfl ?_
  refine cv_X1_46 cx (by first | assumption | omega | decide) (by first | assumption | omega | decide) (K_X1_stir l E _ _ (by first | assumption | omega | decide) (by first | assumption | omega | decide)) ⟨rfl, rfl, Nat.le_of_ble_eq_true rfl, Nat.le_of_ble_eq_true rfl⟩ (Nat.le_of_ble_eq_true rfl) dX1_beRight_22 rfl (fun r_22 τ_22 h_22 => ?_)
  obtain ⟨rfl, rfl⟩ := h_22
  refine hg_iadd cx dX1_beRight_25 rfl ?_
  refine hg_bipush cx 99 dX1_beRight_26 (by decide) rfl ?_
  refine hg_mmin cx lm_X1_41 hg_wmin (Nat.le_of_ble_eq_true rfl) (Nat.le_of_ble_eq_true rfl) dX1_beRight_28 rfl ?_
  refine pf_X1_24 cx (by first | assumption | omega | decide) (by first | assumption | omega | decide) dX1_beRight_31 rfl ?_
  refine hg_vret cx dX1_beRight_34 ⟨rfl, ?_⟩
  simp only [hg_sI_eq, hg_sH_at, hg_sH_sH, sp_right, sp_min]
  simp (decide := true) only [va_upN, sp_stirs_up, ne_eq, not_false_eq_true]
set_option maxHeartbeats 4000000 in
set_option maxRecDepth 100000 in
theorem K_X1_beWrong (l : Launch) (E : hg_Wd) (σ : hg_Mem) (i : Nat) (h1 : 20 ≤ i) (h2 : i < 50) (ses : Int32) (q : Int32) (truth : Int32) : hg_C l E yX1_beWrong cX1_beWrong 5 none { frames := 1, cells := 0, slots := 0, locals := 21 } [.ref (hg_ad E i), .int ses, .int q, .int truth] σ (hg_pv (fun τ => τ = hg_sH σ i (sp_wrong (σ.1 i) ses q truth))) := by
  refine hg_intro (by decide) [some (.ref (hg_ad E i)), some (.int ses), some (.int q), some (.int truth), none] rfl (Nat.le_of_ble_eq_true rfl) ?_
  intro p e s m args below meth c cx
  have cx : hg_Cx E p s m args meth c cX1_beWrong 5 RX1 none := cx
  refine hg_aload0 cx dX1_beWrong_0 rfl ?_
  refine hg_iload1 cx dX1_beWrong_1 rfl ?_
  refine cv_X1_50 cx (by first | assumption | omega | decide) (by first | assumption | omega | decide) (K_X1_isLearning l E _ _ (by first | assumption | omega | decide) (by first | assumption | omega | decide) _) ⟨rfl, rfl, Nat.le_of_ble_eq_true rfl, Nat.le_of_ble_eq_true rfl⟩ (Nat.le_of_ble_eq_true rfl) dX1_beWrong_2 rfl (fun r_2 τ_2 h_2 => ?_)
  obtain ⟨rfl, rfl⟩ := h_2
  refine hg_if_eq cx 31 dX1_beWrong_5 (by decide) rfl (fun c_5 => ?_) (fun c_5 => ?_)
  ·
    refine hg_aload0 cx dX1_beWrong_31 rfl ?_
    refine hg_aload0 cx dX1_beWrong_32 rfl ?_
    refine gf_X1_21 cx (by first | assumption | omega | decide) (by first | assumption | omega | decide) dX1_beWrong_33 rfl ?_
    refine hg_iconst cx 1 dX1_beWrong_36 (by decide) rfl ?_
    refine hg_iadd cx dX1_beWrong_37 rfl ?_
    refine hg_sipush cx 9999 dX1_beWrong_38 (by decide) rfl ?_
    refine hg_mmin cx lm_X1_41 hg_wmin (Nat.le_of_ble_eq_true rfl) (Nat.le_of_ble_eq_true rfl) dX1_beWrong_41 rfl ?_
    refine pf_X1_21 cx (by first | assumption | omega | decide) (by first | assumption | omega | decide) dX1_beWrong_44 rfl ?_
    refine hg_aload0 cx dX1_beWrong_47 rfl ?_
    refine hg_aload0 cx dX1_beWrong_48 rfl ?_
    refine gf_X1_24 cx (by first | assumption | omega | decide) (by first | assumption | omega | decide) dX1_beWrong_49 rfl ?_
    refine hg_aload0 cx dX1_beWrong_52 rfl ?_
    refine cv_X1_46 cx (by first | assumption | omega | decide) (by first | assumption | omega | decide) (K_X1_stir l E _ _ (by first | assumption | omega | decide) (by first | assumption | omega | decide)) ⟨rfl, rfl, Nat.le_of_ble_eq_true rfl, Nat.le_of_ble_eq_true rfl⟩ (Nat.le_of_ble_eq_true rfl) dX1_beWrong_53 rfl (fun r_53 τ_53 h_53 => ?_)
    obtain ⟨rfl, rfl⟩ := h_53
    refine hg_isub cx dX1_beWrong_56 rfl ?_
    refine hg_iconst cx 0 dX1_beWrong_57 (by decide) rfl ?_
    refine hg_mmax cx lm_X1_54 hg_wmax (Nat.le_of_ble_eq_true rfl) (Nat.le_of_ble_eq_true rfl) dX1_beWrong_58 rfl ?_
    refine pf_X1_24 cx (by first | assumption | omega | decide) (by first | assumption | omega | decide) dX1_beWrong_61 rfl ?_
    refine hg_vret cx dX1_beWrong_64 ⟨rfl, ?_⟩
    simp only [hg_sI_eq, hg_sH_at, hg_sH_sH, sp_wrong, sp_min, sp_max, c_5, if_true, if_false]
    simp (decide := true) only [va_upN, sp_stirs_up, ne_eq, not_false_eq_true]
  ·
    refine hg_iconst cx 1 dX1_beWrong_8 (by decide) rfl ?_
    refine hg_iload2 cx dX1_beWrong_9 rfl ?_
    refine hg_ishl cx dX1_beWrong_10 rfl ?_
    refine hg_istore4 cx rfl dX1_beWrong_11 rfl ?_
    refine hg_aload0 cx dX1_beWrong_13 rfl ?_
    refine hg_aload0 cx dX1_beWrong_14 rfl ?_
    refine gf_X1_15 cx (by first | assumption | omega | decide) (by first | assumption | omega | decide) dX1_beWrong_15 rfl ?_
    refine hg_iload4 cx dX1_beWrong_18 rfl ?_
    refine hg_iconst cx (-1) dX1_beWrong_20 (by decide) rfl ?_
    refine hg_ixor cx dX1_beWrong_21 rfl ?_
    refine hg_iand cx dX1_beWrong_22 rfl ?_
    refine hg_iload3 cx dX1_beWrong_23 rfl ?_
    refine hg_iload4 cx dX1_beWrong_24 rfl ?_
    refine hg_iand cx dX1_beWrong_26 rfl ?_
    refine hg_ior cx dX1_beWrong_27 rfl ?_
    refine pf_X1_15 cx (by first | assumption | omega | decide) (by first | assumption | omega | decide) dX1_beWrong_28 rfl ?_
    refine hg_aload0 cx dX1_beWrong_31 rfl ?_
    refine hg_aload0 cx dX1_beWrong_32 rfl ?_
    refine gf_X1_21 cx (by first | assumption | omega | decide) (by first | assumption | omega | decide) dX1_beWrong_33 rfl ?_
    refine hg_iconst cx 1 dX1_beWrong_36 (by decide) rfl ?_
    refine hg_iadd cx dX1_beWrong_37 rfl ?_
    refine hg_sipush cx 9999 dX1_beWrong_38 (by decide) rfl ?_
    refine hg_mmin cx lm_X1_41 hg_wmin (Nat.le_of_ble_eq_true rfl) (Nat.le_of_ble_eq_true rfl) dX1_beWrong_41 rfl ?_
    refine pf_X1_21 cx (by first | assumption | omega | decide) (by first | assumption | omega | decide) dX1_beWrong_44 rfl ?_
    refine hg_aload0 cx dX1_beWrong_47 rfl ?_
    refine hg_aload0 cx dX1_beWrong_48 rfl ?_
    refine gf_X1_24 cx (by first | assumption | omega | decide) (by first | assumption | omega | decide) dX1_beWrong_49 rfl ?_
    refine hg_aload0 cx dX1_beWrong_52 rfl ?_
    refine cv_X1_46 cx (by first | assumption | omega | decide) (by first | assumption | omega | decide) (K_X1_stir l E _ _ (by first | assumption | omega | decide) (by first | assumption | omega | decide)) ⟨rfl, rfl, Nat.le_of_ble_eq_true rfl, Nat.le_of_ble_eq_true rfl⟩ (Nat.le_of_ble_eq_true rfl) dX1_beWrong_53 rfl (fun r_53 τ_53 h_53 => ?_)
    obtain ⟨rfl, rfl⟩ := h_53
    refine hg_isub cx dX1_beWrong_56 rfl ?_
    refine hg_iconst cx 0 dX1_beWrong_57 (by decide) rfl ?_
    refine hg_mmax cx lm_X1_54 hg_wmax (Nat.le_of_ble_eq_true rfl) (Nat.le_of_ble_eq_true rfl) dX1_beWrong_58 rfl ?_
    refine pf_X1_24 cx (by first | assumption | omega | decide) (by first | assumption | omega | decide) dX1_beWrong_61 rfl ?_
    refine hg_vret cx dX1_beWrong_64 ⟨rfl, ?_⟩
    simp only [hg_sI_eq, hg_sH_at, hg_sH_sH, sp_wrong, sp_min, sp_max, c_5, if_true, if_false]
    simp (decide := true) only [va_upN, sp_stirs_up, ne_eq, not_false_eq_true]
end
