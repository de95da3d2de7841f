-- ===== PART A: goes FIRST, ahead of the names: the tables' words, and 'selects' of the private methods out of them =====
/-- a private method of a class that the tables say can be made, by its rows of tables_1 -/
def lw_okq (q : MethodName × Nat) : Prop := (q.1.cls ≠ "java/lang/invoke/MethodHandle" ∧ q.1.cls ≠ "java/lang/invoke/VarHandle") ∧ Cond.instantiable q.1.cls q.2 ∈ tables_1 ∧ Cond.privateMethod q.1 ∈ tables_1 ∧ Cond.instanceMethod q.1 ∈ tables_1
theorem lw_p0 : lw_okq (⟨"FallChain", "refuse", "(I)I"⟩, 16) := ⟨⟨by decide +kernel, by decide +kernel⟩, List.mem_of_getElem? (i := 12) (by decide +kernel), List.mem_of_getElem? (i := 282) (by decide +kernel), List.mem_of_getElem? (i := 283) (by decide +kernel)⟩
theorem lw_p1 : lw_okq (⟨"FallChain", "rowOn", "(I)LFallChain$Row;"⟩, 16) := ⟨⟨by decide +kernel, by decide +kernel⟩, List.mem_of_getElem? (i := 12) (by decide +kernel), List.mem_of_getElem? (i := 435) (by decide +kernel), List.mem_of_getElem? (i := 436) (by decide +kernel)⟩
theorem lw_p2 : lw_okq (⟨"FallChain", "whyNoRow", "(I)I"⟩, 16) := ⟨⟨by decide +kernel, by decide +kernel⟩, List.mem_of_getElem? (i := 12) (by decide +kernel), List.mem_of_getElem? (i := 439) (by decide +kernel), List.mem_of_getElem? (i := 440) (by decide +kernel)⟩
theorem lw_p3 : lw_okq (⟨"FallChain", "draftTakes", "(IIII)Z"⟩, 16) := ⟨⟨by decide +kernel, by decide +kernel⟩, List.mem_of_getElem? (i := 12) (by decide +kernel), List.mem_of_getElem? (i := 492) (by decide +kernel), List.mem_of_getElem? (i := 493) (by decide +kernel)⟩
theorem lw_p4 : lw_okq (⟨"FallChain$Run", "begin", "(LFallChain$Plan;)V"⟩, 13) := ⟨⟨by decide +kernel, by decide +kernel⟩, List.mem_of_getElem? (i := 101) (by decide +kernel), List.mem_of_getElem? (i := 512) (by decide +kernel), List.mem_of_getElem? (i := 513) (by decide +kernel)⟩
theorem lw_p5 : lw_okq (⟨"FallChain$Run", "doStrikesSet", "()V"⟩, 13) := ⟨⟨by decide +kernel, by decide +kernel⟩, List.mem_of_getElem? (i := 101) (by decide +kernel), List.mem_of_getElem? (i := 533) (by decide +kernel), List.mem_of_getElem? (i := 534) (by decide +kernel)⟩
theorem lw_p6 : lw_okq (⟨"FallChain$Run", "landing", "(IIZ)I"⟩, 13) := ⟨⟨by decide +kernel, by decide +kernel⟩, List.mem_of_getElem? (i := 101) (by decide +kernel), List.mem_of_getElem? (i := 545) (by decide +kernel), List.mem_of_getElem? (i := 546) (by decide +kernel)⟩
theorem lw_p7 : lw_okq (⟨"FallChain$Run", "isVoid", "(I)Z"⟩, 13) := ⟨⟨by decide +kernel, by decide +kernel⟩, List.mem_of_getElem? (i := 101) (by decide +kernel), List.mem_of_getElem? (i := 549) (by decide +kernel), List.mem_of_getElem? (i := 550) (by decide +kernel)⟩
theorem lw_p8 : lw_okq (⟨"FallChain$Run", "note", "(IIII)I"⟩, 13) := ⟨⟨by decide +kernel, by decide +kernel⟩, List.mem_of_getElem? (i := 101) (by decide +kernel), List.mem_of_getElem? (i := 560) (by decide +kernel), List.mem_of_getElem? (i := 561) (by decide +kernel)⟩
theorem lw_p9 : lw_okq (⟨"FallChain$Run", "work", "(III)V"⟩, 13) := ⟨⟨by decide +kernel, by decide +kernel⟩, List.mem_of_getElem? (i := 101) (by decide +kernel), List.mem_of_getElem? (i := 573) (by decide +kernel), List.mem_of_getElem? (i := 574) (by decide +kernel)⟩
theorem lw_p10 : lw_okq (⟨"FallChain$Run", "setStrike", "(IIIIZ)V"⟩, 13) := ⟨⟨by decide +kernel, by decide +kernel⟩, List.mem_of_getElem? (i := 101) (by decide +kernel), List.mem_of_getElem? (i := 595) (by decide +kernel), List.mem_of_getElem? (i := 596) (by decide +kernel)⟩
theorem lw_p11 : lw_okq (⟨"FallChain$Run", "rollBalls", "()V"⟩, 13) := ⟨⟨by decide +kernel, by decide +kernel⟩, List.mem_of_getElem? (i := 101) (by decide +kernel), List.mem_of_getElem? (i := 601) (by decide +kernel), List.mem_of_getElem? (i := 602) (by decide +kernel)⟩
theorem lw_p12 : lw_okq (⟨"FallChain$Run", "isOpen", "(II)Z"⟩, 13) := ⟨⟨by decide +kernel, by decide +kernel⟩, List.mem_of_getElem? (i := 101) (by decide +kernel), List.mem_of_getElem? (i := 617) (by decide +kernel), List.mem_of_getElem? (i := 618) (by decide +kernel)⟩
theorem lw_p13 : lw_okq (⟨"FallChain$Run", "wayOn", "(II)I"⟩, 13) := ⟨⟨by decide +kernel, by decide +kernel⟩, List.mem_of_getElem? (i := 101) (by decide +kernel), List.mem_of_getElem? (i := 621) (by decide +kernel), List.mem_of_getElem? (i := 622) (by decide +kernel)⟩
theorem lw_p14 : lw_okq (⟨"FallChain$Run", "isOver", "()Z"⟩, 13) := ⟨⟨by decide +kernel, by decide +kernel⟩, List.mem_of_getElem? (i := 101) (by decide +kernel), List.mem_of_getElem? (i := 630) (by decide +kernel), List.mem_of_getElem? (i := 631) (by decide +kernel)⟩
theorem lw_p15 : lw_okq (⟨"FallChain$Run", "isKnown", "(II)Z"⟩, 13) := ⟨⟨by decide +kernel, by decide +kernel⟩, List.mem_of_getElem? (i := 101) (by decide +kernel), List.mem_of_getElem? (i := 634) (by decide +kernel), List.mem_of_getElem? (i := 635) (by decide +kernel)⟩
def lw_privs_1 : List (MethodName × Nat) := [(⟨"FallChain", "refuse", "(I)I"⟩, 16), (⟨"FallChain", "rowOn", "(I)LFallChain$Row;"⟩, 16), (⟨"FallChain", "whyNoRow", "(I)I"⟩, 16), (⟨"FallChain", "draftTakes", "(IIII)Z"⟩, 16), (⟨"FallChain$Run", "begin", "(LFallChain$Plan;)V"⟩, 13), (⟨"FallChain$Run", "doStrikesSet", "()V"⟩, 13), (⟨"FallChain$Run", "landing", "(IIZ)I"⟩, 13), (⟨"FallChain$Run", "isVoid", "(I)Z"⟩, 13), (⟨"FallChain$Run", "note", "(IIII)I"⟩, 13), (⟨"FallChain$Run", "work", "(III)V"⟩, 13), (⟨"FallChain$Run", "setStrike", "(IIIIZ)V"⟩, 13), (⟨"FallChain$Run", "rollBalls", "()V"⟩, 13), (⟨"FallChain$Run", "isOpen", "(II)Z"⟩, 13), (⟨"FallChain$Run", "wayOn", "(II)I"⟩, 13), (⟨"FallChain$Run", "isOver", "()Z"⟩, 13), (⟨"FallChain$Run", "isKnown", "(II)Z"⟩, 13)]
theorem lw_r1 : ∀ q ∈ lw_privs_1, lw_okq q := List.forall_mem_cons.mpr ⟨lw_p0, List.forall_mem_cons.mpr ⟨lw_p1, List.forall_mem_cons.mpr ⟨lw_p2, List.forall_mem_cons.mpr ⟨lw_p3, List.forall_mem_cons.mpr ⟨lw_p4, List.forall_mem_cons.mpr ⟨lw_p5, List.forall_mem_cons.mpr ⟨lw_p6, List.forall_mem_cons.mpr ⟨lw_p7, List.forall_mem_cons.mpr ⟨lw_p8, List.forall_mem_cons.mpr ⟨lw_p9, List.forall_mem_cons.mpr ⟨lw_p10, List.forall_mem_cons.mpr ⟨lw_p11, List.forall_mem_cons.mpr ⟨lw_p12, List.forall_mem_cons.mpr ⟨lw_p13, List.forall_mem_cons.mpr ⟨lw_p14, List.forall_mem_cons.mpr ⟨lw_p15, fun _ h => absurd h List.not_mem_nil⟩⟩⟩⟩⟩⟩⟩⟩⟩⟩⟩⟩⟩⟩⟩⟩
theorem lw_p16 : lw_okq (⟨"FallChain", "addWeak", "(I)V"⟩, 16) := ⟨⟨by decide +kernel, by decide +kernel⟩, List.mem_of_getElem? (i := 12) (by decide +kernel), List.mem_of_getElem? (i := 700) (by decide +kernel), List.mem_of_getElem? (i := 701) (by decide +kernel)⟩
theorem lw_p17 : lw_okq (⟨"FallChain", "addFit", "(I)V"⟩, 16) := ⟨⟨by decide +kernel, by decide +kernel⟩, List.mem_of_getElem? (i := 12) (by decide +kernel), List.mem_of_getElem? (i := 718) (by decide +kernel), List.mem_of_getElem? (i := 719) (by decide +kernel)⟩
theorem lw_p18 : lw_okq (⟨"FallChain", "meetsWhole", "([ZII)Z"⟩, 16) := ⟨⟨by decide +kernel, by decide +kernel⟩, List.mem_of_getElem? (i := 12) (by decide +kernel), List.mem_of_getElem? (i := 730) (by decide +kernel), List.mem_of_getElem? (i := 731) (by decide +kernel)⟩
theorem lw_p19 : lw_okq (⟨"FallChain", "findPiece", "([ZII)I"⟩, 16) := ⟨⟨by decide +kernel, by decide +kernel⟩, List.mem_of_getElem? (i := 12) (by decide +kernel), List.mem_of_getElem? (i := 735) (by decide +kernel), List.mem_of_getElem? (i := 736) (by decide +kernel)⟩
theorem lw_p20 : lw_okq (⟨"FallChain", "placeChoice", "([ZI)Z"⟩, 16) := ⟨⟨by decide +kernel, by decide +kernel⟩, List.mem_of_getElem? (i := 12) (by decide +kernel), List.mem_of_getElem? (i := 739) (by decide +kernel), List.mem_of_getElem? (i := 740) (by decide +kernel)⟩
theorem lw_p21 : lw_okq (⟨"FallChain", "addFewest", "(I)V"⟩, 16) := ⟨⟨by decide +kernel, by decide +kernel⟩, List.mem_of_getElem? (i := 12) (by decide +kernel), List.mem_of_getElem? (i := 749) (by decide +kernel), List.mem_of_getElem? (i := 750) (by decide +kernel)⟩
theorem lw_p22 : lw_okq (⟨"FallChainModel", "refuse", "(I)I"⟩, 53) := ⟨⟨by decide +kernel, by decide +kernel⟩, List.mem_of_getElem? (i := 757) (by decide +kernel), List.mem_of_getElem? (i := 933) (by decide +kernel), List.mem_of_getElem? (i := 934) (by decide +kernel)⟩
theorem lw_p23 : lw_okq (⟨"FallChainModel", "canPut", "(IIII)Z"⟩, 53) := ⟨⟨by decide +kernel, by decide +kernel⟩, List.mem_of_getElem? (i := 757) (by decide +kernel), List.mem_of_getElem? (i := 937) (by decide +kernel), List.mem_of_getElem? (i := 938) (by decide +kernel)⟩
theorem lw_p24 : lw_okq (⟨"FallChainModel", "lays", "(IIII)V"⟩, 53) := ⟨⟨by decide +kernel, by decide +kernel⟩, List.mem_of_getElem? (i := 757) (by decide +kernel), List.mem_of_getElem? (i := 947) (by decide +kernel), List.mem_of_getElem? (i := 948) (by decide +kernel)⟩
theorem lw_p25 : lw_okq (⟨"FallChainModel", "isFree", "(I)Z"⟩, 53) := ⟨⟨by decide +kernel, by decide +kernel⟩, List.mem_of_getElem? (i := 757) (by decide +kernel), List.mem_of_getElem? (i := 955) (by decide +kernel), List.mem_of_getElem? (i := 956) (by decide +kernel)⟩
theorem lw_p26 : lw_okq (⟨"FallChainModel", "canBall", "(I)Z"⟩, 53) := ⟨⟨by decide +kernel, by decide +kernel⟩, List.mem_of_getElem? (i := 757) (by decide +kernel), List.mem_of_getElem? (i := 963) (by decide +kernel), List.mem_of_getElem? (i := 964) (by decide +kernel)⟩
theorem lw_p27 : lw_okq (⟨"FallChainModel", "rowless", "(I)I"⟩, 53) := ⟨⟨by decide +kernel, by decide +kernel⟩, List.mem_of_getElem? (i := 757) (by decide +kernel), List.mem_of_getElem? (i := 994) (by decide +kernel), List.mem_of_getElem? (i := 995) (by decide +kernel)⟩
theorem lw_p28 : lw_okq (⟨"FallChainModel", "isRow", "(I)Z"⟩, 53) := ⟨⟨by decide +kernel, by decide +kernel⟩, List.mem_of_getElem? (i := 757) (by decide +kernel), List.mem_of_getElem? (i := 998) (by decide +kernel), List.mem_of_getElem? (i := 999) (by decide +kernel)⟩
theorem lw_p29 : lw_okq (⟨"FallChainModel", "saves", "(I)V"⟩, 53) := ⟨⟨by decide +kernel, by decide +kernel⟩, List.mem_of_getElem? (i := 757) (by decide +kernel), List.mem_of_getElem? (i := 1021) (by decide +kernel), List.mem_of_getElem? (i := 1022) (by decide +kernel)⟩
theorem lw_p30 : lw_okq (⟨"FallChainModel", "cell", "(II)I"⟩, 53) := ⟨⟨by decide +kernel, by decide +kernel⟩, List.mem_of_getElem? (i := 757) (by decide +kernel), List.mem_of_getElem? (i := 1025) (by decide +kernel), List.mem_of_getElem? (i := 1026) (by decide +kernel)⟩
theorem lw_p31 : lw_okq (⟨"FallChainModel", "comes", "(IIII)Z"⟩, 53) := ⟨⟨by decide +kernel, by decide +kernel⟩, List.mem_of_getElem? (i := 757) (by decide +kernel), List.mem_of_getElem? (i := 1029) (by decide +kernel), List.mem_of_getElem? (i := 1030) (by decide +kernel)⟩
def lw_privs_2 : List (MethodName × Nat) := [(⟨"FallChain", "addWeak", "(I)V"⟩, 16), (⟨"FallChain", "addFit", "(I)V"⟩, 16), (⟨"FallChain", "meetsWhole", "([ZII)Z"⟩, 16), (⟨"FallChain", "findPiece", "([ZII)I"⟩, 16), (⟨"FallChain", "placeChoice", "([ZI)Z"⟩, 16), (⟨"FallChain", "addFewest", "(I)V"⟩, 16), (⟨"FallChainModel", "refuse", "(I)I"⟩, 53), (⟨"FallChainModel", "canPut", "(IIII)Z"⟩, 53), (⟨"FallChainModel", "lays", "(IIII)V"⟩, 53), (⟨"FallChainModel", "isFree", "(I)Z"⟩, 53), (⟨"FallChainModel", "canBall", "(I)Z"⟩, 53), (⟨"FallChainModel", "rowless", "(I)I"⟩, 53), (⟨"FallChainModel", "isRow", "(I)Z"⟩, 53), (⟨"FallChainModel", "saves", "(I)V"⟩, 53), (⟨"FallChainModel", "cell", "(II)I"⟩, 53), (⟨"FallChainModel", "comes", "(IIII)Z"⟩, 53)]
theorem lw_r2 : ∀ q ∈ lw_privs_2, lw_okq q := List.forall_mem_cons.mpr ⟨lw_p16, List.forall_mem_cons.mpr ⟨lw_p17, List.forall_mem_cons.mpr ⟨lw_p18, List.forall_mem_cons.mpr ⟨lw_p19, List.forall_mem_cons.mpr ⟨lw_p20, List.forall_mem_cons.mpr ⟨lw_p21, List.forall_mem_cons.mpr ⟨lw_p22, List.forall_mem_cons.mpr ⟨lw_p23, List.forall_mem_cons.mpr ⟨lw_p24, List.forall_mem_cons.mpr ⟨lw_p25, List.forall_mem_cons.mpr ⟨lw_p26, List.forall_mem_cons.mpr ⟨lw_p27, List.forall_mem_cons.mpr ⟨lw_p28, List.forall_mem_cons.mpr ⟨lw_p29, List.forall_mem_cons.mpr ⟨lw_p30, List.forall_mem_cons.mpr ⟨lw_p31, fun _ h => absurd h List.not_mem_nil⟩⟩⟩⟩⟩⟩⟩⟩⟩⟩⟩⟩⟩⟩⟩⟩
theorem lw_p32 : lw_okq (⟨"FallChainModel", "loads", "(I)V"⟩, 53) := ⟨⟨by decide +kernel, by decide +kernel⟩, List.mem_of_getElem? (i := 757) (by decide +kernel), List.mem_of_getElem? (i := 1033) (by decide +kernel), List.mem_of_getElem? (i := 1034) (by decide +kernel)⟩
theorem lw_p33 : lw_okq (⟨"FallChainModel", "pieces", "(I)I"⟩, 53) := ⟨⟨by decide +kernel, by decide +kernel⟩, List.mem_of_getElem? (i := 757) (by decide +kernel), List.mem_of_getElem? (i := 1041) (by decide +kernel), List.mem_of_getElem? (i := 1042) (by decide +kernel)⟩
theorem lw_p34 : lw_okq (⟨"FallChainModel", "runs", "(I)V"⟩, 53) := ⟨⟨by decide +kernel, by decide +kernel⟩, List.mem_of_getElem? (i := 757) (by decide +kernel), List.mem_of_getElem? (i := 1053) (by decide +kernel), List.mem_of_getElem? (i := 1054) (by decide +kernel)⟩
theorem lw_p35 : lw_okq (⟨"FallChainModel", "begins", "()V"⟩, 53) := ⟨⟨by decide +kernel, by decide +kernel⟩, List.mem_of_getElem? (i := 757) (by decide +kernel), List.mem_of_getElem? (i := 1057) (by decide +kernel), List.mem_of_getElem? (i := 1058) (by decide +kernel)⟩
theorem lw_p36 : lw_okq (⟨"FallChainModel", "sets", "(IIIIZ)V"⟩, 53) := ⟨⟨by decide +kernel, by decide +kernel⟩, List.mem_of_getElem? (i := 757) (by decide +kernel), List.mem_of_getElem? (i := 1061) (by decide +kernel), List.mem_of_getElem? (i := 1062) (by decide +kernel)⟩
theorem lw_p37 : lw_okq (⟨"FallChainModel", "isFull", "()Z"⟩, 53) := ⟨⟨by decide +kernel, by decide +kernel⟩, List.mem_of_getElem? (i := 757) (by decide +kernel), List.mem_of_getElem? (i := 1065) (by decide +kernel), List.mem_of_getElem? (i := 1066) (by decide +kernel)⟩
theorem lw_p38 : lw_okq (⟨"FallChainModel", "doesSet", "(I)V"⟩, 53) := ⟨⟨by decide +kernel, by decide +kernel⟩, List.mem_of_getElem? (i := 757) (by decide +kernel), List.mem_of_getElem? (i := 1069) (by decide +kernel), List.mem_of_getElem? (i := 1070) (by decide +kernel)⟩
theorem lw_p39 : lw_okq (⟨"FallChainModel", "hasSome", "(I)Z"⟩, 53) := ⟨⟨by decide +kernel, by decide +kernel⟩, List.mem_of_getElem? (i := 757) (by decide +kernel), List.mem_of_getElem? (i := 1073) (by decide +kernel), List.mem_of_getElem? (i := 1074) (by decide +kernel)⟩
theorem lw_p40 : lw_okq (⟨"FallChainModel", "strikes", "(IIIZ)V"⟩, 53) := ⟨⟨by decide +kernel, by decide +kernel⟩, List.mem_of_getElem? (i := 757) (by decide +kernel), List.mem_of_getElem? (i := 1080) (by decide +kernel), List.mem_of_getElem? (i := 1081) (by decide +kernel)⟩
theorem lw_p41 : lw_okq (⟨"FallChainModel", "rollsOff", "(IIII)V"⟩, 53) := ⟨⟨by decide +kernel, by decide +kernel⟩, List.mem_of_getElem? (i := 757) (by decide +kernel), List.mem_of_getElem? (i := 1084) (by decide +kernel), List.mem_of_getElem? (i := 1085) (by decide +kernel)⟩
theorem lw_p42 : lw_okq (⟨"FallChainModel", "works", "(III)V"⟩, 53) := ⟨⟨by decide +kernel, by decide +kernel⟩, List.mem_of_getElem? (i := 757) (by decide +kernel), List.mem_of_getElem? (i := 1088) (by decide +kernel), List.mem_of_getElem? (i := 1089) (by decide +kernel)⟩
theorem lw_p43 : lw_okq (⟨"FallChainModel", "leads", "(III)V"⟩, 53) := ⟨⟨by decide +kernel, by decide +kernel⟩, List.mem_of_getElem? (i := 757) (by decide +kernel), List.mem_of_getElem? (i := 1092) (by decide +kernel), List.mem_of_getElem? (i := 1093) (by decide +kernel)⟩
theorem lw_p44 : lw_okq (⟨"FallChainModel", "rollsOn", "(I)V"⟩, 53) := ⟨⟨by decide +kernel, by decide +kernel⟩, List.mem_of_getElem? (i := 757) (by decide +kernel), List.mem_of_getElem? (i := 1096) (by decide +kernel), List.mem_of_getElem? (i := 1097) (by decide +kernel)⟩
theorem lw_p45 : lw_okq (⟨"FallChainModel", "isBell", "(I)Z"⟩, 53) := ⟨⟨by decide +kernel, by decide +kernel⟩, List.mem_of_getElem? (i := 757) (by decide +kernel), List.mem_of_getElem? (i := 1123) (by decide +kernel), List.mem_of_getElem? (i := 1124) (by decide +kernel)⟩
theorem lw_p46 : lw_okq (⟨"FallChainModel", "isMet", "(III)Z"⟩, 53) := ⟨⟨by decide +kernel, by decide +kernel⟩, List.mem_of_getElem? (i := 757) (by decide +kernel), List.mem_of_getElem? (i := 1127) (by decide +kernel), List.mem_of_getElem? (i := 1128) (by decide +kernel)⟩
theorem lw_p47 : lw_okq (⟨"FallChainModel", "tryShift", "(IIII)V"⟩, 53) := ⟨⟨by decide +kernel, by decide +kernel⟩, List.mem_of_getElem? (i := 757) (by decide +kernel), List.mem_of_getElem? (i := 1136) (by decide +kernel), List.mem_of_getElem? (i := 1137) (by decide +kernel)⟩
def lw_privs_3 : List (MethodName × Nat) := [(⟨"FallChainModel", "loads", "(I)V"⟩, 53), (⟨"FallChainModel", "pieces", "(I)I"⟩, 53), (⟨"FallChainModel", "runs", "(I)V"⟩, 53), (⟨"FallChainModel", "begins", "()V"⟩, 53), (⟨"FallChainModel", "sets", "(IIIIZ)V"⟩, 53), (⟨"FallChainModel", "isFull", "()Z"⟩, 53), (⟨"FallChainModel", "doesSet", "(I)V"⟩, 53), (⟨"FallChainModel", "hasSome", "(I)Z"⟩, 53), (⟨"FallChainModel", "strikes", "(IIIZ)V"⟩, 53), (⟨"FallChainModel", "rollsOff", "(IIII)V"⟩, 53), (⟨"FallChainModel", "works", "(III)V"⟩, 53), (⟨"FallChainModel", "leads", "(III)V"⟩, 53), (⟨"FallChainModel", "rollsOn", "(I)V"⟩, 53), (⟨"FallChainModel", "isBell", "(I)Z"⟩, 53), (⟨"FallChainModel", "isMet", "(III)Z"⟩, 53), (⟨"FallChainModel", "tryShift", "(IIII)V"⟩, 53)]
theorem lw_r3 : ∀ q ∈ lw_privs_3, lw_okq q := List.forall_mem_cons.mpr ⟨lw_p32, List.forall_mem_cons.mpr ⟨lw_p33, List.forall_mem_cons.mpr ⟨lw_p34, List.forall_mem_cons.mpr ⟨lw_p35, List.forall_mem_cons.mpr ⟨lw_p36, List.forall_mem_cons.mpr ⟨lw_p37, List.forall_mem_cons.mpr ⟨lw_p38, List.forall_mem_cons.mpr ⟨lw_p39, List.forall_mem_cons.mpr ⟨lw_p40, List.forall_mem_cons.mpr ⟨lw_p41, List.forall_mem_cons.mpr ⟨lw_p42, List.forall_mem_cons.mpr ⟨lw_p43, List.forall_mem_cons.mpr ⟨lw_p44, List.forall_mem_cons.mpr ⟨lw_p45, List.forall_mem_cons.mpr ⟨lw_p46, List.forall_mem_cons.mpr ⟨lw_p47, fun _ h => absurd h List.not_mem_nil⟩⟩⟩⟩⟩⟩⟩⟩⟩⟩⟩⟩⟩⟩⟩⟩
theorem lw_p48 : lw_okq (⟨"FallChainModel", "movePiece", "(II)V"⟩, 53) := ⟨⟨by decide +kernel, by decide +kernel⟩, List.mem_of_getElem? (i := 757) (by decide +kernel), List.mem_of_getElem? (i := 1140) (by decide +kernel), List.mem_of_getElem? (i := 1141) (by decide +kernel)⟩
theorem lw_p49 : lw_okq (⟨"FallChainModel", "tryFit", "(IIIIII)V"⟩, 53) := ⟨⟨by decide +kernel, by decide +kernel⟩, List.mem_of_getElem? (i := 757) (by decide +kernel), List.mem_of_getElem? (i := 1152) (by decide +kernel), List.mem_of_getElem? (i := 1153) (by decide +kernel)⟩
theorem lw_p50 : lw_okq (⟨"FallChainModel", "findOne", "(IIII)Z"⟩, 53) := ⟨⟨by decide +kernel, by decide +kernel⟩, List.mem_of_getElem? (i := 757) (by decide +kernel), List.mem_of_getElem? (i := 1164) (by decide +kernel), List.mem_of_getElem? (i := 1165) (by decide +kernel)⟩
theorem lw_p51 : lw_okq (⟨"FallChainModel", "putsOne", "(II)I"⟩, 53) := ⟨⟨by decide +kernel, by decide +kernel⟩, List.mem_of_getElem? (i := 757) (by decide +kernel), List.mem_of_getElem? (i := 1168) (by decide +kernel), List.mem_of_getElem? (i := 1169) (by decide +kernel)⟩
theorem lw_p52 : lw_okq (⟨"FallChainModel", "findTwo", "(II)Z"⟩, 53) := ⟨⟨by decide +kernel, by decide +kernel⟩, List.mem_of_getElem? (i := 757) (by decide +kernel), List.mem_of_getElem? (i := 1172) (by decide +kernel), List.mem_of_getElem? (i := 1173) (by decide +kernel)⟩
theorem lw_p53 : lw_okq (⟨"FallChainModel", "isRing", "(I)Z"⟩, 53) := ⟨⟨by decide +kernel, by decide +kernel⟩, List.mem_of_getElem? (i := 757) (by decide +kernel), List.mem_of_getElem? (i := 1184) (by decide +kernel), List.mem_of_getElem? (i := 1185) (by decide +kernel)⟩
theorem lw_p54 : lw_okq (⟨"FallChainModel", "balls", "()I"⟩, 53) := ⟨⟨by decide +kernel, by decide +kernel⟩, List.mem_of_getElem? (i := 757) (by decide +kernel), List.mem_of_getElem? (i := 1192) (by decide +kernel), List.mem_of_getElem? (i := 1193) (by decide +kernel)⟩
def lw_privs_4 : List (MethodName × Nat) := [(⟨"FallChainModel", "movePiece", "(II)V"⟩, 53), (⟨"FallChainModel", "tryFit", "(IIIIII)V"⟩, 53), (⟨"FallChainModel", "findOne", "(IIII)Z"⟩, 53), (⟨"FallChainModel", "putsOne", "(II)I"⟩, 53), (⟨"FallChainModel", "findTwo", "(II)Z"⟩, 53), (⟨"FallChainModel", "isRing", "(I)Z"⟩, 53), (⟨"FallChainModel", "balls", "()I"⟩, 53)]
theorem lw_r4 : ∀ q ∈ lw_privs_4, lw_okq q := List.forall_mem_cons.mpr ⟨lw_p48, List.forall_mem_cons.mpr ⟨lw_p49, List.forall_mem_cons.mpr ⟨lw_p50, List.forall_mem_cons.mpr ⟨lw_p51, List.forall_mem_cons.mpr ⟨lw_p52, List.forall_mem_cons.mpr ⟨lw_p53, List.forall_mem_cons.mpr ⟨lw_p54, fun _ h => absurd h List.not_mem_nil⟩⟩⟩⟩⟩⟩⟩
def lw_privs : List (MethodName × Nat) := lw_privs_1 ++ (lw_privs_2 ++ (lw_privs_3 ++ (lw_privs_4)))
def lw_tbl : List Cond := k2_sels lw_privs ++ tables_1
theorem lw_privs_ok : ∀ q ∈ lw_privs, lw_okq q := by
  show ∀ q ∈ lw_privs_1 ++ (lw_privs_2 ++ (lw_privs_3 ++ (lw_privs_4))), lw_okq q
  exact List.forall_mem_append.mpr ⟨lw_r1, List.forall_mem_append.mpr ⟨lw_r2, List.forall_mem_append.mpr ⟨lw_r3, lw_r4⟩⟩⟩
-- ===== end of PART A; then your names; then what follows =====
/-! ===== BEGIN words of one list among another's, by their places ===== -/
theorem goodIn_r {big : List Cond} (ws : List Cond) (ps : List Nat) (hp : ws = ps.filterMap (fun i => big[i]?)) (h : ws.all goodWord = true) : GoodIn big ws := by
  intro w hw
  have h1 := List.all_eq_true.mp h w hw
  rw [hp] at hw
  obtain ⟨i, -, hi⟩ := List.mem_filterMap.mp hw
  have hm : w ∈ big := by first | exact List.mem_of_getElem? hi | exact List.getElem?_mem hi
  exact ⟨hm, good_of_word h1⟩
theorem goodIn_app {big a b : List Cond} (ha : GoodIn big a) (hb : GoodIn big b) : GoodIn big (a ++ b) := fun w h => (List.mem_append.mp h).elim (ha w) (hb w)
theorem goodIn_ca {big a b : List Cond} {c : Cond} (ha : GoodIn big (c :: a)) (hb : GoodIn big b) : GoodIn big (c :: (a ++ b)) := fun w h => (List.mem_cons.mp h).elim (fun e => ha w (List.mem_cons.mpr (Or.inl e))) (fun h => (List.mem_append.mp h).elim (fun h => ha w (List.mem_cons.mpr (Or.inr h))) (hb w))
theorem goodIn_sub {big ws : List Cond} (hm : ∀ w ∈ ws, w ∈ big) (h : ws.all goodWord = true) : GoodIn big ws := fun w hw => ⟨hm w hw, good_of_word (List.all_eq_true.mp h w hw)⟩
def RX0 : String := "FallChain$Balls"
def TX0 : u_T := fun k => match k with
  | 0 => ("FallChain$Balls", "numbers", "[I", true)
  | 1 => ("FallChain$Balls", "cells", "[I", true)
  | 2 => ("FallChain$Balls", "ways", "[I", true)
  | 3 => ("FallChain$Balls", "steps", "[I", true)
  | 4 => ("FallChain$Balls", "causes", "[I", true)
  | 5 => ("FallChain$Balls", "due", "[Z", true)
  | 6 => ("FallChain$Balls", "count", "I", false)
  | 7 => ("FallChain$Balls", "rolling", "I", false)
  | _ => ("FallChain$Balls", "gone", "I", false)
def tyX0 : Nat → FieldType := fun k => match k with
  | 0 => .array .int
  | 1 => .array .int
  | 2 => .array .int
  | 3 => .array .int
  | 4 => .array .int
  | 5 => .array .boolean
  | 6 => .int
  | 7 => .int
  | _ => .int
theorem nmX0 : ∀ a, a < 9 → ∀ b, b < 9 → a ≠ b → (TX0 a).2.1 ≠ (TX0 b).2.1 := by decide +kernel
theorem tyX0_ok : ∀ k, k < 9 → parseFieldDescriptor (TX0 k).2.2.1 = some (tyX0 k) := by decide +kernel
abbrev cX0_init : ByteArray := prog_2_method_1_code
def yX0_init : MethodName := ⟨RX0, "<init>", "()V"⟩
abbrev cX0_lay : ByteArray := prog_2_method_2_code
def yX0_lay : MethodName := ⟨RX0, "lay", "(LFallChain$Plan;)V"⟩
abbrev cX0_has : ByteArray := prog_2_method_3_code
def yX0_has : MethodName := ⟨RX0, "has", "(I)Z"⟩
abbrev cX0_numberIn : ByteArray := prog_2_method_4_code
def yX0_numberIn : MethodName := ⟨RX0, "numberIn", "(I)I"⟩
abbrev cX0_noteDue : ByteArray := prog_2_method_5_code
def yX0_noteDue : MethodName := ⟨RX0, "noteDue", "()V"⟩
abbrev cX0_isDue : ByteArray := prog_2_method_6_code
def yX0_isDue : MethodName := ⟨RX0, "isDue", "(I)Z"⟩
abbrev cX0_push : ByteArray := prog_2_method_7_code
def yX0_push : MethodName := ⟨RX0, "push", "(III)V"⟩
abbrev cX0_lie : ByteArray := prog_2_method_8_code
def yX0_lie : MethodName := ⟨RX0, "lie", "(I)V"⟩
abbrev cX0_leave : ByteArray := prog_2_method_9_code
def yX0_leave : MethodName := ⟨RX0, "leave", "(I)V"⟩
abbrev cX0_enter : ByteArray := prog_2_method_10_code
def yX0_enter : MethodName := ⟨RX0, "enter", "(III)V"⟩
def RX1 : String := "FallChain$Calendar"
def TX1 : u_T := fun k => match k with
  | 0 => ("FallChain$Calendar", "firsts", "[I", true)
  | 1 => ("FallChain$Calendar", "lasts", "[I", true)
  | 2 => ("FallChain$Calendar", "nexts", "[I", true)
  | 3 => ("FallChain$Calendar", "places", "[I", true)
  | 4 => ("FallChain$Calendar", "causes", "[I", true)
  | 5 => ("FallChain$Calendar", "leaps", "[Z", true)
  | 6 => ("FallChain$Calendar", "size", "I", false)
  | _ => ("FallChain$Calendar", "waiting", "I", false)
def tyX1 : Nat → FieldType := fun k => match k with
  | 0 => .array .int
  | 1 => .array .int
  | 2 => .array .int
  | 3 => .array .int
  | 4 => .array .int
  | 5 => .array .boolean
  | 6 => .int
  | _ => .int
theorem nmX1 : ∀ a, a < 8 → ∀ b, b < 8 → a ≠ b → (TX1 a).2.1 ≠ (TX1 b).2.1 := by decide +kernel
theorem tyX1_ok : ∀ k, k < 8 → parseFieldDescriptor (TX1 k).2.2.1 = some (tyX1 k) := by decide +kernel
abbrev cX1_init : ByteArray := prog_3_method_1_code
def yX1_init : MethodName := ⟨RX1, "<init>", "()V"⟩
abbrev cX1_empty : ByteArray := prog_3_method_2_code
def yX1_empty : MethodName := ⟨RX1, "empty", "()V"⟩
abbrev cX1_add : ByteArray := prog_3_method_3_code
def yX1_add : MethodName := ⟨RX1, "add", "(IIIZ)V"⟩
abbrev cX1_firstOf : ByteArray := prog_3_method_4_code
def yX1_firstOf : MethodName := ⟨RX1, "firstOf", "(I)I"⟩
abbrev cX1_has : ByteArray := prog_3_method_5_code
def yX1_has : MethodName := ⟨RX1, "has", "(I)Z"⟩
def RX2 : String := "FallChain$Log"
def TX2 : u_T := fun k => match k with
  | 0 => ("FallChain$Log", "tick", "[I", true)
  | 1 => ("FallChain$Log", "place", "[I", true)
  | 2 => ("FallChain$Log", "cause", "[I", true)
  | 3 => ("FallChain$Log", "how", "[I", true)
  | _ => ("FallChain$Log", "count", "I", false)
def tyX2 : Nat → FieldType := fun k => match k with
  | 0 => .array .int
  | 1 => .array .int
  | 2 => .array .int
  | 3 => .array .int
  | _ => .int
theorem nmX2 : ∀ a, a < 5 → ∀ b, b < 5 → a ≠ b → (TX2 a).2.1 ≠ (TX2 b).2.1 := by decide +kernel
theorem tyX2_ok : ∀ k, k < 5 → parseFieldDescriptor (TX2 k).2.2.1 = some (tyX2 k) := by decide +kernel
abbrev cX2_init : ByteArray := prog_4_method_1_code
def yX2_init : MethodName := ⟨RX2, "<init>", "(I)V"⟩
abbrev cX2_tells : ByteArray := prog_4_method_2_code
def yX2_tells : MethodName := ⟨RX2, "tells", "(I)Z"⟩
abbrev cX2_isSo : ByteArray := prog_4_method_3_code
def yX2_isSo : MethodName := ⟨RX2, "isSo", "(II)Z"⟩
abbrev cX2_add : ByteArray := prog_4_method_4_code
def yX2_add : MethodName := ⟨RX2, "add", "(IIII)V"⟩
abbrev cX2_firstRingOf : ByteArray := prog_4_method_5_code
def yX2_firstRingOf : MethodName := ⟨RX2, "firstRingOf", "(I)I"⟩
abbrev cX2_causesOf : ByteArray := prog_4_method_6_code
def yX2_causesOf : MethodName := ⟨RX2, "causesOf", "(I)I"⟩
abbrev cX2_causeBefore : ByteArray := prog_4_method_7_code
def yX2_causeBefore : MethodName := ⟨RX2, "causeBefore", "(II)I"⟩
def RX3 : String := "FallChain$Plan"
def TX3 : u_T := fun k => match k with
  | 0 => ("FallChain$Plan", "kinds", "[I", true)
  | 1 => ("FallChain$Plan", "as", "[I", true)
  | 2 => ("FallChain$Plan", "bs", "[I", true)
  | 3 => ("FallChain$Plan", "others", "[I", true)
  | 4 => ("FallChain$Plan", "balls", "[Z", true)
  | 5 => ("FallChain$Plan", "startCells", "[I", true)
  | 6 => ("FallChain$Plan", "startSides", "[I", true)
  | 7 => ("FallChain$Plan", "startTicks", "[I", true)
  | _ => ("FallChain$Plan", "starts", "I", false)
def tyX3 : Nat → FieldType := fun k => match k with
  | 0 => .array .int
  | 1 => .array .int
  | 2 => .array .int
  | 3 => .array .int
  | 4 => .array .boolean
  | 5 => .array .int
  | 6 => .array .int
  | 7 => .array .int
  | _ => .int
theorem nmX3 : ∀ a, a < 9 → ∀ b, b < 9 → a ≠ b → (TX3 a).2.1 ≠ (TX3 b).2.1 := by decide +kernel
theorem tyX3_ok : ∀ k, k < 9 → parseFieldDescriptor (TX3 k).2.2.1 = some (tyX3 k) := by decide +kernel
abbrev cX3_init : ByteArray := prog_5_method_1_code
def yX3_init : MethodName := ⟨RX3, "<init>", "()V"⟩
abbrev cX3_become : ByteArray := prog_5_method_2_code
def yX3_become : MethodName := ⟨RX3, "become", "(LFallChain$Plan;)V"⟩
abbrev cX3_kindOf : ByteArray := prog_5_method_3_code
def yX3_kindOf : MethodName := ⟨RX3, "kindOf", "(I)I"⟩
abbrev cX3_aOf : ByteArray := prog_5_method_4_code
def yX3_aOf : MethodName := ⟨RX3, "aOf", "(I)I"⟩
abbrev cX3_bOf : ByteArray := prog_5_method_5_code
def yX3_bOf : MethodName := ⟨RX3, "bOf", "(I)I"⟩
abbrev cX3_otherOf : ByteArray := prog_5_method_6_code
def yX3_otherOf : MethodName := ⟨RX3, "otherOf", "(I)I"⟩
abbrev cX3_hasBall : ByteArray := prog_5_method_7_code
def yX3_hasBall : MethodName := ⟨RX3, "hasBall", "(I)Z"⟩
abbrev cX3_isFree : ByteArray := prog_5_method_8_code
def yX3_isFree : MethodName := ⟨RX3, "isFree", "(I)Z"⟩
abbrev cX3_isMovable : ByteArray := prog_5_method_9_code
def yX3_isMovable : MethodName := ⟨RX3, "isMovable", "(I)Z"⟩
abbrev cX3_isEnd : ByteArray := prog_5_method_10_code
def yX3_isEnd : MethodName := ⟨RX3, "isEnd", "(II)Z"⟩
abbrev cX3_takesPiece : ByteArray := prog_5_method_11_code
def yX3_takesPiece : MethodName := ⟨RX3, "takesPiece", "(IIII)Z"⟩
abbrev cX3_takesBall : ByteArray := prog_5_method_12_code
def yX3_takesBall : MethodName := ⟨RX3, "takesBall", "(I)Z"⟩
abbrev cX3_place : ByteArray := prog_5_method_13_code
def yX3_place : MethodName := ⟨RX3, "place", "(IIII)V"⟩
abbrev cX3_tie : ByteArray := prog_5_method_14_code
def yX3_tie : MethodName := ⟨RX3, "tie", "(III)V"⟩
abbrev cX3_layBall : ByteArray := prog_5_method_15_code
def yX3_layBall : MethodName := ⟨RX3, "layBall", "(I)V"⟩
abbrev cX3_clear : ByteArray := prog_5_method_16_code
def yX3_clear : MethodName := ⟨RX3, "clear", "(I)V"⟩
abbrev cX3_move : ByteArray := prog_5_method_17_code
def yX3_move : MethodName := ⟨RX3, "move", "(II)V"⟩
abbrev cX3_addStart : ByteArray := prog_5_method_18_code
def yX3_addStart : MethodName := ⟨RX3, "addStart", "(III)Z"⟩
abbrev cX3_countPieces : ByteArray := prog_5_method_19_code
def yX3_countPieces : MethodName := ⟨RX3, "countPieces", "()I"⟩
abbrev cX3_countBells : ByteArray := prog_5_method_20_code
def yX3_countBells : MethodName := ⟨RX3, "countBells", "()I"⟩
abbrev cX3_countBalls : ByteArray := prog_5_method_21_code
def yX3_countBalls : MethodName := ⟨RX3, "countBalls", "()I"⟩
def RX4 : String := "FallChain$Row"
def TX4 : u_T := fun k => match k with
  | 0 => ("FallChain$Row", "sort", "I", true)
  | _ => ("FallChain$Row", "elements", "[J", true)
def tyX4 : Nat → FieldType := fun k => match k with
  | 0 => .int
  | _ => .array .long
theorem nmX4 : ∀ a, a < 2 → ∀ b, b < 2 → a ≠ b → (TX4 a).2.1 ≠ (TX4 b).2.1 := by decide +kernel
theorem tyX4_ok : ∀ k, k < 2 → parseFieldDescriptor (TX4 k).2.2.1 = some (tyX4 k) := by decide +kernel
abbrev cX4_init : ByteArray := prog_6_method_1_code
def yX4_init : MethodName := ⟨RX4, "<init>", "(II)V"⟩
abbrev cX4_size : ByteArray := prog_6_method_2_code
def yX4_size : MethodName := ⟨RX4, "size", "()I"⟩
abbrev cX4_holdsPart : ByteArray := prog_6_method_3_code
def yX4_holdsPart : MethodName := ⟨RX4, "holdsPart", "(II)Z"⟩
abbrev cX4_change : ByteArray := prog_6_method_4_code
def yX4_change : MethodName := ⟨RX4, "change", "(IJ)V"⟩
abbrev cX4_valueOf : ByteArray := prog_6_method_5_code
def yX4_valueOf : MethodName := ⟨RX4, "valueOf", "(I)J"⟩
abbrev cX4_intOf : ByteArray := prog_6_method_6_code
def yX4_intOf : MethodName := ⟨RX4, "intOf", "(I)I"⟩
abbrev cX4_lowestBits : ByteArray := prog_6_method_7_code
def yX4_lowestBits : MethodName := ⟨RX4, "lowestBits", "(J)J"⟩
def RX5 : String := "FallChain$Run"
def TX5 : u_T := fun k => match k with
  | 0 => ("FallChain$Run", "calendar", "LFallChain$Calendar;", true)
  | 1 => ("FallChain$Run", "log", "LFallChain$Log;", true)
  | 2 => ("FallChain$Run", "balls", "LFallChain$Balls;", true)
  | 3 => ("FallChain$Run", "hits", "[I", true)
  | 4 => ("FallChain$Run", "rings", "[I", true)
  | 5 => ("FallChain$Run", "firstRing", "[I", true)
  | 6 => ("FallChain$Run", "changed", "[Z", true)
  | 7 => ("FallChain$Run", "lostOn", "[Z", true)
  | 8 => ("FallChain$Run", "plan", "LFallChain$Plan;", false)
  | 9 => ("FallChain$Run", "tick", "I", false)
  | 10 => ("FallChain$Run", "end", "I", false)
  | 11 => ("FallChain$Run", "lost", "I", false)
  | _ => ("FallChain$Run", "rang", "I", false)
def tyX5 : Nat → FieldType := fun k => match k with
  | 0 => .object "FallChain$Calendar"
  | 1 => .object "FallChain$Log"
  | 2 => .object "FallChain$Balls"
  | 3 => .array .int
  | 4 => .array .int
  | 5 => .array .int
  | 6 => .array .boolean
  | 7 => .array .boolean
  | 8 => .object "FallChain$Plan"
  | 9 => .int
  | 10 => .int
  | 11 => .int
  | _ => .int
theorem nmX5 : ∀ a, a < 13 → ∀ b, b < 13 → a ≠ b → (TX5 a).2.1 ≠ (TX5 b).2.1 := by decide +kernel
theorem tyX5_ok : ∀ k, k < 13 → parseFieldDescriptor (TX5 k).2.2.1 = some (tyX5 k) := by decide +kernel
abbrev cX5_init : ByteArray := prog_7_method_1_code
def yX5_init : MethodName := ⟨RX5, "<init>", "(LFallChain$Plan;LFallChain$Calendar;LFallChain$Log;)V"⟩
abbrev cX5_play : ByteArray := prog_7_method_2_code
def yX5_play : MethodName := ⟨RX5, "play", "(LFallChain$Plan;II)Z"⟩
abbrev cX5_meets : ByteArray := prog_7_method_3_code
def yX5_meets : MethodName := ⟨RX5, "meets", "(II)Z"⟩
abbrev cX5_begin : ByteArray := prog_7_method_4_code
def yX5_begin : MethodName := ⟨RX5, "begin", "(LFallChain$Plan;)V"⟩
abbrev cX5_isOver : ByteArray := prog_7_method_5_code
def yX5_isOver : MethodName := ⟨RX5, "isOver", "()Z"⟩
abbrev cX5_isKnown : ByteArray := prog_7_method_6_code
def yX5_isKnown : MethodName := ⟨RX5, "isKnown", "(II)Z"⟩
abbrev cX5_doStrikesSet : ByteArray := prog_7_method_7_code
def yX5_doStrikesSet : MethodName := ⟨RX5, "doStrikesSet", "()V"⟩
abbrev cX5_landing : ByteArray := prog_7_method_8_code
def yX5_landing : MethodName := ⟨RX5, "landing", "(IIZ)I"⟩
abbrev cX5_isVoid : ByteArray := prog_7_method_9_code
def yX5_isVoid : MethodName := ⟨RX5, "isVoid", "(I)Z"⟩
abbrev cX5_rollBalls : ByteArray := prog_7_method_10_code
def yX5_rollBalls : MethodName := ⟨RX5, "rollBalls", "()V"⟩
abbrev cX5_isOpen : ByteArray := prog_7_method_11_code
def yX5_isOpen : MethodName := ⟨RX5, "isOpen", "(II)Z"⟩
abbrev cX5_wayOn : ByteArray := prog_7_method_12_code
def yX5_wayOn : MethodName := ⟨RX5, "wayOn", "(II)I"⟩
abbrev cX5_note : ByteArray := prog_7_method_13_code
def yX5_note : MethodName := ⟨RX5, "note", "(IIII)I"⟩
abbrev cX5_work : ByteArray := prog_7_method_14_code
def yX5_work : MethodName := ⟨RX5, "work", "(III)V"⟩
abbrev cX5_setStrike : ByteArray := prog_7_method_15_code
def yX5_setStrike : MethodName := ⟨RX5, "setStrike", "(IIIIZ)V"⟩
def RX6 : String := "FallChain"
def TX6 : u_T := fun k => match k with
  | 0 => ("FallChain", "plan", "LFallChain$Plan;", true)
  | 1 => ("FallChain", "draft", "LFallChain$Plan;", true)
  | 2 => ("FallChain", "rows", "[LFallChain$Row;", true)
  | 3 => ("FallChain", "plans", "[LFallChain$Plan;", true)
  | 4 => ("FallChain", "latest", "LFallChain$Run;", true)
  | 5 => ("FallChain", "trial", "LFallChain$Run;", true)
  | 6 => ("FallChain", "runs", "I", false)
  | 7 => ("FallChain", "refused", "[I", true)
  | 8 => ("FallChain", "weakShifts", "[I", true)
  | 9 => ("FallChain", "weakCount", "I", false)
  | 10 => ("FallChain", "fitPieces", "[I", true)
  | 11 => ("FallChain", "fitCount", "I", false)
  | 12 => ("FallChain", "fewestPieces", "[I", true)
  | 13 => ("FallChain", "fewestCount", "I", false)
  | 14 => ("FallChain", "lostFirst", "[Z", true)
  | _ => ("FallChain", "lostNext", "[Z", true)
def tyX6 : Nat → FieldType := fun k => match k with
  | 0 => .object "FallChain$Plan"
  | 1 => .object "FallChain$Plan"
  | 2 => .array (.object "FallChain$Row")
  | 3 => .array (.object "FallChain$Plan")
  | 4 => .object "FallChain$Run"
  | 5 => .object "FallChain$Run"
  | 6 => .int
  | 7 => .array .int
  | 8 => .array .int
  | 9 => .int
  | 10 => .array .int
  | 11 => .int
  | 12 => .array .int
  | 13 => .int
  | 14 => .array .boolean
  | _ => .array .boolean
theorem nmX6 : ∀ a, a < 16 → ∀ b, b < 16 → a ≠ b → (TX6 a).2.1 ≠ (TX6 b).2.1 := by decide +kernel
theorem tyX6_ok : ∀ k, k < 16 → parseFieldDescriptor (TX6 k).2.2.1 = some (tyX6 k) := by decide +kernel
abbrev cX6_init : ByteArray := prog_1_method_1_code
def yX6_init : MethodName := ⟨RX6, "<init>", "()V"⟩
abbrev cX6_put : ByteArray := prog_1_method_2_code
def yX6_put : MethodName := ⟨RX6, "put", "(IIII)I"⟩
abbrev cX6_cords : ByteArray := prog_1_method_3_code
def yX6_cords : MethodName := ⟨RX6, "cords", "(IIII)I"⟩
abbrev cX6_ball : ByteArray := prog_1_method_4_code
def yX6_ball : MethodName := ⟨RX6, "ball", "(I)I"⟩
abbrev cX6_raze : ByteArray := prog_1_method_5_code
def yX6_raze : MethodName := ⟨RX6, "raze", "(I)I"⟩
abbrev cX6_start : ByteArray := prog_1_method_6_code
def yX6_start : MethodName := ⟨RX6, "start", "(III)I"⟩
abbrev cX6_noStarts : ByteArray := prog_1_method_7_code
def yX6_noStarts : MethodName := ⟨RX6, "noStarts", "()I"⟩
abbrev cX6_at : ByteArray := prog_1_method_8_code
def yX6_at : MethodName := ⟨RX6, "at", "(II)I"⟩
abbrev cX6_status : ByteArray := prog_1_method_9_code
def yX6_status : MethodName := ⟨RX6, "status", "(I)I"⟩
abbrev cX6_row : ByteArray := prog_1_method_10_code
def yX6_row : MethodName := ⟨RX6, "row", "(III)I"⟩
abbrev cX6_set : ByteArray := prog_1_method_11_code
def yX6_set : MethodName := ⟨RX6, "set", "(IIJ)I"⟩
abbrev cX6_copy : ByteArray := prog_1_method_12_code
def yX6_copy : MethodName := ⟨RX6, "copy", "(IIIII)I"⟩
abbrev cX6_element : ByteArray := prog_1_method_13_code
def yX6_element : MethodName := ⟨RX6, "element", "(II)J"⟩
abbrev cX6_holds : ByteArray := prog_1_method_14_code
def yX6_holds : MethodName := ⟨RX6, "holds", "(I)I"⟩
abbrev cX6_puts : ByteArray := prog_1_method_15_code
def yX6_puts : MethodName := ⟨RX6, "puts", "(I)I"⟩
abbrev cX6_keep : ByteArray := prog_1_method_16_code
def yX6_keep : MethodName := ⟨RX6, "keep", "(I)I"⟩
abbrev cX6_load : ByteArray := prog_1_method_17_code
def yX6_load : MethodName := ⟨RX6, "load", "(I)I"⟩
abbrev cX6_run : ByteArray := prog_1_method_18_code
def yX6_run : MethodName := ⟨RX6, "run", "()I"⟩
abbrev cX6_ran : ByteArray := prog_1_method_19_code
def yX6_ran : MethodName := ⟨RX6, "ran", "(I)I"⟩
abbrev cX6_strike : ByteArray := prog_1_method_20_code
def yX6_strike : MethodName := ⟨RX6, "strike", "(II)I"⟩
abbrev cX6_ended : ByteArray := prog_1_method_21_code
def yX6_ended : MethodName := ⟨RX6, "ended", "(II)I"⟩
abbrev cX6_why : ByteArray := prog_1_method_22_code
def yX6_why : MethodName := ⟨RX6, "why", "(II)I"⟩
abbrev cX6_tune : ByteArray := prog_1_method_23_code
def yX6_tune : MethodName := ⟨RX6, "tune", "(I)I"⟩
abbrev cX6_met : ByteArray := prog_1_method_24_code
def yX6_met : MethodName := ⟨RX6, "met", "(II)Z"⟩
abbrev cX6_fragile : ByteArray := prog_1_method_25_code
def yX6_fragile : MethodName := ⟨RX6, "fragile", "(II)I"⟩
abbrev cX6_weak : ByteArray := prog_1_method_26_code
def yX6_weak : MethodName := ⟨RX6, "weak", "(I)I"⟩
abbrev cX6_fits : ByteArray := prog_1_method_27_code
def yX6_fits : MethodName := ⟨RX6, "fits", "(III)I"⟩
abbrev cX6_fit : ByteArray := prog_1_method_28_code
def yX6_fit : MethodName := ⟨RX6, "fit", "(I)I"⟩
abbrev cX6_fewest : ByteArray := prog_1_method_29_code
def yX6_fewest : MethodName := ⟨RX6, "fewest", "(II)I"⟩
abbrev cX6_fewestPiece : ByteArray := prog_1_method_30_code
def yX6_fewestPiece : MethodName := ⟨RX6, "fewestPiece", "(I)I"⟩
abbrev cX6_refuse : ByteArray := prog_1_method_31_code
def yX6_refuse : MethodName := ⟨RX6, "refuse", "(I)I"⟩
abbrev cX6_rowOn : ByteArray := prog_1_method_32_code
def yX6_rowOn : MethodName := ⟨RX6, "rowOn", "(I)LFallChain$Row;"⟩
abbrev cX6_whyNoRow : ByteArray := prog_1_method_33_code
def yX6_whyNoRow : MethodName := ⟨RX6, "whyNoRow", "(I)I"⟩
abbrev cX6_draftTakes : ByteArray := prog_1_method_34_code
def yX6_draftTakes : MethodName := ⟨RX6, "draftTakes", "(IIII)Z"⟩
abbrev cX6_addWeak : ByteArray := prog_1_method_35_code
def yX6_addWeak : MethodName := ⟨RX6, "addWeak", "(I)V"⟩
abbrev cX6_addFit : ByteArray := prog_1_method_36_code
def yX6_addFit : MethodName := ⟨RX6, "addFit", "(I)V"⟩
abbrev cX6_meetsWhole : ByteArray := prog_1_method_37_code
def yX6_meetsWhole : MethodName := ⟨RX6, "meetsWhole", "([ZII)Z"⟩
abbrev cX6_findPiece : ByteArray := prog_1_method_38_code
def yX6_findPiece : MethodName := ⟨RX6, "findPiece", "([ZII)I"⟩
abbrev cX6_placeChoice : ByteArray := prog_1_method_39_code
def yX6_placeChoice : MethodName := ⟨RX6, "placeChoice", "([ZI)Z"⟩
abbrev cX6_addFewest : ByteArray := prog_1_method_40_code
def yX6_addFewest : MethodName := ⟨RX6, "addFewest", "(I)V"⟩
abbrev cX6_choiceKind : ByteArray := prog_1_method_41_code
def yX6_choiceKind : MethodName := ⟨RX6, "choiceKind", "(I)I"⟩
abbrev cX6_choiceA : ByteArray := prog_1_method_42_code
def yX6_choiceA : MethodName := ⟨RX6, "choiceA", "(I)I"⟩
abbrev cX6_isCell : ByteArray := prog_1_method_43_code
def yX6_isCell : MethodName := ⟨RX6, "isCell", "(I)Z"⟩
abbrev cX6_isSide : ByteArray := prog_1_method_44_code
def yX6_isSide : MethodName := ⟨RX6, "isSide", "(I)Z"⟩
abbrev cX6_isShelf : ByteArray := prog_1_method_45_code
def yX6_isShelf : MethodName := ⟨RX6, "isShelf", "(I)Z"⟩
abbrev cX6_opposite : ByteArray := prog_1_method_46_code
def yX6_opposite : MethodName := ⟨RX6, "opposite", "(I)I"⟩
abbrev cX6_beside : ByteArray := prog_1_method_47_code
def yX6_beside : MethodName := ⟨RX6, "beside", "(II)I"⟩
abbrev cX6_countsA : ByteArray := prog_1_method_48_code
def yX6_countsA : MethodName := ⟨RX6, "countsA", "(I)Z"⟩
abbrev cX6_countsB : ByteArray := prog_1_method_49_code
def yX6_countsB : MethodName := ⟨RX6, "countsB", "(I)Z"⟩
abbrev cX6_isRightA : ByteArray := prog_1_method_50_code
def yX6_isRightA : MethodName := ⟨RX6, "isRightA", "(II)Z"⟩
abbrev cX6_isRightB : ByteArray := prog_1_method_51_code
def yX6_isRightB : MethodName := ⟨RX6, "isRightB", "(II)Z"⟩
abbrev cX6_mostA : ByteArray := prog_1_method_52_code
def yX6_mostA : MethodName := ⟨RX6, "mostA", "(I)I"⟩
abbrev cX6_leastB : ByteArray := prog_1_method_53_code
def yX6_leastB : MethodName := ⟨RX6, "leastB", "(I)I"⟩
abbrev cX6_mostFitB : ByteArray := prog_1_method_54_code
def yX6_mostFitB : MethodName := ⟨RX6, "mostFitB", "(I)I"⟩
def RX7 : String := "FallChainModel"
def TX7 : u_T := fun k => match k with
  | 0 => ("FallChainModel", "refusals", "[I", true)
  | 1 => ("FallChainModel", "kind", "[I", true)
  | 2 => ("FallChainModel", "a", "[I", true)
  | 3 => ("FallChainModel", "b", "[I", true)
  | 4 => ("FallChainModel", "mate", "[I", true)
  | 5 => ("FallChainModel", "ball", "[Z", true)
  | 6 => ("FallChainModel", "starts", "I", false)
  | 7 => ("FallChainModel", "startCell", "[I", true)
  | 8 => ("FallChainModel", "startSide", "[I", true)
  | 9 => ("FallChainModel", "startTick", "[I", true)
  | 10 => ("FallChainModel", "runs", "I", false)
  | 11 => ("FallChainModel", "shelf", "[I", true)
  | 12 => ("FallChainModel", "size", "[I", true)
  | 13 => ("FallChainModel", "cells", "[J", true)
  | 14 => ("FallChainModel", "moved", "[J", true)
  | 15 => ("FallChainModel", "plans", "[I", true)
  | 16 => ("FallChainModel", "planStarts", "[I", true)
  | 17 => ("FallChainModel", "setCell", "[I", true)
  | 18 => ("FallChainModel", "setSide", "[I", true)
  | 19 => ("FallChainModel", "setCause", "[I", true)
  | 20 => ("FallChainModel", "setReaches", "[Z", true)
  | 21 => ("FallChainModel", "setNext", "[I", true)
  | 22 => ("FallChainModel", "firstSet", "[I", true)
  | 23 => ("FallChainModel", "lastSet", "[I", true)
  | 24 => ("FallChainModel", "sets", "I", false)
  | 25 => ("FallChainModel", "waiting", "I", false)
  | 26 => ("FallChainModel", "now", "I", false)
  | 27 => ("FallChainModel", "times", "[I", true)
  | 28 => ("FallChainModel", "isDown", "[Z", true)
  | 29 => ("FallChainModel", "ballOn", "[I", true)
  | 30 => ("FallChainModel", "ballMany", "I", false)
  | 31 => ("FallChainModel", "ballAt", "[I", true)
  | 32 => ("FallChainModel", "rolls", "[I", true)
  | 33 => ("FallChainModel", "steps", "[I", true)
  | 34 => ("FallChainModel", "ballCause", "[I", true)
  | 35 => ("FallChainModel", "wasRolling", "[Z", true)
  | 36 => ("FallChainModel", "told", "[I", true)
  | 37 => ("FallChainModel", "strikeOf", "[I", true)
  | 38 => ("FallChainModel", "firstRing", "[I", true)
  | 39 => ("FallChainModel", "ringStrike", "[I", true)
  | 40 => ("FallChainModel", "rings", "[I", true)
  | 41 => ("FallChainModel", "struck", "[I", true)
  | 42 => ("FallChainModel", "endBall", "[Z", true)
  | 43 => ("FallChainModel", "endDown", "[Z", true)
  | 44 => ("FallChainModel", "lostOn", "[Z", true)
  | 45 => ("FallChainModel", "bank", "I", false)
  | 46 => ("FallChainModel", "weak", "[I", true)
  | 47 => ("FallChainModel", "weakMany", "I", false)
  | 48 => ("FallChainModel", "fit", "[I", true)
  | 49 => ("FallChainModel", "fitMany", "I", false)
  | 50 => ("FallChainModel", "fewest", "[I", true)
  | 51 => ("FallChainModel", "fewestMany", "I", false)
  | _ => ("FallChainModel", "lostFirst", "[Z", true)
def tyX7 : Nat → FieldType := fun k => match k with
  | 0 => .array .int
  | 1 => .array .int
  | 2 => .array .int
  | 3 => .array .int
  | 4 => .array .int
  | 5 => .array .boolean
  | 6 => .int
  | 7 => .array .int
  | 8 => .array .int
  | 9 => .array .int
  | 10 => .int
  | 11 => .array .int
  | 12 => .array .int
  | 13 => .array .long
  | 14 => .array .long
  | 15 => .array .int
  | 16 => .array .int
  | 17 => .array .int
  | 18 => .array .int
  | 19 => .array .int
  | 20 => .array .boolean
  | 21 => .array .int
  | 22 => .array .int
  | 23 => .array .int
  | 24 => .int
  | 25 => .int
  | 26 => .int
  | 27 => .array .int
  | 28 => .array .boolean
  | 29 => .array .int
  | 30 => .int
  | 31 => .array .int
  | 32 => .array .int
  | 33 => .array .int
  | 34 => .array .int
  | 35 => .array .boolean
  | 36 => .array .int
  | 37 => .array .int
  | 38 => .array .int
  | 39 => .array .int
  | 40 => .array .int
  | 41 => .array .int
  | 42 => .array .boolean
  | 43 => .array .boolean
  | 44 => .array .boolean
  | 45 => .int
  | 46 => .array .int
  | 47 => .int
  | 48 => .array .int
  | 49 => .int
  | 50 => .array .int
  | 51 => .int
  | _ => .array .boolean
theorem nmX7 : ∀ a, a < 53 → ∀ b, b < 53 → a ≠ b → (TX7 a).2.1 ≠ (TX7 b).2.1 := by decide +kernel
theorem tyX7_ok : ∀ k, k < 53 → parseFieldDescriptor (TX7 k).2.2.1 = some (tyX7 k) := by decide +kernel
abbrev cX7_init : ByteArray := prog_9_method_1_code
def yX7_init : MethodName := ⟨RX7, "<init>", "()V"⟩
abbrev cX7_in : ByteArray := prog_9_method_3_code
def yX7_in : MethodName := ⟨RX7, "in", "(III)Z"⟩
abbrev cX7_refuse : ByteArray := prog_9_method_4_code
def yX7_refuse : MethodName := ⟨RX7, "refuse", "(I)I"⟩
abbrev cX7_isCell : ByteArray := prog_9_method_5_code
def yX7_isCell : MethodName := ⟨RX7, "isCell", "(I)Z"⟩
abbrev cX7_next : ByteArray := prog_9_method_6_code
def yX7_next : MethodName := ⟨RX7, "next", "(II)I"⟩
abbrev cX7_isLed : ByteArray := prog_9_method_7_code
def yX7_isLed : MethodName := ⟨RX7, "isLed", "(I)Z"⟩
abbrev cX7_areEnds : ByteArray := prog_9_method_8_code
def yX7_areEnds : MethodName := ⟨RX7, "areEnds", "(I)Z"⟩
abbrev cX7_isFree : ByteArray := prog_9_method_9_code
def yX7_isFree : MethodName := ⟨RX7, "isFree", "(I)Z"⟩
abbrev cX7_canPut : ByteArray := prog_9_method_10_code
def yX7_canPut : MethodName := ⟨RX7, "canPut", "(IIII)Z"⟩
abbrev cX7_lays : ByteArray := prog_9_method_11_code
def yX7_lays : MethodName := ⟨RX7, "lays", "(IIII)V"⟩
abbrev cX7_put : ByteArray := prog_9_method_12_code
def yX7_put : MethodName := ⟨RX7, "put", "(IIII)I"⟩
abbrev cX7_cords : ByteArray := prog_9_method_13_code
def yX7_cords : MethodName := ⟨RX7, "cords", "(IIII)I"⟩
abbrev cX7_canBall : ByteArray := prog_9_method_14_code
def yX7_canBall : MethodName := ⟨RX7, "canBall", "(I)Z"⟩
abbrev cX7_ball : ByteArray := prog_9_method_15_code
def yX7_ball : MethodName := ⟨RX7, "ball", "(I)I"⟩
abbrev cX7_raze : ByteArray := prog_9_method_16_code
def yX7_raze : MethodName := ⟨RX7, "raze", "(I)I"⟩
abbrev cX7_start : ByteArray := prog_9_method_17_code
def yX7_start : MethodName := ⟨RX7, "start", "(III)I"⟩
abbrev cX7_noStarts : ByteArray := prog_9_method_18_code
def yX7_noStarts : MethodName := ⟨RX7, "noStarts", "()I"⟩
abbrev cX7_pieces : ByteArray := prog_9_method_19_code
def yX7_pieces : MethodName := ⟨RX7, "pieces", "(I)I"⟩
abbrev cX7_balls : ByteArray := prog_9_method_20_code
def yX7_balls : MethodName := ⟨RX7, "balls", "()I"⟩
abbrev cX7_at : ByteArray := prog_9_method_21_code
def yX7_at : MethodName := ⟨RX7, "at", "(II)I"⟩
abbrev cX7_isShelf : ByteArray := prog_9_method_22_code
def yX7_isShelf : MethodName := ⟨RX7, "isShelf", "(I)Z"⟩
abbrev cX7_isRow : ByteArray := prog_9_method_23_code
def yX7_isRow : MethodName := ⟨RX7, "isRow", "(I)Z"⟩
abbrev cX7_rowless : ByteArray := prog_9_method_24_code
def yX7_rowless : MethodName := ⟨RX7, "rowless", "(I)I"⟩
abbrev cX7_lowest : ByteArray := prog_9_method_25_code
def yX7_lowest : MethodName := ⟨RX7, "lowest", "(IJ)J"⟩
abbrev cX7_row : ByteArray := prog_9_method_26_code
def yX7_row : MethodName := ⟨RX7, "row", "(III)I"⟩
abbrev cX7_set : ByteArray := prog_9_method_27_code
def yX7_set : MethodName := ⟨RX7, "set", "(IIJ)I"⟩
abbrev cX7_copy : ByteArray := prog_9_method_28_code
def yX7_copy : MethodName := ⟨RX7, "copy", "(IIIII)I"⟩
abbrev cX7_element : ByteArray := prog_9_method_29_code
def yX7_element : MethodName := ⟨RX7, "element", "(II)J"⟩
abbrev cX7_holds : ByteArray := prog_9_method_30_code
def yX7_holds : MethodName := ⟨RX7, "holds", "(I)I"⟩
abbrev cX7_cell : ByteArray := prog_9_method_31_code
def yX7_cell : MethodName := ⟨RX7, "cell", "(II)I"⟩
abbrev cX7_saves : ByteArray := prog_9_method_32_code
def yX7_saves : MethodName := ⟨RX7, "saves", "(I)V"⟩
abbrev cX7_loads : ByteArray := prog_9_method_33_code
def yX7_loads : MethodName := ⟨RX7, "loads", "(I)V"⟩
abbrev cX7_comes : ByteArray := prog_9_method_34_code
def yX7_comes : MethodName := ⟨RX7, "comes", "(IIII)Z"⟩
abbrev cX7_puts : ByteArray := prog_9_method_35_code
def yX7_puts : MethodName := ⟨RX7, "puts", "(I)I"⟩
abbrev cX7_keep : ByteArray := prog_9_method_36_code
def yX7_keep : MethodName := ⟨RX7, "keep", "(I)I"⟩
abbrev cX7_load : ByteArray := prog_9_method_37_code
def yX7_load : MethodName := ⟨RX7, "load", "(I)I"⟩
abbrev cX7_sets : ByteArray := prog_9_method_38_code
def yX7_sets : MethodName := ⟨RX7, "sets", "(IIIIZ)V"⟩
abbrev cX7_hasSome : ByteArray := prog_9_method_39_code
def yX7_hasSome : MethodName := ⟨RX7, "hasSome", "(I)Z"⟩
abbrev cX7_leads : ByteArray := prog_9_method_40_code
def yX7_leads : MethodName := ⟨RX7, "leads", "(III)V"⟩
abbrev cX7_strikes : ByteArray := prog_9_method_41_code
def yX7_strikes : MethodName := ⟨RX7, "strikes", "(IIIZ)V"⟩
abbrev cX7_rollsOff : ByteArray := prog_9_method_42_code
def yX7_rollsOff : MethodName := ⟨RX7, "rollsOff", "(IIII)V"⟩
abbrev cX7_works : ByteArray := prog_9_method_43_code
def yX7_works : MethodName := ⟨RX7, "works", "(III)V"⟩
abbrev cX7_rollsOn : ByteArray := prog_9_method_44_code
def yX7_rollsOn : MethodName := ⟨RX7, "rollsOn", "(I)V"⟩
abbrev cX7_other : ByteArray := prog_9_method_45_code
def yX7_other : MethodName := ⟨RX7, "other", "(II)I"⟩
abbrev cX7_begins : ByteArray := prog_9_method_46_code
def yX7_begins : MethodName := ⟨RX7, "begins", "()V"⟩
abbrev cX7_isFull : ByteArray := prog_9_method_47_code
def yX7_isFull : MethodName := ⟨RX7, "isFull", "()Z"⟩
abbrev cX7_doesSet : ByteArray := prog_9_method_48_code
def yX7_doesSet : MethodName := ⟨RX7, "doesSet", "(I)V"⟩
abbrev cX7_runs : ByteArray := prog_9_method_49_code
def yX7_runs : MethodName := ⟨RX7, "runs", "(I)V"⟩
abbrev cX7_run : ByteArray := prog_9_method_50_code
def yX7_run : MethodName := ⟨RX7, "run", "()I"⟩
abbrev cX7_ran : ByteArray := prog_9_method_51_code
def yX7_ran : MethodName := ⟨RX7, "ran", "(I)I"⟩
abbrev cX7_strike : ByteArray := prog_9_method_52_code
def yX7_strike : MethodName := ⟨RX7, "strike", "(II)I"⟩
abbrev cX7_ended : ByteArray := prog_9_method_53_code
def yX7_ended : MethodName := ⟨RX7, "ended", "(II)I"⟩
abbrev cX7_why : ByteArray := prog_9_method_54_code
def yX7_why : MethodName := ⟨RX7, "why", "(II)I"⟩
abbrev cX7_isMet : ByteArray := prog_9_method_55_code
def yX7_isMet : MethodName := ⟨RX7, "isMet", "(III)Z"⟩
abbrev cX7_isBell : ByteArray := prog_9_method_56_code
def yX7_isBell : MethodName := ⟨RX7, "isBell", "(I)Z"⟩
abbrev cX7_met : ByteArray := prog_9_method_57_code
def yX7_met : MethodName := ⟨RX7, "met", "(II)Z"⟩
abbrev cX7_movePiece : ByteArray := prog_9_method_58_code
def yX7_movePiece : MethodName := ⟨RX7, "movePiece", "(II)V"⟩
abbrev cX7_tryShift : ByteArray := prog_9_method_59_code
def yX7_tryShift : MethodName := ⟨RX7, "tryShift", "(IIII)V"⟩
abbrev cX7_fragile : ByteArray := prog_9_method_60_code
def yX7_fragile : MethodName := ⟨RX7, "fragile", "(II)I"⟩
abbrev cX7_weak : ByteArray := prog_9_method_61_code
def yX7_weak : MethodName := ⟨RX7, "weak", "(I)I"⟩
abbrev cX7_tryFit : ByteArray := prog_9_method_62_code
def yX7_tryFit : MethodName := ⟨RX7, "tryFit", "(IIIIII)V"⟩
abbrev cX7_fits : ByteArray := prog_9_method_63_code
def yX7_fits : MethodName := ⟨RX7, "fits", "(III)I"⟩
abbrev cX7_fit : ByteArray := prog_9_method_64_code
def yX7_fit : MethodName := ⟨RX7, "fit", "(I)I"⟩
abbrev cX7_putsOne : ByteArray := prog_9_method_65_code
def yX7_putsOne : MethodName := ⟨RX7, "putsOne", "(II)I"⟩
abbrev cX7_findOne : ByteArray := prog_9_method_66_code
def yX7_findOne : MethodName := ⟨RX7, "findOne", "(IIII)Z"⟩
abbrev cX7_findTwo : ByteArray := prog_9_method_67_code
def yX7_findTwo : MethodName := ⟨RX7, "findTwo", "(II)Z"⟩
abbrev cX7_fewest : ByteArray := prog_9_method_68_code
def yX7_fewest : MethodName := ⟨RX7, "fewest", "(II)I"⟩
abbrev cX7_fewestPiece : ByteArray := prog_9_method_69_code
def yX7_fewestPiece : MethodName := ⟨RX7, "fewestPiece", "(I)I"⟩
abbrev cX7_tune : ByteArray := prog_9_method_70_code
def yX7_tune : MethodName := ⟨RX7, "tune", "(I)I"⟩
abbrev cX7_isRing : ByteArray := prog_9_method_71_code
def yX7_isRing : MethodName := ⟨RX7, "isRing", "(I)Z"⟩
abbrev cX7_status : ByteArray := prog_9_method_72_code
def yX7_status : MethodName := ⟨RX7, "status", "(I)I"⟩
def RJ6 : String := "java/lang/Integer"
def TJ6 : u_T := fun k => match k with
  | _ => ("", "", "", false)
def tyJ6 : Nat → FieldType := fun k => match k with
  | _ => .int
theorem nmJ6 : ∀ a, a < 0 → ∀ b, b < 0 → a ≠ b → (TJ6 a).2.1 ≠ (TJ6 b).2.1 := by decide +kernel
theorem tyJ6_ok : ∀ k, k < 0 → parseFieldDescriptor (TJ6 k).2.2.1 = some (tyJ6 k) := by decide +kernel
abbrev cJ6_bitCount_0f7a4 : ByteArray := prog_10_method_49_code
def yJ6_bitCount_0f7a4 : MethodName := ⟨RJ6, "bitCount", "(I)I"⟩
def RJ10 : String := "java/lang/System"
def TJ10 : u_T := fun k => match k with
  | _ => ("", "", "", false)
def tyJ10 : Nat → FieldType := fun k => match k with
  | _ => .int
theorem nmJ10 : ∀ a, a < 0 → ∀ b, b < 0 → a ≠ b → (TJ10 a).2.1 ≠ (TJ10 b).2.1 := by decide +kernel
theorem tyJ10_ok : ∀ k, k < 0 → parseFieldDescriptor (TJ10 k).2.2.1 = some (tyJ10 k) := by decide +kernel
def RL : String := "FallChainLaw"
abbrev cL_law : ByteArray := code
def yL_law : MethodName := ⟨RL, "law", "([I)Z"⟩
