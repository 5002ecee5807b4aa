section
-- ===== PART A: goes FIRST, ahead of the names: the tables' words, and 'selects' of the private methods out of them =====
/-- a private method of a class that the tables say can be made, by its rows of tables_1 -/
def lw_okq (q : MethodName × Nat) : Prop := (q.1.cls ≠ "java/lang/invoke/MethodHandle" ∧ q.1.cls ≠ "java/lang/invoke/VarHandle") ∧ Cond.instantiable q.1.cls q.2 ∈ tables_1 ∧ Cond.privateMethod q.1 ∈ tables_1 ∧ Cond.instanceMethod q.1 ∈ tables_1
theorem lw_p0 : lw_okq (⟨"TickCircuits", "circuitAt", "(I)LTickCircuits$Circuit;"⟩, 12) := ⟨⟨by decide +kernel, by decide +kernel⟩, List.mem_of_getElem? (i := 14) (by decide +kernel), List.mem_of_getElem? (i := 241) (by decide +kernel), List.mem_of_getElem? (i := 242) (by decide +kernel)⟩
theorem lw_p1 : lw_okq (⟨"TickCircuits$History", "dropOldest", "()V"⟩, 2) := ⟨⟨by decide +kernel, by decide +kernel⟩, List.mem_of_getElem? (i := 142) (by decide +kernel), List.mem_of_getElem? (i := 257) (by decide +kernel), List.mem_of_getElem? (i := 258) (by decide +kernel)⟩
theorem lw_p2 : lw_okq (⟨"TickCircuits", "tellStates", "(LTickCircuits$Circuit;I)I"⟩, 12) := ⟨⟨by decide +kernel, by decide +kernel⟩, List.mem_of_getElem? (i := 14) (by decide +kernel), List.mem_of_getElem? (i := 332) (by decide +kernel), List.mem_of_getElem? (i := 333) (by decide +kernel)⟩
theorem lw_p3 : lw_okq (⟨"TickCircuits$StepTable", "statesBehindAny", "(I)I"⟩, 3) := ⟨⟨by decide +kernel, by decide +kernel⟩, List.mem_of_getElem? (i := 64) (by decide +kernel), List.mem_of_getElem? (i := 380) (by decide +kernel), List.mem_of_getElem? (i := 381) (by decide +kernel)⟩
theorem lw_p4 : lw_okq (⟨"TickCircuits$AlikeStates", "findUnlike", "(LTickCircuits$StepTable;)V"⟩, 1) := ⟨⟨by decide +kernel, by decide +kernel⟩, List.mem_of_getElem? (i := 130) (by decide +kernel), List.mem_of_getElem? (i := 397) (by decide +kernel), List.mem_of_getElem? (i := 398) (by decide +kernel)⟩
theorem lw_p5 : lw_okq (⟨"TickCircuits$AlikeStates", "unlikeTo", "(ILTickCircuits$StepTable;)I"⟩, 1) := ⟨⟨by decide +kernel, by decide +kernel⟩, List.mem_of_getElem? (i := 130) (by decide +kernel), List.mem_of_getElem? (i := 408) (by decide +kernel), List.mem_of_getElem? (i := 409) (by decide +kernel)⟩
theorem lw_p6 : lw_okq (⟨"TickCircuits$AlikeStates", "leadToUnlike", "(IILTickCircuits$StepTable;)Z"⟩, 1) := ⟨⟨by decide +kernel, by decide +kernel⟩, List.mem_of_getElem? (i := 130) (by decide +kernel), List.mem_of_getElem? (i := 416) (by decide +kernel), List.mem_of_getElem? (i := 417) (by decide +kernel)⟩
theorem lw_p7 : lw_okq (⟨"TickCircuits$Circuit", "gateOnWire", "(I)I"⟩, 4) := ⟨⟨by decide +kernel, by decide +kernel⟩, List.mem_of_getElem? (i := 22) (by decide +kernel), List.mem_of_getElem? (i := 432) (by decide +kernel), List.mem_of_getElem? (i := 433) (by decide +kernel)⟩
theorem lw_p8 : lw_okq (⟨"TickCircuits", "walkWith", "(LTickCircuits$Circuit;)V"⟩, 12) := ⟨⟨by decide +kernel, by decide +kernel⟩, List.mem_of_getElem? (i := 14) (by decide +kernel), List.mem_of_getElem? (i := 476) (by decide +kernel), List.mem_of_getElem? (i := 477) (by decide +kernel)⟩
theorem lw_p9 : lw_okq (⟨"TickCircuits$PairWalk", "meet", "(IIII)V"⟩, 7) := ⟨⟨by decide +kernel, by decide +kernel⟩, List.mem_of_getElem? (i := 82) (by decide +kernel), List.mem_of_getElem? (i := 489) (by decide +kernel), List.mem_of_getElem? (i := 490) (by decide +kernel)⟩
theorem lw_p10 : lw_okq (⟨"TickCircuits", "differingInputs", "(I)I"⟩, 12) := ⟨⟨by decide +kernel, by decide +kernel⟩, List.mem_of_getElem? (i := 14) (by decide +kernel), List.mem_of_getElem? (i := 514) (by decide +kernel), List.mem_of_getElem? (i := 515) (by decide +kernel)⟩
theorem lw_p11 : lw_okq (⟨"TickCircuits", "firstPairApart", "()I"⟩, 12) := ⟨⟨by decide +kernel, by decide +kernel⟩, List.mem_of_getElem? (i := 14) (by decide +kernel), List.mem_of_getElem? (i := 532) (by decide +kernel), List.mem_of_getElem? (i := 533) (by decide +kernel)⟩
theorem lw_p12 : lw_okq (⟨"TickCircuits$LateWalk", "meet", "(III)V"⟩, 3) := ⟨⟨by decide +kernel, by decide +kernel⟩, List.mem_of_getElem? (i := 112) (by decide +kernel), List.mem_of_getElem? (i := 548) (by decide +kernel), List.mem_of_getElem? (i := 549) (by decide +kernel)⟩
theorem lw_p13 : lw_okq (⟨"TickCircuits$LateWalk", "step", "(IIILTickCircuits$StepTable;LTickCircuits$StepTable;)Z"⟩, 3) := ⟨⟨by decide +kernel, by decide +kernel⟩, List.mem_of_getElem? (i := 112) (by decide +kernel), List.mem_of_getElem? (i := 554) (by decide +kernel), List.mem_of_getElem? (i := 555) (by decide +kernel)⟩
theorem lw_p14 : lw_okq (⟨"TickCircuits$LateWalk", "forgetAll", "()V"⟩, 3) := ⟨⟨by decide +kernel, by decide +kernel⟩, List.mem_of_getElem? (i := 112) (by decide +kernel), List.mem_of_getElem? (i := 561) (by decide +kernel), List.mem_of_getElem? (i := 562) (by decide +kernel)⟩
theorem lw_p15 : lw_okq (⟨"TickCircuits", "neverApart", "(LTickCircuits$Circuit;)Z"⟩, 12) := ⟨⟨by decide +kernel, by decide +kernel⟩, List.mem_of_getElem? (i := 14) (by decide +kernel), List.mem_of_getElem? (i := 573) (by decide +kernel), List.mem_of_getElem? (i := 574) (by decide +kernel)⟩
def lw_privs_1 : List (MethodName × Nat) := [(⟨"TickCircuits", "circuitAt", "(I)LTickCircuits$Circuit;"⟩, 12), (⟨"TickCircuits$History", "dropOldest", "()V"⟩, 2), (⟨"TickCircuits", "tellStates", "(LTickCircuits$Circuit;I)I"⟩, 12), (⟨"TickCircuits$StepTable", "statesBehindAny", "(I)I"⟩, 3), (⟨"TickCircuits$AlikeStates", "findUnlike", "(LTickCircuits$StepTable;)V"⟩, 1), (⟨"TickCircuits$AlikeStates", "unlikeTo", "(ILTickCircuits$StepTable;)I"⟩, 1), (⟨"TickCircuits$AlikeStates", "leadToUnlike", "(IILTickCircuits$StepTable;)Z"⟩, 1), (⟨"TickCircuits$Circuit", "gateOnWire", "(I)I"⟩, 4), (⟨"TickCircuits", "walkWith", "(LTickCircuits$Circuit;)V"⟩, 12), (⟨"TickCircuits$PairWalk", "meet", "(IIII)V"⟩, 7), (⟨"TickCircuits", "differingInputs", "(I)I"⟩, 12), (⟨"TickCircuits", "firstPairApart", "()I"⟩, 12), (⟨"TickCircuits$LateWalk", "meet", "(III)V"⟩, 3), (⟨"TickCircuits$LateWalk", "step", "(IIILTickCircuits$StepTable;LTickCircuits$StepTable;)Z"⟩, 3), (⟨"TickCircuits$LateWalk", "forgetAll", "()V"⟩, 3), (⟨"TickCircuits", "neverApart", "(LTickCircuits$Circuit;)Z"⟩, 12)]
theorem lw_r1 : ∀ q ∈ lw_privs_1, lw_okq q := List.forall_mem_cons.mpr ⟨lw_p0, List.forall_mem_cons.mpr ⟨lw_p1, List.forall_mem_cons.mpr ⟨lw_p2, List.forall_mem_cons.mpr ⟨lw_p3, List.forall_mem_cons.mpr ⟨lw_p4, List.forall_mem_cons.mpr ⟨lw_p5, List.forall_mem_cons.mpr ⟨lw_p6, List.forall_mem_cons.mpr ⟨lw_p7, List.forall_mem_cons.mpr ⟨lw_p8, List.forall_mem_cons.mpr ⟨lw_p9, List.forall_mem_cons.mpr ⟨lw_p10, List.forall_mem_cons.mpr ⟨lw_p11, List.forall_mem_cons.mpr ⟨lw_p12, List.forall_mem_cons.mpr ⟨lw_p13, List.forall_mem_cons.mpr ⟨lw_p14, List.forall_mem_cons.mpr ⟨lw_p15, fun _ h => absurd h List.not_mem_nil⟩⟩⟩⟩⟩⟩⟩⟩⟩⟩⟩⟩⟩⟩⟩⟩
theorem lw_p16 : lw_okq (⟨"TickCircuits$Reader", "readPart", "(LTickCircuits$Text;)V"⟩, 4) := ⟨⟨by decide +kernel, by decide +kernel⟩, List.mem_of_getElem? (i := 172) (by decide +kernel), List.mem_of_getElem? (i := 625) (by decide +kernel), List.mem_of_getElem? (i := 626) (by decide +kernel)⟩
theorem lw_p17 : lw_okq (⟨"TickCircuits$Reader", "readRegister", "(LTickCircuits$Text;)V"⟩, 4) := ⟨⟨by decide +kernel, by decide +kernel⟩, List.mem_of_getElem? (i := 172) (by decide +kernel), List.mem_of_getElem? (i := 634) (by decide +kernel), List.mem_of_getElem? (i := 635) (by decide +kernel)⟩
theorem lw_p18 : lw_okq (⟨"TickCircuits$Reader", "digitAt", "(LTickCircuits$Text;I)I"⟩, 4) := ⟨⟨by decide +kernel, by decide +kernel⟩, List.mem_of_getElem? (i := 172) (by decide +kernel), List.mem_of_getElem? (i := 638) (by decide +kernel), List.mem_of_getElem? (i := 639) (by decide +kernel)⟩
theorem lw_p19 : lw_okq (⟨"TickCircuits$Reader", "partEndsAt", "(LTickCircuits$Text;I)Z"⟩, 4) := ⟨⟨by decide +kernel, by decide +kernel⟩, List.mem_of_getElem? (i := 172) (by decide +kernel), List.mem_of_getElem? (i := 644) (by decide +kernel), List.mem_of_getElem? (i := 645) (by decide +kernel)⟩
theorem lw_p20 : lw_okq (⟨"TickCircuits$Reader", "readOutput", "(LTickCircuits$Text;)V"⟩, 4) := ⟨⟨by decide +kernel, by decide +kernel⟩, List.mem_of_getElem? (i := 172) (by decide +kernel), List.mem_of_getElem? (i := 650) (by decide +kernel), List.mem_of_getElem? (i := 651) (by decide +kernel)⟩
theorem lw_p21 : lw_okq (⟨"TickCircuits$Reader", "readGate", "(LTickCircuits$Text;)V"⟩, 4) := ⟨⟨by decide +kernel, by decide +kernel⟩, List.mem_of_getElem? (i := 172) (by decide +kernel), List.mem_of_getElem? (i := 655) (by decide +kernel), List.mem_of_getElem? (i := 656) (by decide +kernel)⟩
theorem lw_p22 : lw_okq (⟨"TickCircuitsModel", "of", "(II)I"⟩, 23) := ⟨⟨by decide +kernel, by decide +kernel⟩, List.mem_of_getElem? (i := 678) (by decide +kernel), List.mem_of_getElem? (i := 765) (by decide +kernel), List.mem_of_getElem? (i := 766) (by decide +kernel)⟩
theorem lw_p23 : lw_okq (⟨"TickCircuitsModel", "keeps", "()V"⟩, 23) := ⟨⟨by decide +kernel, by decide +kernel⟩, List.mem_of_getElem? (i := 678) (by decide +kernel), List.mem_of_getElem? (i := 774) (by decide +kernel), List.mem_of_getElem? (i := 775) (by decide +kernel)⟩
theorem lw_p24 : lw_okq (⟨"TickCircuitsModel", "acted", "(I)I"⟩, 23) := ⟨⟨by decide +kernel, by decide +kernel⟩, List.mem_of_getElem? (i := 678) (by decide +kernel), List.mem_of_getElem? (i := 778) (by decide +kernel), List.mem_of_getElem? (i := 779) (by decide +kernel)⟩
theorem lw_p25 : lw_okq (⟨"TickCircuitsModel", "lights", "(III)V"⟩, 23) := ⟨⟨by decide +kernel, by decide +kernel⟩, List.mem_of_getElem? (i := 678) (by decide +kernel), List.mem_of_getElem? (i := 803) (by decide +kernel), List.mem_of_getElem? (i := 804) (by decide +kernel)⟩
theorem lw_p26 : lw_okq (⟨"TickCircuitsModel", "then", "(III)I"⟩, 23) := ⟨⟨by decide +kernel, by decide +kernel⟩, List.mem_of_getElem? (i := 678) (by decide +kernel), List.mem_of_getElem? (i := 814) (by decide +kernel), List.mem_of_getElem? (i := 815) (by decide +kernel)⟩
theorem lw_p27 : lw_okq (⟨"TickCircuitsModel", "first", "(I)I"⟩, 23) := ⟨⟨by decide +kernel, by decide +kernel⟩, List.mem_of_getElem? (i := 678) (by decide +kernel), List.mem_of_getElem? (i := 822) (by decide +kernel), List.mem_of_getElem? (i := 823) (by decide +kernel)⟩
theorem lw_p28 : lw_okq (⟨"TickCircuitsModel", "out", "(III)I"⟩, 23) := ⟨⟨by decide +kernel, by decide +kernel⟩, List.mem_of_getElem? (i := 678) (by decide +kernel), List.mem_of_getElem? (i := 826) (by decide +kernel), List.mem_of_getElem? (i := 827) (by decide +kernel)⟩
theorem lw_p29 : lw_okq (⟨"TickCircuitsModel", "comesTo", "(I)I"⟩, 23) := ⟨⟨by decide +kernel, by decide +kernel⟩, List.mem_of_getElem? (i := 678) (by decide +kernel), List.mem_of_getElem? (i := 841) (by decide +kernel), List.mem_of_getElem? (i := 842) (by decide +kernel)⟩
theorem lw_p30 : lw_okq (⟨"TickCircuitsModel", "steady", "(I)I"⟩, 23) := ⟨⟨by decide +kernel, by decide +kernel⟩, List.mem_of_getElem? (i := 678) (by decide +kernel), List.mem_of_getElem? (i := 845) (by decide +kernel), List.mem_of_getElem? (i := 846) (by decide +kernel)⟩
theorem lw_p31 : lw_okq (⟨"TickCircuitsModel", "classes", "(I)I"⟩, 23) := ⟨⟨by decide +kernel, by decide +kernel⟩, List.mem_of_getElem? (i := 678) (by decide +kernel), List.mem_of_getElem? (i := 849) (by decide +kernel), List.mem_of_getElem? (i := 850) (by decide +kernel)⟩
def lw_privs_2 : List (MethodName × Nat) := [(⟨"TickCircuits$Reader", "readPart", "(LTickCircuits$Text;)V"⟩, 4), (⟨"TickCircuits$Reader", "readRegister", "(LTickCircuits$Text;)V"⟩, 4), (⟨"TickCircuits$Reader", "digitAt", "(LTickCircuits$Text;I)I"⟩, 4), (⟨"TickCircuits$Reader", "partEndsAt", "(LTickCircuits$Text;I)Z"⟩, 4), (⟨"TickCircuits$Reader", "readOutput", "(LTickCircuits$Text;)V"⟩, 4), (⟨"TickCircuits$Reader", "readGate", "(LTickCircuits$Text;)V"⟩, 4), (⟨"TickCircuitsModel", "of", "(II)I"⟩, 23), (⟨"TickCircuitsModel", "keeps", "()V"⟩, 23), (⟨"TickCircuitsModel", "acted", "(I)I"⟩, 23), (⟨"TickCircuitsModel", "lights", "(III)V"⟩, 23), (⟨"TickCircuitsModel", "then", "(III)I"⟩, 23), (⟨"TickCircuitsModel", "first", "(I)I"⟩, 23), (⟨"TickCircuitsModel", "out", "(III)I"⟩, 23), (⟨"TickCircuitsModel", "comesTo", "(I)I"⟩, 23), (⟨"TickCircuitsModel", "steady", "(I)I"⟩, 23), (⟨"TickCircuitsModel", "classes", "(I)I"⟩, 23)]
theorem lw_r2 : ∀ q ∈ lw_privs_2, lw_okq q := List.forall_mem_cons.mpr ⟨lw_p16, List.forall_mem_cons.mpr ⟨lw_p17, List.forall_mem_cons.mpr ⟨lw_p18, List.forall_mem_cons.mpr ⟨lw_p19, List.forall_mem_cons.mpr ⟨lw_p20, List.forall_mem_cons.mpr ⟨lw_p21, List.forall_mem_cons.mpr ⟨lw_p22, List.forall_mem_cons.mpr ⟨lw_p23, List.forall_mem_cons.mpr ⟨lw_p24, List.forall_mem_cons.mpr ⟨lw_p25, List.forall_mem_cons.mpr ⟨lw_p26, List.forall_mem_cons.mpr ⟨lw_p27, List.forall_mem_cons.mpr ⟨lw_p28, List.forall_mem_cons.mpr ⟨lw_p29, List.forall_mem_cons.mpr ⟨lw_p30, List.forall_mem_cons.mpr ⟨lw_p31, fun _ h => absurd h List.not_mem_nil⟩⟩⟩⟩⟩⟩⟩⟩⟩⟩⟩⟩⟩⟩⟩⟩
theorem lw_p32 : lw_okq (⟨"TickCircuitsModel", "refines", "(IZ)V"⟩, 23) := ⟨⟨by decide +kernel, by decide +kernel⟩, List.mem_of_getElem? (i := 678) (by decide +kernel), List.mem_of_getElem? (i := 853) (by decide +kernel), List.mem_of_getElem? (i := 854) (by decide +kernel)⟩
theorem lw_p33 : lw_okq (⟨"TickCircuitsModel", "isAlike", "(IIIZ)Z"⟩, 23) := ⟨⟨by decide +kernel, by decide +kernel⟩, List.mem_of_getElem? (i := 678) (by decide +kernel), List.mem_of_getElem? (i := 857) (by decide +kernel), List.mem_of_getElem? (i := 858) (by decide +kernel)⟩
theorem lw_p34 : lw_okq (⟨"TickCircuitsModel", "depends", "(I)I"⟩, 23) := ⟨⟨by decide +kernel, by decide +kernel⟩, List.mem_of_getElem? (i := 678) (by decide +kernel), List.mem_of_getElem? (i := 861) (by decide +kernel), List.mem_of_getElem? (i := 862) (by decide +kernel)⟩
theorem lw_p35 : lw_okq (⟨"TickCircuitsModel", "pairsUp", "()V"⟩, 23) := ⟨⟨by decide +kernel, by decide +kernel⟩, List.mem_of_getElem? (i := 678) (by decide +kernel), List.mem_of_getElem? (i := 870) (by decide +kernel), List.mem_of_getElem? (i := 871) (by decide +kernel)⟩
theorem lw_p36 : lw_okq (⟨"TickCircuitsModel", "differs", "(I)I"⟩, 23) := ⟨⟨by decide +kernel, by decide +kernel⟩, List.mem_of_getElem? (i := 678) (by decide +kernel), List.mem_of_getElem? (i := 874) (by decide +kernel), List.mem_of_getElem? (i := 875) (by decide +kernel)⟩
theorem lw_p37 : lw_okq (⟨"TickCircuitsModel", "rowAt", "(II)I"⟩, 23) := ⟨⟨by decide +kernel, by decide +kernel⟩, List.mem_of_getElem? (i := 678) (by decide +kernel), List.mem_of_getElem? (i := 878) (by decide +kernel), List.mem_of_getElem? (i := 879) (by decide +kernel)⟩
theorem lw_p38 : lw_okq (⟨"TickCircuitsModel", "isLate", "(I)Z"⟩, 23) := ⟨⟨by decide +kernel, by decide +kernel⟩, List.mem_of_getElem? (i := 678) (by decide +kernel), List.mem_of_getElem? (i := 894) (by decide +kernel), List.mem_of_getElem? (i := 895) (by decide +kernel)⟩
theorem lw_p39 : lw_okq (⟨"TickCircuitsModel", "faulty", "()I"⟩, 23) := ⟨⟨by decide +kernel, by decide +kernel⟩, List.mem_of_getElem? (i := 678) (by decide +kernel), List.mem_of_getElem? (i := 926) (by decide +kernel), List.mem_of_getElem? (i := 927) (by decide +kernel)⟩
theorem lw_p40 : lw_okq (⟨"TickCircuitsModel", "sign", "(I)I"⟩, 23) := ⟨⟨by decide +kernel, by decide +kernel⟩, List.mem_of_getElem? (i := 678) (by decide +kernel), List.mem_of_getElem? (i := 930) (by decide +kernel), List.mem_of_getElem? (i := 931) (by decide +kernel)⟩
theorem lw_p41 : lw_okq (⟨"TickCircuitsModel", "doesRegister", "()I"⟩, 23) := ⟨⟨by decide +kernel, by decide +kernel⟩, List.mem_of_getElem? (i := 678) (by decide +kernel), List.mem_of_getElem? (i := 934) (by decide +kernel), List.mem_of_getElem? (i := 935) (by decide +kernel)⟩
theorem lw_p42 : lw_okq (⟨"TickCircuitsModel", "wireAt", "(I)I"⟩, 23) := ⟨⟨by decide +kernel, by decide +kernel⟩, List.mem_of_getElem? (i := 678) (by decide +kernel), List.mem_of_getElem? (i := 938) (by decide +kernel), List.mem_of_getElem? (i := 939) (by decide +kernel)⟩
theorem lw_p43 : lw_okq (⟨"TickCircuitsModel", "doesOutput", "()I"⟩, 23) := ⟨⟨by decide +kernel, by decide +kernel⟩, List.mem_of_getElem? (i := 678) (by decide +kernel), List.mem_of_getElem? (i := 942) (by decide +kernel), List.mem_of_getElem? (i := 943) (by decide +kernel)⟩
theorem lw_p44 : lw_okq (⟨"TickCircuitsModel", "doesGate", "(I)I"⟩, 23) := ⟨⟨by decide +kernel, by decide +kernel⟩, List.mem_of_getElem? (i := 678) (by decide +kernel), List.mem_of_getElem? (i := 946) (by decide +kernel), List.mem_of_getElem? (i := 947) (by decide +kernel)⟩
def lw_privs_3 : List (MethodName × Nat) := [(⟨"TickCircuitsModel", "refines", "(IZ)V"⟩, 23), (⟨"TickCircuitsModel", "isAlike", "(IIIZ)Z"⟩, 23), (⟨"TickCircuitsModel", "depends", "(I)I"⟩, 23), (⟨"TickCircuitsModel", "pairsUp", "()V"⟩, 23), (⟨"TickCircuitsModel", "differs", "(I)I"⟩, 23), (⟨"TickCircuitsModel", "rowAt", "(II)I"⟩, 23), (⟨"TickCircuitsModel", "isLate", "(I)Z"⟩, 23), (⟨"TickCircuitsModel", "faulty", "()I"⟩, 23), (⟨"TickCircuitsModel", "sign", "(I)I"⟩, 23), (⟨"TickCircuitsModel", "doesRegister", "()I"⟩, 23), (⟨"TickCircuitsModel", "wireAt", "(I)I"⟩, 23), (⟨"TickCircuitsModel", "doesOutput", "()I"⟩, 23), (⟨"TickCircuitsModel", "doesGate", "(I)I"⟩, 23)]
theorem lw_r3 : ∀ q ∈ lw_privs_3, lw_okq q := List.forall_mem_cons.mpr ⟨lw_p32, List.forall_mem_cons.mpr ⟨lw_p33, List.forall_mem_cons.mpr ⟨lw_p34, List.forall_mem_cons.mpr ⟨lw_p35, List.forall_mem_cons.mpr ⟨lw_p36, List.forall_mem_cons.mpr ⟨lw_p37, List.forall_mem_cons.mpr ⟨lw_p38, List.forall_mem_cons.mpr ⟨lw_p39, List.forall_mem_cons.mpr ⟨lw_p40, List.forall_mem_cons.mpr ⟨lw_p41, List.forall_mem_cons.mpr ⟨lw_p42, List.forall_mem_cons.mpr ⟨lw_p43, List.forall_mem_cons.mpr ⟨lw_p44, fun _ h => absurd h List.not_mem_nil⟩⟩⟩⟩⟩⟩⟩⟩⟩⟩⟩⟩⟩
def lw_privs : List (MethodName × Nat) := lw_privs_1 ++ (lw_privs_2 ++ (lw_privs_3))
def lw_tbl : List Cond := k2_sels lw_privs ++ tables_1
theorem lw_privs_ok : ∀ q ∈ lw_privs, lw_okq q := by
  show ∀ q ∈ lw_privs_1 ++ (lw_privs_2 ++ (lw_privs_3)), lw_okq q
  exact List.forall_mem_append.mpr ⟨lw_r1, List.forall_mem_append.mpr ⟨lw_r2, lw_r3⟩⟩
end
section
theorem goodIn_r {big : List Cond} (ws : List Cond) (ps : List Nat) (hp : ws = ps.filterMap (fun i => big[i]?)) (h : ws.all goodWord = true) : GoodIn big ws := by
  intro w hw
  have h1 := List.all_eq_true.mp h w hw
  rw [hp] at hw
  obtain ⟨i, -, hi⟩ := List.mem_filterMap.mp hw
  have hm : w ∈ big := by first | exact List.mem_of_getElem? hi | exact List.getElem?_mem hi
  exact ⟨hm, good_of_word h1⟩
theorem goodIn_app {big a b : List Cond} (ha : GoodIn big a) (hb : GoodIn big b) : GoodIn big (a ++ b) := fun w h => (List.mem_append.mp h).elim (ha w) (hb w)
theorem goodIn_ca {big a b : List Cond} {c : Cond} (ha : GoodIn big (c :: a)) (hb : GoodIn big b) : GoodIn big (c :: (a ++ b)) := fun w h => (List.mem_cons.mp h).elim (fun e => ha w (List.mem_cons.mpr (Or.inl e))) (fun h => (List.mem_append.mp h).elim (fun h => ha w (List.mem_cons.mpr (Or.inr h))) (hb w))
theorem goodIn_sub {big ws : List Cond} (hm : ∀ w ∈ ws, w ∈ big) (h : ws.all goodWord = true) : GoodIn big ws := fun w hw => ⟨hm w hw, good_of_word (List.all_eq_true.mp h w hw)⟩
def RX0 : String := "TickCircuits$AlikeStates"
def TX0 : u_T := fun k => match k with
  | _ => ("TickCircuits$AlikeStates", "unlikeSets", "LTickCircuits$Row;", true)
def tyX0 : Nat → FieldType := fun k => match k with
  | _ => .object "TickCircuits$Row"
abbrev wsX00 : List Cond := u_ws RX0 TX0 1
theorem nmX0 : ∀ a, a < 1 → ∀ b, b < 1 → a ≠ b → (TX0 a).2.1 ≠ (TX0 b).2.1 := by decide +kernel
theorem tyX0_ok : ∀ k, k < 1 → parseFieldDescriptor (TX0 k).2.2.1 = some (tyX0 k) := by decide +kernel
abbrev cX0_init : ByteArray := prog_2_method_1_code
def yX0_init : MethodName := ⟨RX0, "<init>", "()V"⟩
abbrev cX0_classesAmong : ByteArray := prog_2_method_2_code
def yX0_classesAmong : MethodName := ⟨RX0, "classesAmong", "(ILTickCircuits$StepTable;)I"⟩
abbrev cX0_findUnlike : ByteArray := prog_2_method_3_code
def yX0_findUnlike : MethodName := ⟨RX0, "findUnlike", "(LTickCircuits$StepTable;)V"⟩
abbrev cX0_unlikeTo : ByteArray := prog_2_method_4_code
def yX0_unlikeTo : MethodName := ⟨RX0, "unlikeTo", "(ILTickCircuits$StepTable;)I"⟩
abbrev cX0_leadToUnlike : ByteArray := prog_2_method_5_code
def yX0_leadToUnlike : MethodName := ⟨RX0, "leadToUnlike", "(IILTickCircuits$StepTable;)Z"⟩
def RX1 : String := "TickCircuits$Circuit"
def TX1 : u_T := fun k => match k with
  | 0 => ("TickCircuits$Circuit", "gateCount", "I", false)
  | 1 => ("TickCircuits$Circuit", "outputWire", "I", false)
  | 2 => ("TickCircuits$Circuit", "registerCells", "LTickCircuits$Row;", true)
  | _ => ("TickCircuits$Circuit", "gateCells", "LTickCircuits$Row;", true)
def tyX1 : Nat → FieldType := fun k => match k with
  | 0 => .int
  | 1 => .int
  | 2 => .object "TickCircuits$Row"
  | _ => .object "TickCircuits$Row"
abbrev wsX10 : List Cond := u_ws RX1 TX1 4
theorem nmX1 : ∀ a, a < 4 → ∀ b, b < 4 → a ≠ b → (TX1 a).2.1 ≠ (TX1 b).2.1 := by decide +kernel
theorem tyX1_ok : ∀ k, k < 4 → parseFieldDescriptor (TX1 k).2.2.1 = some (tyX1 k) := by decide +kernel
abbrev cX1_init : ByteArray := prog_3_method_1_code
def yX1_init : MethodName := ⟨RX1, "<init>", "()V"⟩
abbrev cX1_startAnew : ByteArray := prog_3_method_2_code
def yX1_startAnew : MethodName := ⟨RX1, "startAnew", "()V"⟩
abbrev cX1_gateCount : ByteArray := prog_3_method_3_code
def yX1_gateCount : MethodName := ⟨RX1, "gateCount", "()I"⟩
abbrev cX1_outputWire : ByteArray := prog_3_method_4_code
def yX1_outputWire : MethodName := ⟨RX1, "outputWire", "()I"⟩
abbrev cX1_setOutputWire : ByteArray := prog_3_method_5_code
def yX1_setOutputWire : MethodName := ⟨RX1, "setOutputWire", "(I)V"⟩
abbrev cX1_setRegister : ByteArray := prog_3_method_6_code
def yX1_setRegister : MethodName := ⟨RX1, "setRegister", "(III)V"⟩
abbrev cX1_nextWire : ByteArray := prog_3_method_7_code
def yX1_nextWire : MethodName := ⟨RX1, "nextWire", "(I)I"⟩
abbrev cX1_firstBit : ByteArray := prog_3_method_8_code
def yX1_firstBit : MethodName := ⟨RX1, "firstBit", "(I)I"⟩
abbrev cX1_firstState : ByteArray := prog_3_method_9_code
def yX1_firstState : MethodName := ⟨RX1, "firstState", "()I"⟩
abbrev cX1_setGate : ByteArray := prog_3_method_10_code
def yX1_setGate : MethodName := ⟨RX1, "setGate", "(IIII)V"⟩
abbrev cX1_dropLastGate : ByteArray := prog_3_method_11_code
def yX1_dropLastGate : MethodName := ⟨RX1, "dropLastGate", "()V"⟩
abbrev cX1_kindOf : ByteArray := prog_3_method_12_code
def yX1_kindOf : MethodName := ⟨RX1, "kindOf", "(I)I"⟩
abbrev cX1_firstWire : ByteArray := prog_3_method_13_code
def yX1_firstWire : MethodName := ⟨RX1, "firstWire", "(I)I"⟩
abbrev cX1_secondWire : ByteArray := prog_3_method_14_code
def yX1_secondWire : MethodName := ⟨RX1, "secondWire", "(I)I"⟩
abbrev cX1_wireBits : ByteArray := prog_3_method_15_code
def yX1_wireBits : MethodName := ⟨RX1, "wireBits", "(II)I"⟩
abbrev cX1_gateBit : ByteArray := prog_3_method_16_code
def yX1_gateBit : MethodName := ⟨RX1, "gateBit", "(III)I"⟩
abbrev cX1_stateAfter : ByteArray := prog_3_method_17_code
def yX1_stateAfter : MethodName := ⟨RX1, "stateAfter", "(I)I"⟩
abbrev cX1_gatesBehindOutput : ByteArray := prog_3_method_18_code
def yX1_gatesBehindOutput : MethodName := ⟨RX1, "gatesBehindOutput", "()I"⟩
abbrev cX1_gateOnWire : ByteArray := prog_3_method_19_code
def yX1_gateOnWire : MethodName := ⟨RX1, "gateOnWire", "(I)I"⟩
abbrev cX1_takeFrom : ByteArray := prog_3_method_20_code
def yX1_takeFrom : MethodName := ⟨RX1, "takeFrom", "(LTickCircuits$Circuit;)V"⟩
abbrev cX1_savedCell : ByteArray := prog_3_method_21_code
def yX1_savedCell : MethodName := ⟨RX1, "savedCell", "(I)I"⟩
abbrev cX1_setSavedCell : ByteArray := prog_3_method_22_code
def yX1_setSavedCell : MethodName := ⟨RX1, "setSavedCell", "(II)V"⟩
def RX2 : String := "TickCircuits$History"
def TX2 : u_T := fun k => match k with
  | 0 => ("TickCircuits$History", "cells", "LTickCircuits$Row;", true)
  | _ => ("TickCircuits$History", "size", "I", false)
def tyX2 : Nat → FieldType := fun k => match k with
  | 0 => .object "TickCircuits$Row"
  | _ => .int
abbrev wsX20 : List Cond := u_ws RX2 TX2 2
theorem nmX2 : ∀ a, a < 2 → ∀ b, b < 2 → a ≠ b → (TX2 a).2.1 ≠ (TX2 b).2.1 := by decide +kernel
theorem tyX2_ok : ∀ k, k < 2 → parseFieldDescriptor (TX2 k).2.2.1 = some (tyX2 k) := by decide +kernel
abbrev cX2_init : ByteArray := prog_4_method_1_code
def yX2_init : MethodName := ⟨RX2, "<init>", "()V"⟩
abbrev cX2_size : ByteArray := prog_4_method_2_code
def yX2_size : MethodName := ⟨RX2, "size", "()I"⟩
abbrev cX2_keep : ByteArray := prog_4_method_3_code
def yX2_keep : MethodName := ⟨RX2, "keep", "(LTickCircuits$Circuit;LTickCircuits$Circuit;)V"⟩
abbrev cX2_dropOldest : ByteArray := prog_4_method_4_code
def yX2_dropOldest : MethodName := ⟨RX2, "dropOldest", "()V"⟩
abbrev cX2_giveBack : ByteArray := prog_4_method_5_code
def yX2_giveBack : MethodName := ⟨RX2, "giveBack", "(LTickCircuits$Circuit;LTickCircuits$Circuit;)V"⟩
def RX3 : String := "TickCircuits$LateWalk"
def TX3 : u_T := fun k => match k with
  | 0 => ("TickCircuits$LateWalk", "isMet", "LTickCircuits$Row;", true)
  | 1 => ("TickCircuits$LateWalk", "situations", "LTickCircuits$Row;", true)
  | _ => ("TickCircuits$LateWalk", "size", "I", false)
def tyX3 : Nat → FieldType := fun k => match k with
  | 0 => .object "TickCircuits$Row"
  | 1 => .object "TickCircuits$Row"
  | _ => .int
abbrev wsX30 : List Cond := u_ws RX3 TX3 3
theorem nmX3 : ∀ a, a < 3 → ∀ b, b < 3 → a ≠ b → (TX3 a).2.1 ≠ (TX3 b).2.1 := by decide +kernel
theorem tyX3_ok : ∀ k, k < 3 → parseFieldDescriptor (TX3 k).2.2.1 = some (tyX3 k) := by decide +kernel
abbrev cX3_init : ByteArray := prog_5_method_1_code
def yX3_init : MethodName := ⟨RX3, "<init>", "()V"⟩
abbrev cX3_isLateBy : ByteArray := prog_5_method_2_code
def yX3_isLateBy : MethodName := ⟨RX3, "isLateBy", "(ILTickCircuits$StepTable;LTickCircuits$StepTable;)Z"⟩
abbrev cX3_step : ByteArray := prog_5_method_3_code
def yX3_step : MethodName := ⟨RX3, "step", "(IIILTickCircuits$StepTable;LTickCircuits$StepTable;)Z"⟩
abbrev cX3_meet : ByteArray := prog_5_method_4_code
def yX3_meet : MethodName := ⟨RX3, "meet", "(III)V"⟩
abbrev cX3_forgetAll : ByteArray := prog_5_method_5_code
def yX3_forgetAll : MethodName := ⟨RX3, "forgetAll", "()V"⟩
def RX4 : String := "TickCircuits$PairWalk"
def TX4 : u_T := fun k => match k with
  | 0 => ("TickCircuits$PairWalk", "isMet", "LTickCircuits$Row;", true)
  | 1 => ("TickCircuits$PairWalk", "zeroStates", "LTickCircuits$Row;", true)
  | 2 => ("TickCircuits$PairWalk", "oneStates", "LTickCircuits$Row;", true)
  | 3 => ("TickCircuits$PairWalk", "ticks", "LTickCircuits$Row;", true)
  | 4 => ("TickCircuits$PairWalk", "placesAhead", "LTickCircuits$Row;", true)
  | 5 => ("TickCircuits$PairWalk", "lastInputs", "LTickCircuits$Row;", true)
  | _ => ("TickCircuits$PairWalk", "size", "I", false)
def tyX4 : Nat → FieldType := fun k => match k with
  | 0 => .object "TickCircuits$Row"
  | 1 => .object "TickCircuits$Row"
  | 2 => .object "TickCircuits$Row"
  | 3 => .object "TickCircuits$Row"
  | 4 => .object "TickCircuits$Row"
  | 5 => .object "TickCircuits$Row"
  | _ => .int
abbrev wsX40 : List Cond := u_ws RX4 TX4 7
theorem nmX4 : ∀ a, a < 7 → ∀ b, b < 7 → a ≠ b → (TX4 a).2.1 ≠ (TX4 b).2.1 := by decide +kernel
theorem tyX4_ok : ∀ k, k < 7 → parseFieldDescriptor (TX4 k).2.2.1 = some (tyX4 k) := by decide +kernel
abbrev cX4_init : ByteArray := prog_6_method_1_code
def yX4_init : MethodName := ⟨RX4, "<init>", "()V"⟩
abbrev cX4_walkFromFirst : ByteArray := prog_6_method_2_code
def yX4_walkFromFirst : MethodName := ⟨RX4, "walkFromFirst", "(LTickCircuits$StepTable;LTickCircuits$StepTable;)V"⟩
abbrev cX4_meet : ByteArray := prog_6_method_3_code
def yX4_meet : MethodName := ⟨RX4, "meet", "(IIII)V"⟩
abbrev cX4_size : ByteArray := prog_6_method_4_code
def yX4_size : MethodName := ⟨RX4, "size", "()I"⟩
abbrev cX4_zeroState : ByteArray := prog_6_method_5_code
def yX4_zeroState : MethodName := ⟨RX4, "zeroState", "(I)I"⟩
abbrev cX4_oneState : ByteArray := prog_6_method_6_code
def yX4_oneState : MethodName := ⟨RX4, "oneState", "(I)I"⟩
abbrev cX4_ticksTo : ByteArray := prog_6_method_7_code
def yX4_ticksTo : MethodName := ⟨RX4, "ticksTo", "(I)I"⟩
abbrev cX4_inputsOnWay : ByteArray := prog_6_method_8_code
def yX4_inputsOnWay : MethodName := ⟨RX4, "inputsOnWay", "(II)I"⟩
def RX5 : String := "TickCircuits$Reader"
def TX5 : u_T := fun k => match k with
  | 0 => ("TickCircuits$Reader", "circuit", "LTickCircuits$Circuit;", true)
  | 1 => ("TickCircuits$Reader", "position", "I", false)
  | 2 => ("TickCircuits$Reader", "reason", "I", false)
  | _ => ("TickCircuits$Reader", "toldSet", "I", false)
def tyX5 : Nat → FieldType := fun k => match k with
  | 0 => .object "TickCircuits$Circuit"
  | 1 => .int
  | 2 => .int
  | _ => .int
abbrev wsX50 : List Cond := u_ws RX5 TX5 4
theorem nmX5 : ∀ a, a < 4 → ∀ b, b < 4 → a ≠ b → (TX5 a).2.1 ≠ (TX5 b).2.1 := by decide +kernel
theorem tyX5_ok : ∀ k, k < 4 → parseFieldDescriptor (TX5 k).2.2.1 = some (tyX5 k) := by decide +kernel
abbrev cX5_init : ByteArray := prog_7_method_1_code
def yX5_init : MethodName := ⟨RX5, "<init>", "()V"⟩
abbrev cX5_circuitRead : ByteArray := prog_7_method_2_code
def yX5_circuitRead : MethodName := ⟨RX5, "circuitRead", "()LTickCircuits$Circuit;"⟩
abbrev cX5_faultPosition : ByteArray := prog_7_method_3_code
def yX5_faultPosition : MethodName := ⟨RX5, "faultPosition", "()I"⟩
abbrev cX5_faultReason : ByteArray := prog_7_method_4_code
def yX5_faultReason : MethodName := ⟨RX5, "faultReason", "()I"⟩
abbrev cX5_readWhole : ByteArray := prog_7_method_5_code
def yX5_readWhole : MethodName := ⟨RX5, "readWhole", "(LTickCircuits$Text;)V"⟩
abbrev cX5_readPart : ByteArray := prog_7_method_6_code
def yX5_readPart : MethodName := ⟨RX5, "readPart", "(LTickCircuits$Text;)V"⟩
abbrev cX5_readGate : ByteArray := prog_7_method_7_code
def yX5_readGate : MethodName := ⟨RX5, "readGate", "(LTickCircuits$Text;)V"⟩
abbrev cX5_readRegister : ByteArray := prog_7_method_8_code
def yX5_readRegister : MethodName := ⟨RX5, "readRegister", "(LTickCircuits$Text;)V"⟩
abbrev cX5_readOutput : ByteArray := prog_7_method_9_code
def yX5_readOutput : MethodName := ⟨RX5, "readOutput", "(LTickCircuits$Text;)V"⟩
abbrev cX5_partEndsAt : ByteArray := prog_7_method_10_code
def yX5_partEndsAt : MethodName := ⟨RX5, "partEndsAt", "(LTickCircuits$Text;I)Z"⟩
abbrev cX5_digitAt : ByteArray := prog_7_method_11_code
def yX5_digitAt : MethodName := ⟨RX5, "digitAt", "(LTickCircuits$Text;I)I"⟩
def RX6 : String := "TickCircuits$Row"
def TX6 : u_T := fun k => match k with
  | _ => ("TickCircuits$Row", "cells", "[I", true)
def tyX6 : Nat → FieldType := fun k => match k with
  | _ => .array .int
abbrev wsX60 : List Cond := u_ws RX6 TX6 1
theorem nmX6 : ∀ a, a < 1 → ∀ b, b < 1 → a ≠ b → (TX6 a).2.1 ≠ (TX6 b).2.1 := by decide +kernel
theorem tyX6_ok : ∀ k, k < 1 → parseFieldDescriptor (TX6 k).2.2.1 = some (tyX6 k) := by decide +kernel
abbrev cX6_init : ByteArray := prog_8_method_1_code
def yX6_init : MethodName := ⟨RX6, "<init>", "(I)V"⟩
abbrev cX6_get : ByteArray := prog_8_method_2_code
def yX6_get : MethodName := ⟨RX6, "get", "(I)I"⟩
abbrev cX6_set : ByteArray := prog_8_method_3_code
def yX6_set : MethodName := ⟨RX6, "set", "(II)V"⟩
abbrev cX6_clear : ByteArray := prog_8_method_4_code
def yX6_clear : MethodName := ⟨RX6, "clear", "()V"⟩
def RX7 : String := "TickCircuits$StepTable"
def TX7 : u_T := fun k => match k with
  | 0 => ("TickCircuits$StepTable", "statesBehind", "LTickCircuits$Row;", true)
  | 1 => ("TickCircuits$StepTable", "outputSets", "LTickCircuits$Row;", true)
  | _ => ("TickCircuits$StepTable", "firstState", "I", false)
def tyX7 : Nat → FieldType := fun k => match k with
  | 0 => .object "TickCircuits$Row"
  | 1 => .object "TickCircuits$Row"
  | _ => .int
abbrev wsX70 : List Cond := u_ws RX7 TX7 3
theorem nmX7 : ∀ a, a < 3 → ∀ b, b < 3 → a ≠ b → (TX7 a).2.1 ≠ (TX7 b).2.1 := by decide +kernel
theorem tyX7_ok : ∀ k, k < 3 → parseFieldDescriptor (TX7 k).2.2.1 = some (tyX7 k) := by decide +kernel
abbrev cX7_init : ByteArray := prog_9_method_1_code
def yX7_init : MethodName := ⟨RX7, "<init>", "()V"⟩
abbrev cX7_fillFrom : ByteArray := prog_9_method_2_code
def yX7_fillFrom : MethodName := ⟨RX7, "fillFrom", "(LTickCircuits$Circuit;)V"⟩
abbrev cX7_firstState : ByteArray := prog_9_method_3_code
def yX7_firstState : MethodName := ⟨RX7, "firstState", "()I"⟩
abbrev cX7_stateBehind : ByteArray := prog_9_method_4_code
def yX7_stateBehind : MethodName := ⟨RX7, "stateBehind", "(II)I"⟩
abbrev cX7_outputSet : ByteArray := prog_9_method_5_code
def yX7_outputSet : MethodName := ⟨RX7, "outputSet", "(I)I"⟩
abbrev cX7_statesComeTo : ByteArray := prog_9_method_6_code
def yX7_statesComeTo : MethodName := ⟨RX7, "statesComeTo", "()I"⟩
abbrev cX7_statesBehindAny : ByteArray := prog_9_method_7_code
def yX7_statesBehindAny : MethodName := ⟨RX7, "statesBehindAny", "(I)I"⟩
abbrev cX7_steadyRegisters : ByteArray := prog_9_method_8_code
def yX7_steadyRegisters : MethodName := ⟨RX7, "steadyRegisters", "(I)I"⟩
def RX8 : String := "TickCircuits$Text"
def TX8 : u_T := fun k => match k with
  | 0 => ("TickCircuits$Text", "characters", "LTickCircuits$Row;", true)
  | _ => ("TickCircuits$Text", "length", "I", false)
def tyX8 : Nat → FieldType := fun k => match k with
  | 0 => .object "TickCircuits$Row"
  | _ => .int
abbrev wsX80 : List Cond := u_ws RX8 TX8 2
theorem nmX8 : ∀ a, a < 2 → ∀ b, b < 2 → a ≠ b → (TX8 a).2.1 ≠ (TX8 b).2.1 := by decide +kernel
theorem tyX8_ok : ∀ k, k < 2 → parseFieldDescriptor (TX8 k).2.2.1 = some (tyX8 k) := by decide +kernel
abbrev cX8_init : ByteArray := prog_10_method_1_code
def yX8_init : MethodName := ⟨RX8, "<init>", "()V"⟩
abbrev cX8_length : ByteArray := prog_10_method_2_code
def yX8_length : MethodName := ⟨RX8, "length", "()I"⟩
abbrev cX8_append : ByteArray := prog_10_method_3_code
def yX8_append : MethodName := ⟨RX8, "append", "(I)V"⟩
abbrev cX8_empty : ByteArray := prog_10_method_4_code
def yX8_empty : MethodName := ⟨RX8, "empty", "()V"⟩
abbrev cX8_characterAt : ByteArray := prog_10_method_5_code
def yX8_characterAt : MethodName := ⟨RX8, "characterAt", "(I)I"⟩
def RX9 : String := "TickCircuits"
def TX9 : u_T := fun k => match k with
  | 0 => ("TickCircuits", "zero", "LTickCircuits$Circuit;", true)
  | 1 => ("TickCircuits", "one", "LTickCircuits$Circuit;", true)
  | 2 => ("TickCircuits", "trial", "LTickCircuits$Circuit;", true)
  | 3 => ("TickCircuits", "zeroTable", "LTickCircuits$StepTable;", true)
  | 4 => ("TickCircuits", "oneTable", "LTickCircuits$StepTable;", true)
  | 5 => ("TickCircuits", "askedTable", "LTickCircuits$StepTable;", true)
  | 6 => ("TickCircuits", "walk", "LTickCircuits$PairWalk;", true)
  | 7 => ("TickCircuits", "lateWalk", "LTickCircuits$LateWalk;", true)
  | 8 => ("TickCircuits", "alike", "LTickCircuits$AlikeStates;", true)
  | 9 => ("TickCircuits", "history", "LTickCircuits$History;", true)
  | 10 => ("TickCircuits", "text", "LTickCircuits$Text;", true)
  | _ => ("TickCircuits", "reader", "LTickCircuits$Reader;", true)
def tyX9 : Nat → FieldType := fun k => match k with
  | 0 => .object "TickCircuits$Circuit"
  | 1 => .object "TickCircuits$Circuit"
  | 2 => .object "TickCircuits$Circuit"
  | 3 => .object "TickCircuits$StepTable"
  | 4 => .object "TickCircuits$StepTable"
  | 5 => .object "TickCircuits$StepTable"
  | 6 => .object "TickCircuits$PairWalk"
  | 7 => .object "TickCircuits$LateWalk"
  | 8 => .object "TickCircuits$AlikeStates"
  | 9 => .object "TickCircuits$History"
  | 10 => .object "TickCircuits$Text"
  | _ => .object "TickCircuits$Reader"
abbrev wsX90 : List Cond := u_ws RX9 TX9 12
theorem nmX9 : ∀ a, a < 12 → ∀ b, b < 12 → a ≠ b → (TX9 a).2.1 ≠ (TX9 b).2.1 := by decide +kernel
theorem tyX9_ok : ∀ k, k < 12 → parseFieldDescriptor (TX9 k).2.2.1 = some (tyX9 k) := by decide +kernel
abbrev cX9_init : ByteArray := prog_1_method_1_code
def yX9_init : MethodName := ⟨RX9, "<init>", "()V"⟩
abbrev cX9_gate : ByteArray := prog_1_method_2_code
def yX9_gate : MethodName := ⟨RX9, "gate", "(IIIII)I"⟩
abbrev cX9_dropGate : ByteArray := prog_1_method_3_code
def yX9_dropGate : MethodName := ⟨RX9, "dropGate", "(I)I"⟩
abbrev cX9_register : ByteArray := prog_1_method_4_code
def yX9_register : MethodName := ⟨RX9, "register", "(IIII)I"⟩
abbrev cX9_output : ByteArray := prog_1_method_5_code
def yX9_output : MethodName := ⟨RX9, "output", "(II)I"⟩
abbrev cX9_copy : ByteArray := prog_1_method_6_code
def yX9_copy : MethodName := ⟨RX9, "copy", "(I)I"⟩
abbrev cX9_circuitOf : ByteArray := prog_1_method_7_code
def yX9_circuitOf : MethodName := ⟨RX9, "circuitOf", "(II)I"⟩
abbrev cX9_bit : ByteArray := prog_1_method_8_code
def yX9_bit : MethodName := ⟨RX9, "bit", "(IIII)I"⟩
abbrev cX9_behind : ByteArray := prog_1_method_9_code
def yX9_behind : MethodName := ⟨RX9, "behind", "(III)I"⟩
abbrev cX9_run : ByteArray := prog_1_method_10_code
def yX9_run : MethodName := ⟨RX9, "run", "(IIII)I"⟩
abbrev cX9_share : ByteArray := prog_1_method_11_code
def yX9_share : MethodName := ⟨RX9, "share", "(II)I"⟩
abbrev cX9_pairOf : ByteArray := prog_1_method_12_code
def yX9_pairOf : MethodName := ⟨RX9, "pairOf", "(II)I"⟩
abbrev cX9_pairs : ByteArray := prog_1_method_13_code
def yX9_pairs : MethodName := ⟨RX9, "pairs", "()I"⟩
abbrev cX9_apart : ByteArray := prog_1_method_14_code
def yX9_apart : MethodName := ⟨RX9, "apart", "(I)I"⟩
abbrev cX9_late : ByteArray := prog_1_method_15_code
def yX9_late : MethodName := ⟨RX9, "late", "()I"⟩
abbrev cX9_same : ByteArray := prog_1_method_16_code
def yX9_same : MethodName := ⟨RX9, "same", "(I)I"⟩
abbrev cX9_kinds : ByteArray := prog_1_method_17_code
def yX9_kinds : MethodName := ⟨RX9, "kinds", "(I)I"⟩
abbrev cX9_count : ByteArray := prog_1_method_18_code
def yX9_count : MethodName := ⟨RX9, "count", "(I)I"⟩
abbrev cX9_undo : ByteArray := prog_1_method_19_code
def yX9_undo : MethodName := ⟨RX9, "undo", "()I"⟩
abbrev cX9_type : ByteArray := prog_1_method_20_code
def yX9_type : MethodName := ⟨RX9, "type", "(I)I"⟩
abbrev cX9_clearText : ByteArray := prog_1_method_21_code
def yX9_clearText : MethodName := ⟨RX9, "clearText", "()I"⟩
abbrev cX9_fault : ByteArray := prog_1_method_22_code
def yX9_fault : MethodName := ⟨RX9, "fault", "(I)I"⟩
abbrev cX9_read : ByteArray := prog_1_method_23_code
def yX9_read : MethodName := ⟨RX9, "read", "(I)I"⟩
abbrev cX9_circuitAt : ByteArray := prog_1_method_24_code
def yX9_circuitAt : MethodName := ⟨RX9, "circuitAt", "(I)LTickCircuits$Circuit;"⟩
abbrev cX9_tellWires : ByteArray := prog_1_method_25_code
def yX9_tellWires : MethodName := ⟨RX9, "tellWires", "(LTickCircuits$Circuit;I)I"⟩
abbrev cX9_tellStates : ByteArray := prog_1_method_26_code
def yX9_tellStates : MethodName := ⟨RX9, "tellStates", "(LTickCircuits$Circuit;I)I"⟩
abbrev cX9_tellGate : ByteArray := prog_1_method_27_code
def yX9_tellGate : MethodName := ⟨RX9, "tellGate", "(LTickCircuits$Circuit;II)I"⟩
abbrev cX9_walkWith : ByteArray := prog_1_method_28_code
def yX9_walkWith : MethodName := ⟨RX9, "walkWith", "(LTickCircuits$Circuit;)V"⟩
abbrev cX9_neverApart : ByteArray := prog_1_method_29_code
def yX9_neverApart : MethodName := ⟨RX9, "neverApart", "(LTickCircuits$Circuit;)Z"⟩
abbrev cX9_firstPairApart : ByteArray := prog_1_method_30_code
def yX9_firstPairApart : MethodName := ⟨RX9, "firstPairApart", "()I"⟩
abbrev cX9_differingInputs : ByteArray := prog_1_method_31_code
def yX9_differingInputs : MethodName := ⟨RX9, "differingInputs", "(I)I"⟩
abbrev cX9_isWithin : ByteArray := prog_1_method_32_code
def yX9_isWithin : MethodName := ⟨RX9, "isWithin", "(III)Z"⟩
abbrev cX9_isCircuit : ByteArray := prog_1_method_33_code
def yX9_isCircuit : MethodName := ⟨RX9, "isCircuit", "(I)Z"⟩
abbrev cX9_isRegister : ByteArray := prog_1_method_34_code
def yX9_isRegister : MethodName := ⟨RX9, "isRegister", "(I)Z"⟩
abbrev cX9_isWire : ByteArray := prog_1_method_35_code
def yX9_isWire : MethodName := ⟨RX9, "isWire", "(I)Z"⟩
abbrev cX9_isState : ByteArray := prog_1_method_36_code
def yX9_isState : MethodName := ⟨RX9, "isState", "(I)Z"⟩
abbrev cX9_areInputs : ByteArray := prog_1_method_37_code
def yX9_areInputs : MethodName := ⟨RX9, "areInputs", "(I)Z"⟩
abbrev cX9_mayFeed : ByteArray := prog_1_method_38_code
def yX9_mayFeed : MethodName := ⟨RX9, "mayFeed", "(II)Z"⟩
abbrev cX9_bitOf : ByteArray := prog_1_method_39_code
def yX9_bitOf : MethodName := ⟨RX9, "bitOf", "(II)I"⟩
abbrev cX9_leastOf : ByteArray := prog_1_method_40_code
def yX9_leastOf : MethodName := ⟨RX9, "leastOf", "(I)I"⟩
abbrev cX9_floatBitsOfSixteenths : ByteArray := prog_1_method_41_code
def yX9_floatBitsOfSixteenths : MethodName := ⟨RX9, "floatBitsOfSixteenths", "(I)I"⟩
def RX10 : String := "TickCircuitsModel"
def TX10 : u_T := fun k => match k with
  | 0 => ("TickCircuitsModel", "s", "[I", true)
  | 1 => ("TickCircuitsModel", "was", "[I", true)
  | 2 => ("TickCircuitsModel", "begun", "[I", true)
  | 3 => ("TickCircuitsModel", "states", "I", false)
  | 4 => ("TickCircuitsModel", "text", "[C", true)
  | 5 => ("TickCircuitsModel", "typed", "I", false)
  | 6 => ("TickCircuitsModel", "reason", "I", false)
  | 7 => ("TickCircuitsModel", "at", "I", false)
  | 8 => ("TickCircuitsModel", "made", "[I", true)
  | 9 => ("TickCircuitsModel", "told", "I", false)
  | 10 => ("TickCircuitsModel", "wire", "[I", true)
  | 11 => ("TickCircuitsModel", "pair", "[I", true)
  | 12 => ("TickCircuitsModel", "back", "[I", true)
  | 13 => ("TickCircuitsModel", "by", "[I", true)
  | 14 => ("TickCircuitsModel", "ticks", "[I", true)
  | 15 => ("TickCircuitsModel", "met", "[I", true)
  | 16 => ("TickCircuitsModel", "many", "I", false)
  | 17 => ("TickCircuitsModel", "apartAt", "I", false)
  | 18 => ("TickCircuitsModel", "apartBy", "I", false)
  | 19 => ("TickCircuitsModel", "row", "[I", true)
  | 20 => ("TickCircuitsModel", "seen", "[I", true)
  | 21 => ("TickCircuitsModel", "alike", "[I", true)
  | _ => ("TickCircuitsModel", "finer", "[I", true)
def tyX10 : Nat → FieldType := fun k => match k with
  | 0 => .array .int
  | 1 => .array .int
  | 2 => .array .int
  | 3 => .int
  | 4 => .array .char
  | 5 => .int
  | 6 => .int
  | 7 => .int
  | 8 => .array .int
  | 9 => .int
  | 10 => .array .int
  | 11 => .array .int
  | 12 => .array .int
  | 13 => .array .int
  | 14 => .array .int
  | 15 => .array .int
  | 16 => .int
  | 17 => .int
  | 18 => .int
  | 19 => .array .int
  | 20 => .array .int
  | 21 => .array .int
  | _ => .array .int
abbrev wsX100 : List Cond := u_ws RX10 TX10 23
theorem nmX10 : ∀ a, a < 23 → ∀ b, b < 23 → a ≠ b → (TX10 a).2.1 ≠ (TX10 b).2.1 := by decide +kernel
theorem tyX10_ok : ∀ k, k < 23 → parseFieldDescriptor (TX10 k).2.2.1 = some (tyX10 k) := by decide +kernel
abbrev cX10_init : ByteArray := prog_12_method_1_code
def yX10_init : MethodName := ⟨RX10, "<init>", "()V"⟩
abbrev cX10_in : ByteArray := prog_12_method_2_code
def yX10_in : MethodName := ⟨RX10, "in", "(III)Z"⟩
abbrev cX10_lays : ByteArray := prog_12_method_3_code
def yX10_lays : MethodName := ⟨RX10, "lays", "([II)V"⟩
abbrev cX10_of : ByteArray := prog_12_method_4_code
def yX10_of : MethodName := ⟨RX10, "of", "(II)I"⟩
abbrev cX10_keeps : ByteArray := prog_12_method_5_code
def yX10_keeps : MethodName := ⟨RX10, "keeps", "()V"⟩
abbrev cX10_acted : ByteArray := prog_12_method_6_code
def yX10_acted : MethodName := ⟨RX10, "acted", "(I)I"⟩
abbrev cX10_isAllowed : ByteArray := prog_12_method_7_code
def yX10_isAllowed : MethodName := ⟨RX10, "isAllowed", "(II)Z"⟩
abbrev cX10_gate : ByteArray := prog_12_method_8_code
def yX10_gate : MethodName := ⟨RX10, "gate", "(IIIII)I"⟩
abbrev cX10_dropGate : ByteArray := prog_12_method_9_code
def yX10_dropGate : MethodName := ⟨RX10, "dropGate", "(I)I"⟩
abbrev cX10_register : ByteArray := prog_12_method_10_code
def yX10_register : MethodName := ⟨RX10, "register", "(IIII)I"⟩
abbrev cX10_output : ByteArray := prog_12_method_11_code
def yX10_output : MethodName := ⟨RX10, "output", "(II)I"⟩
abbrev cX10_copy : ByteArray := prog_12_method_12_code
def yX10_copy : MethodName := ⟨RX10, "copy", "(I)I"⟩
abbrev cX10_works : ByteArray := prog_12_method_13_code
def yX10_works : MethodName := ⟨RX10, "works", "(III)I"⟩
abbrev cX10_lights : ByteArray := prog_12_method_14_code
def yX10_lights : MethodName := ⟨RX10, "lights", "(III)V"⟩
abbrev cX10_out : ByteArray := prog_12_method_15_code
def yX10_out : MethodName := ⟨RX10, "out", "(III)I"⟩
abbrev cX10_then : ByteArray := prog_12_method_16_code
def yX10_then : MethodName := ⟨RX10, "then", "(III)I"⟩
abbrev cX10_first : ByteArray := prog_12_method_17_code
def yX10_first : MethodName := ⟨RX10, "first", "(I)I"⟩
abbrev cX10_bit : ByteArray := prog_12_method_18_code
def yX10_bit : MethodName := ⟨RX10, "bit", "(IIII)I"⟩
abbrev cX10_behind : ByteArray := prog_12_method_19_code
def yX10_behind : MethodName := ⟨RX10, "behind", "(III)I"⟩
abbrev cX10_run : ByteArray := prog_12_method_20_code
def yX10_run : MethodName := ⟨RX10, "run", "(IIII)I"⟩
abbrev cX10_sixteenths : ByteArray := prog_12_method_21_code
def yX10_sixteenths : MethodName := ⟨RX10, "sixteenths", "(I)I"⟩
abbrev cX10_share : ByteArray := prog_12_method_22_code
def yX10_share : MethodName := ⟨RX10, "share", "(II)I"⟩
abbrev cX10_comesTo : ByteArray := prog_12_method_23_code
def yX10_comesTo : MethodName := ⟨RX10, "comesTo", "(I)I"⟩
abbrev cX10_steady : ByteArray := prog_12_method_24_code
def yX10_steady : MethodName := ⟨RX10, "steady", "(I)I"⟩
abbrev cX10_isAlike : ByteArray := prog_12_method_25_code
def yX10_isAlike : MethodName := ⟨RX10, "isAlike", "(IIIZ)Z"⟩
abbrev cX10_refines : ByteArray := prog_12_method_26_code
def yX10_refines : MethodName := ⟨RX10, "refines", "(IZ)V"⟩
abbrev cX10_classes : ByteArray := prog_12_method_27_code
def yX10_classes : MethodName := ⟨RX10, "classes", "(I)I"⟩
abbrev cX10_depends : ByteArray := prog_12_method_28_code
def yX10_depends : MethodName := ⟨RX10, "depends", "(I)I"⟩
abbrev cX10_circuitOf : ByteArray := prog_12_method_29_code
def yX10_circuitOf : MethodName := ⟨RX10, "circuitOf", "(II)I"⟩
abbrev cX10_pairsUp : ByteArray := prog_12_method_30_code
def yX10_pairsUp : MethodName := ⟨RX10, "pairsUp", "()V"⟩
abbrev cX10_rowAt : ByteArray := prog_12_method_31_code
def yX10_rowAt : MethodName := ⟨RX10, "rowAt", "(II)I"⟩
abbrev cX10_differs : ByteArray := prog_12_method_32_code
def yX10_differs : MethodName := ⟨RX10, "differs", "(I)I"⟩
abbrev cX10_pairOf : ByteArray := prog_12_method_33_code
def yX10_pairOf : MethodName := ⟨RX10, "pairOf", "(II)I"⟩
abbrev cX10_pairs : ByteArray := prog_12_method_34_code
def yX10_pairs : MethodName := ⟨RX10, "pairs", "()I"⟩
abbrev cX10_apart : ByteArray := prog_12_method_35_code
def yX10_apart : MethodName := ⟨RX10, "apart", "(I)I"⟩
abbrev cX10_isLate : ByteArray := prog_12_method_36_code
def yX10_isLate : MethodName := ⟨RX10, "isLate", "(I)Z"⟩
abbrev cX10_late : ByteArray := prog_12_method_37_code
def yX10_late : MethodName := ⟨RX10, "late", "()I"⟩
abbrev cX10_same : ByteArray := prog_12_method_38_code
def yX10_same : MethodName := ⟨RX10, "same", "(I)I"⟩
abbrev cX10_kinds : ByteArray := prog_12_method_39_code
def yX10_kinds : MethodName := ⟨RX10, "kinds", "(I)I"⟩
abbrev cX10_count : ByteArray := prog_12_method_40_code
def yX10_count : MethodName := ⟨RX10, "count", "(I)I"⟩
abbrev cX10_undo : ByteArray := prog_12_method_41_code
def yX10_undo : MethodName := ⟨RX10, "undo", "()I"⟩
abbrev cX10_type : ByteArray := prog_12_method_42_code
def yX10_type : MethodName := ⟨RX10, "type", "(I)I"⟩
abbrev cX10_clearText : ByteArray := prog_12_method_43_code
def yX10_clearText : MethodName := ⟨RX10, "clearText", "()I"⟩
abbrev cX10_sign : ByteArray := prog_12_method_44_code
def yX10_sign : MethodName := ⟨RX10, "sign", "(I)I"⟩
abbrev cX10_wireAt : ByteArray := prog_12_method_45_code
def yX10_wireAt : MethodName := ⟨RX10, "wireAt", "(I)I"⟩
abbrev cX10_doesGate : ByteArray := prog_12_method_46_code
def yX10_doesGate : MethodName := ⟨RX10, "doesGate", "(I)I"⟩
abbrev cX10_doesRegister : ByteArray := prog_12_method_47_code
def yX10_doesRegister : MethodName := ⟨RX10, "doesRegister", "()I"⟩
abbrev cX10_doesOutput : ByteArray := prog_12_method_48_code
def yX10_doesOutput : MethodName := ⟨RX10, "doesOutput", "()I"⟩
abbrev cX10_faulty : ByteArray := prog_12_method_49_code
def yX10_faulty : MethodName := ⟨RX10, "faulty", "()I"⟩
abbrev cX10_fault : ByteArray := prog_12_method_50_code
def yX10_fault : MethodName := ⟨RX10, "fault", "(I)I"⟩
abbrev cX10_read : ByteArray := prog_12_method_51_code
def yX10_read : MethodName := ⟨RX10, "read", "(I)I"⟩
def RJ7 : String := "java/util/Arrays"
def TJ7 : u_T := fun k => match k with
  | _ => ("", "", "", false)
def tyJ7 : Nat → FieldType := fun k => match k with
  | _ => .int
abbrev wsJ70 : List Cond := u_ws RJ7 TJ7 0
theorem nmJ7 : ∀ a, a < 0 → ∀ b, b < 0 → a ≠ b → (TJ7 a).2.1 ≠ (TJ7 b).2.1 := by decide +kernel
theorem tyJ7_ok : ∀ k, k < 0 → parseFieldDescriptor (TJ7 k).2.2.1 = some (tyJ7 k) := by decide +kernel
abbrev cJ7_fill_53178 : ByteArray := prog_13_method_103_code
def yJ7_fill_53178 : MethodName := ⟨RJ7, "fill", "([II)V"⟩
def RL : String := "TickCircuitsLaw"
abbrev cL_law : ByteArray := code
def yL_law : MethodName := ⟨RL, "law", "([I)Z"⟩
abbrev vwCl : List vw_C := [(RX0, TX0, 1), (RX1, TX1, 4), (RX2, TX2, 2), (RX3, TX3, 3), (RX4, TX4, 7), (RX5, TX5, 4), (RX6, TX6, 1), (RX7, TX7, 3), (RX8, TX8, 2), (RX9, TX9, 12), (RX10, TX10, 23)]
end
section
/-! THE FRAME: a pure picture of a world whose shape stands fast: cells by name, whole numbers in them; 'Ev': from here on the method ends so; 'Sem': a method's contract in these words. -/
abbrev Cc : Type := Nat ⊕ ((Fin 4 × Nat) ⊕ (Fin 3 × Nat))
abbrev Val : Type := Int ⊕ Cc
abbrev Sh : Type := (Bool × Nat) ⊕ (Nat × List (Option Cc))
abbrev Sy : Type := (Cc → Option Sh) × List Cc
abbrev Mem : Type := Cc → Nat → Int
abbrev Rng (x : Int) : Prop := -2147483648 ≤ x ∧ x < 2147483648
def TBL : List Cond := lw_tbl.filter goodWord
theorem gdT : GoodIn TBL TBL := fun w h => ⟨h, good_of_word (List.mem_filter.mp h).2⟩
theorem inTb {w : Cond} (h : w ∈ tables_1) (g : goodWord w = true) : w ∈ TBL := List.mem_filter.mpr ⟨List.mem_append_right _ h, g⟩
theorem inT1 {w : Cond} (i : Nat) (h : tables_1_1[i]? = some w) (g : goodWord w = true) : w ∈ TBL := inTb (List.mem_append_left _ (List.mem_of_getElem? h)) g
theorem inT2 {w : Cond} (i : Nat) (h : tables_1_2[i]? = some w) (g : goodWord w = true) : w ∈ TBL := inTb (List.mem_append_right _ (List.mem_append_left _ (List.mem_of_getElem? h))) g
theorem inT3 {w : Cond} (i : Nat) (h : tables_1_3[i]? = some w) (g : goodWord w = true) : w ∈ TBL := inTb (List.mem_append_right _ (List.mem_append_right _ (List.mem_append_left _ (List.mem_of_getElem? h)))) g
theorem inT4 {w : Cond} (i : Nat) (h : tables_1_4[i]? = some w) (g : goodWord w = true) : w ∈ TBL := inTb (List.mem_append_right _ (List.mem_append_right _ (List.mem_append_right _ (List.mem_of_getElem? h)))) g
theorem inTp {y : MethodName} {n : Nat} (i : Nat) (h : lw_privs[i]? = some (y, n)) (g : goodWord (Cond.selects y.cls y y) = true) : Cond.selects y.cls y y ∈ TBL := List.mem_filter.mpr ⟨List.mem_append_left _ (List.mem_map.mpr ⟨(y, n), List.mem_of_getElem? h, rfl⟩), g⟩
/-- the links of nest mates' private members: own class, place, method, host -/
def nestL : List (String × Nat × MethodName × String) := tables_1.filterMap (fun w => match w with | .methodLinkNest a i x h => some (a, i, x, h) | _ => none)
def NW (U : State) : Prop := ∀ q ∈ nestL, va_Nw (.methodLinkNest q.1 q.2.1 q.2.2.1 q.2.2.2) U
theorem NW.warm {s U : State} (hW : s.WarmedH U.vm) (h : NW s) : NW U := fun q hq => (h q hq).warmM hW
theorem NW.same {s U : State} (e : s.vm = U.vm) (h : NW s) : NW U := fun q hq => (h q hq).same rfl e
theorem NW.of {s : State} {args : Array Value} (h : ∀ w ∈ tables_1, w.before args s = true) : NW s := by
  intro q hq
  obtain ⟨w, hw, he⟩ := List.mem_filterMap.mp hq
  have h1 := h w hw
  split at he
  · cases he
    exact va_Nw.of rfl h1
  · cases he
/-- a method: its name, code, locals, answer; frames and locals below it -/
abbrev MI : Type := MethodName × ByteArray × Nat × Option FieldType × Nat × Nat
def miW (q : MI) : List Cond := .code q.1 q.2.1 q.2.2.1 q.2.2.2.1 :: TBL
abbrev miRm (q : MI) : Room := { frames := q.2.2.2.2.1, cells := 0, slots := 0, locals := q.2.2.2.2.2 }
def cvv (ad : Cc → Nat) : Val → Value
  | .inl x => .int (Int32.ofInt x)
  | .inr c => .ref (ad c)
def enF (ad : Cc → Nat) (M : Mem) (c : Cc) (k : Nat) : Option Cc → Value
  | none => .int (Int32.ofInt (M c k))
  | some d => .ref (ad d)
def enS (ad : Cc → Nat) (ty : Bool → ClassId) (M : Mem) (c : Cc) : Option Sh → va_E
  | some (.inl (b, n)) => .inl (ty b, n, .inl (fun j => Int32.ofInt (M c j)))
  | some (.inr (ci, fl)) => .inr (ci, fl.mapIdx (enF ad M c))
  | none => .inr (0, [])
def wl (S : Sy) (ad : Cc → Nat) (ty : Bool → ClassId) (M : Mem) : va_W := S.2.map (fun c => (ad c, enS ad ty M c (S.1 c)))
def AA (S : Sy) (ad : Cc → Nat) (sz : Nat) : Nat → Prop := fun q => (∃ c, c ∈ S.2 ∧ ad c = q) ∨ sz ≤ q
def SyOk (S : Sy) : Prop := S.2.Nodup ∧ ∀ c, S.1 c ≠ none → c ∈ S.2
def updM (M : Mem) (c : Cc) (k : Nat) (v : Int) : Mem := fun d j => if d = c ∧ j = k then v else M d j
theorem wl_at {S : Sy} {ad : Cc → Nat} {ty : Bool → ClassId} {M : Mem} {c : Cc} {k : Nat} (h : S.2[k]? = some c) : (wl S ad ty M)[k]? = some (ad c, enS ad ty M c (S.1 c)) := by
  simp [wl, h]
theorem wl_ix {S : Sy} (ok : SyOk S) {c : Cc} {x : Sh} (h : S.1 c = some x) : ∃ k : Nat, S.2[k]? = some c := List.getElem?_of_mem (ok.2 c (by rw [h]; exact fun z => by cases z))
theorem wl_set {S : Sy} (ok : SyOk S) {ad : Cc → Nat} {ty : Bool → ClassId} {M M' : Mem} {c : Cc} {k : Nat} (h : S.2[k]? = some c) (hm : ∀ d, d ≠ c → enS ad ty M' d (S.1 d) = enS ad ty M d (S.1 d)) {e : va_E} (he : e = enS ad ty M' c (S.1 c)) : (wl S ad ty M).set k (ad c, e) = wl S ad ty M' := by
  subst he
  apply List.ext_getElem?
  intro i
  rw [List.getElem?_set]
  by_cases hi : k = i
  · subst hi
    have hl : k < (wl S ad ty M).length := by
      have := (List.getElem?_eq_some_iff.mp h).1
      simpa [wl] using this
    rw [if_pos rfl, if_pos hl, wl_at h]
  · rw [if_neg hi]
    cases hc : S.2[i]? with
    | none => simp [wl, hc]
    | some d =>
      rw [wl_at hc, wl_at hc, hm d]
      intro hd
      subst hd
      obtain ⟨a1, b1⟩ := List.getElem?_eq_some_iff.mp h
      obtain ⟨a2, b2⟩ := List.getElem?_eq_some_iff.mp hc
      exact hi ((List.getElem_inj ok.1).mp (b1.trans b2.symm))
theorem wl_map (S : Sy) (ad : Cc → Nat) (ty : Bool → ClassId) (M : Mem) (k : Nat) (q : Nat × va_E) (h : (wl S ad ty M)[k]? = some q) : ∃ c : Cc, S.2[k]? = some c ∧ q.1 = ad c := by
  simp only [wl, List.getElem?_map] at h
  cases hc : S.2[k]? with
  | none => rw [hc] at h; cases h
  | some c =>
    rw [hc] at h
    cases h
    exact ⟨c, rfl, rfl⟩
theorem wl_D {S : Sy} {ad : Cc → Nat} {ty : Bool → ClassId} {M M' : Mem} {A A' : Nat → Prop} (h : va_D A (wl S ad ty M)) (hA : ∀ c, c ∈ S.2 → A' (ad c)) : va_D A' (wl S ad ty M') := by
  refine ⟨fun i j p q hp hq hpq => ?_, fun k q hk => ?_⟩
  · obtain ⟨c, h1, e1⟩ := wl_map _ _ _ _ _ _ hp
    obtain ⟨d, h2, e2⟩ := wl_map _ _ _ _ _ _ hq
    exact h.1 i j _ _ (wl_at (M := M) h1) (wl_at (M := M) h2) (by rw [← e1, ← e2]; exact hpq)
  · obtain ⟨c, h1, e1⟩ := wl_map _ _ _ _ _ _ hk
    rw [e1]
    exact hA c (List.mem_of_getElem? h1)
theorem enS_upd {S : Sy} {ad : Cc → Nat} {ty : Bool → ClassId} {M : Mem} {c : Cc} {k : Nat} {v : Int} (d : Cc) (hd : d ≠ c) : enS ad ty (updM M c k v) d (S.1 d) = enS ad ty M d (S.1 d) := by
  have e : ∀ j, updM M c k v d j = M d j := fun j => by simp [updM, hd]
  cases S.1 d with
  | none => rfl
  | some x =>
    rcases x with ⟨b, n⟩ | ⟨ci, fl⟩
    · simp [enS, e]
    · have : enF ad (updM M c k v) d = enF ad M d := by
        funext k o
        cases o with
        | none => simp [enF, e]
        | some q => rfl
      simp [enS, this]
def QcS (S : Sy) (ad : Cc → Nat) (D : va_G) (ty : Bool → ClassId) (sz : Nat) (Q : Option Val → Mem → Prop) : Array Value → State → Outcome → State → Prop := fun _ st o t =>
  (∃ v M', o = .returned (v.map (cvv ad)) ∧ Q v M' ∧ va_P D vwCl (wl S ad ty M') t.heap) ∧ va_F (AA S ad sz) st t
def PcS (S : Sy) (ad : Cc → Nat) (D : va_G) (ty : Bool → ClassId) (sz : Nat) (As : List Val) (M : Mem) : Array Value → State → Prop :=
  va_Pc (As.map (cvv ad)) (fun U => U.heap.size = sz ∧ va_P D vwCl (wl S ad ty M) U.heap ∧ va_K D vwCl [(ty false, .int), (ty true, .char)] U ∧ va_D (fun _ => True) (wl S ad ty M) ∧ NW U)
def Sem (S : Sy) (q : MI) (As : List Val) (M : Mem) (Q : Option Val → Mem → Prop) : Prop :=
  ∀ (l : Launch) (ad : Cc → Nat) (D : va_G) (ty : Bool → ClassId) (sz : Nat), Met l q.1 (miW q) (miRm q) (PcS S ad D ty sz As M) (QcS S ad D ty sz Q) 0 0 (AA S ad sz)
def lk : List (Option Val) → Nat → Option Val
  | [], _ => none
  | a :: _, 0 => a
  | _ :: t, n + 1 => lk t n
def stL : List (Option Val) → Nat → Val → List (Option Val)
  | [], _, _ => []
  | _ :: t, 0, v => some v :: t
  | a :: t, n + 1, v => a :: stL t n v
theorem lk_st : ∀ (l : List (Option Val)) (i : Nat) (v : Val) (j : Nat) (w : Val), lk (stL l i v) j = some w → (j = i ∧ w = v) ∨ (j ≠ i ∧ lk l j = some w)
  | [], _, _, _, _, h => by simp [stL, lk] at h
  | _ :: t, 0, v, 0, w, h => by simp [stL, lk] at h; exact Or.inl ⟨rfl, h.symm⟩
  | _ :: t, 0, v, j + 1, w, h => Or.inr ⟨by omega, h⟩
  | a :: t, n + 1, v, 0, w, h => Or.inr ⟨by omega, h⟩
  | a :: t, n + 1, v, j + 1, w, h => by
    rcases lk_st t n v j w h with ⟨e, f⟩ | ⟨e, f⟩
    · exact Or.inl ⟨by omega, f⟩
    · exact Or.inr ⟨by omega, f⟩
theorem lk_lt : ∀ (l : List (Option Val)) (j : Nat) (w : Val), lk l j = some w → j < l.length
  | [], _, _, h => by simp [lk] at h
  | _ :: t, 0, _, _ => by simp
  | _ :: t, j + 1, w, h => by have := lk_lt t j w h; simp; omega
def LH (ad : Cc → Nat) (lsA : Array Slot) (n : Nat) (ls : List (Option Val)) : Prop := lsA.size = n ∧ lv_wf lsA ∧ ∀ i v, lk ls i = some v → lsA[i]? = some (.val (cvv ad v))
def lvl (ad : Cc → Nat) (ls : List (Option Val)) : List (Nat × Value) := (List.range ls.length).filterMap (fun j => (lk ls j).map (fun v => (j, cvv ad v)))
theorem LH.has {ad : Cc → Nat} {lsA : Array Slot} {n : Nat} {ls : List (Option Val)} (h : LH ad lsA n ls) : lv_has lsA n (lvl ad ls) := by
  refine ⟨h.1, h.2.1, fun q hq => ?_⟩
  obtain ⟨j, -, hj⟩ := List.mem_filterMap.mp hq
  cases hk : lk ls j with
  | none => rw [hk] at hj; cases hj
  | some v =>
    rw [hk] at hj
    cases hj
    exact h.2.2 j v hk
theorem cvv_cat (ad : Cc → Nat) (v : Val) : (cvv ad v).category = 1 := by cases v <;> rfl
theorem LH.set {ad : Cc → Nat} {ls' : Array Slot} {n : Nat} {ls : List (Option Val)} {i : Nat} {v : Val} (hv : lv_has ls' n ((i, cvv ad v) :: (lvl ad ls).filter (fun q => !(q.1 == i) && !(q.1 + 1 == i && q.2.category == 2)))) : LH ad ls' n (stL ls i v) := by
  refine ⟨hv.1, hv.2.1, fun j w hj => ?_⟩
  rcases lk_st ls i v j w hj with ⟨e, f⟩ | ⟨e, f⟩
  · subst e; subst f
    exact hv.2.2 (j, cvv ad w) List.mem_cons_self
  · refine hv.2.2 (j, cvv ad w) (List.mem_cons_of_mem _ (List.mem_filter.mpr ⟨List.mem_filterMap.mpr ⟨j, List.mem_range.mpr (lk_lt _ _ _ f), by rw [f]; rfl⟩, ?_⟩))
    simp [e, cvv_cat]
/-- what stands fast while a method runs -/
def CX (S : Sy) (q : MI) (p : Program) (s : State) (m : MethodId) (args : Array Value) (meth : Method) (c : Code) (D : va_G) (ty : Bool → ClassId) : Prop :=
  p.tables.exec = Jvm.exec ∧ c.code = q.2.1 ∧ meth.sig.returnType = q.2.2.2.1 ∧ c.maxLocals = q.2.2.1 ∧ s.vm.findClass q.1.cls = some m.cls ∧ (∀ w ∈ TBL, w.before args s = true) ∧ meth.locks = false ∧ va_K D vwCl [(ty false, .int), (ty true, .char)] s ∧ NW s ∧ SyOk S
def Ev (S : Sy) (q : MI) (pc : Nat) (ls : List (Option Val)) (st : List Val) (M : Mem) (Q : Option Val → Mem → Prop) : Prop :=
  ∀ (p : Program) (l : Launch) (e : Env) (s : State) (m : MethodId) (args : Array Value) (below : List Frame) (meth : Method) (c : Code) (ad : Cc → Nat) (D : va_G) (ty : Bool → ClassId) (H : Heap) (locs : List Loc) (lsA : Array Slot),
    CX S q p s m args meth c D ty → va_P D vwCl (wl S ad ty M) H → va_D (AA S ad s.heap.size) (wl S ad ty M) → va_S (AA S ad s.heap.size) s.heap H locs → LH ad lsA q.2.2.1 ls →
    W p l e (miRm q) s m args below meth c H locs 0 0 (MQ below (QcS S ad D ty s.heap.size Q) args s 0 0 (AA S ad s.heap.size)) (F0 m pc lsA (st.map (cvv ad)))
end
section
theorem sl_len (ad : Cc → Nat) : ∀ As : List Val, (lg_sl (As.map (cvv ad))).length = As.length
  | [] => rfl
  | a :: t => by
    have h := sl_len ad t
    simp only [lg_sl, List.map_cons, List.flatMap_cons, List.length_append, List.length_cons] at h ⊢
    rw [if_neg (by rw [cvv_cat]; decide)]
    simp only [List.length_cons, List.length_nil]
    omega
theorem lv_args_at (ad : Cc → Nat) : ∀ (As : List Val) (b i : Nat) (v : Val), As[i]? = some v → (b + i, cvv ad v) ∈ lv_args b (As.map (cvv ad))
  | [], _, _, _, h => by simp at h
  | a :: t, b, 0, v, h => by
    simp at h
    subst h
    simp [lv_args]
  | a :: t, b, i + 1, v, h => by
    have h2 := lv_args_at ad t (b + 1) i v (by simpa using h)
    simp only [List.map_cons, lv_args, if_neg (show ¬ (cvv ad a).category = 2 by rw [cvv_cat]; decide)]
    exact List.mem_cons_of_mem _ (by rw [show b + (i + 1) = b + 1 + i by omega]; exact h2)
theorem lk_entry : ∀ (As : List Val) (n i : Nat) (v : Val), lk (As.map some ++ List.replicate n none) i = some v → As[i]? = some v
  | [], 0, i, v, h => by simp [lk] at h
  | [], n + 1, 0, v, h => by simp [List.replicate_succ, lk] at h
  | [], n + 1, i + 1, v, h => by
    have h2 := lk_entry [] n i v (by simpa [List.replicate_succ, lk] using h)
    simp at h2
  | a :: t, n, 0, v, h => by simpa [lk] using h
  | a :: t, n, i + 1, v, h => by
    have h2 := lk_entry t n i v (by simpa [lk] using h)
    simpa using h2
theorem Sem.of {S : Sy} {q : MI} {As : List Val} {M : Mem} {Q : Option Val → Mem → Prop} {ls0 : List (Option Val)} (hp : plainName q.1.cls = true) (ok : SyOk S) (hn : As.length ≤ q.2.2.1) (hl : As.map some ++ List.replicate (q.2.2.1 - As.length) none = ls0) (k : Ev S q 0 ls0 [] M Q) : Sem S q As M Q := by
  intro l ad D ty sz
  refine Met.ofW (cc := q.2.1) (maxL := q.2.2.1) (ret := q.2.2.2.1) hp rfl ?_
  intro p e s m args below meth c s₁ B hml hv
  obtain ⟨hargs, hsz, hP, hK, hD, hN⟩ := hv
  subst hsz
  have hts := atoms_spec (ws := miW q) B.pre
  subst hl
  have h0 := lv_entry (As.map (cvv ad)) (n := q.2.2.1) (by rw [sl_len]; exact hn)
  rw [hargs, lg_entry_eq, ← hargs]
  exact k p l e s m args below meth c ad D ty s.heap [] _ ⟨B.exec, B.bytes, B.returns, hml, findClass_of_methodNamed B.named, fun w h => hts w (List.mem_cons_of_mem _ h), B.notSynchronized, hK, hN, ok⟩ hP (wl_D hD (fun c hc => Or.inl ⟨c, hc, rfl⟩)) va_S.rf ⟨h0.1, h0.2.1, fun i v hi => h0.2.2 (i, cvv ad v) (by simpa using lv_args_at ad As 0 i v (lk_entry _ _ _ _ hi))⟩
section RU
variable {S : Sy} {q : MI} {pc np : Nat} {ls : List (Option Val)} {st : List Val} {M : Mem} {Q : Option Val → Mem → Prop}
theorem ev_goto {off : Int} (hd : decode q.2.1 pc = .ok (.goto off, 3)) (ht : (pc : Int) + off = (np : Int)) (k : Ev S q np ls st M Q) : Ev S q pc ls st M Q := by
  intro p l e s m args below meth c ad D ty H locs lsA hc hP hD hS hL
  exact lv_goto hc.1 hc.2.1 hd ht (k p l e s m args below meth c ad D ty H locs lsA hc hP hD hS hL)
theorem ev_iconst {n : Int} (hd : decode q.2.1 pc = .ok (.iconst n, 1)) (hn : pc + 1 = np) (k : Ev S q np ls (.inl n :: st) M Q) : Ev S q pc ls st M Q := by
  subst hn
  intro p l e s m args below meth c ad D ty H locs lsA hc hP hD hS hL
  exact lv_iconst hc.1 hc.2.1 hd rfl (k p l e s m args below meth c ad D ty H locs lsA hc hP hD hS hL)
theorem ev_bipush {n : Int} (hd : decode q.2.1 pc = .ok (.bipush n, 2)) (hv : (Int8.ofInt n).toInt32 = Int32.ofInt n) (hn : pc + 2 = np) (k : Ev S q np ls (.inl n :: st) M Q) : Ev S q pc ls st M Q := by
  subst hn
  intro p l e s m args below meth c ad D ty H locs lsA hc hP hD hS hL
  exact lv_bipush hc.1 hc.2.1 hd hv (k p l e s m args below meth c ad D ty H locs lsA hc hP hD hS hL)
theorem ev_sipush {n : Int} (hd : decode q.2.1 pc = .ok (.sipush n, 3)) (hv : (Int16.ofInt n).toInt32 = Int32.ofInt n) (hn : pc + 3 = np) (k : Ev S q np ls (.inl n :: st) M Q) : Ev S q pc ls st M Q := by
  subst hn
  intro p l e s m args below meth c ad D ty H locs lsA hc hP hD hS hL
  exact lv_sipush hc.1 hc.2.1 hd hv (k p l e s m args below meth c ad D ty H locs lsA hc hP hD hS hL)
def SiteK (q : MI) (pc : Nat) (n : Int) : Prop := ∃ idx : Nat, Cond.constant q.1.cls idx (Int32.ofInt n) ∈ TBL ∧ decode q.2.1 pc = .ok (.ldc idx, 2)
theorem ev_ldc {n : Int} (hk : SiteK q pc n) (hn : pc + 2 = np) (k : Ev S q np ls (.inl n :: st) M Q) : Ev S q pc ls st M Q := by
  subst hn
  obtain ⟨idx, hw, hd⟩ := hk
  intro p l e s m args below meth c ad D ty H locs lsA hc hP hD hS hL
  exact lv_ldc hc.1 hc.2.1 hc.2.2.2.2.1 (hc.2.2.2.2.2.1 _ hw) hd (k p l e s m args below meth c ad D ty H locs lsA hc hP hD hS hL)
theorem ev_iload_n {i : Fin 4} {x : Int} (hd : decode q.2.1 pc = .ok (.iload_n i, 1)) (hl : lk ls i = some (.inl x)) (hn : pc + 1 = np) (k : Ev S q np ls (.inl x :: st) M Q) : Ev S q pc ls st M Q := by
  subst hn
  intro p l e s m args below meth c ad D ty H locs lsA hc hP hD hS hL
  exact lv_iload_n hc.1 hc.2.1 hd rfl (hL.2.2 i _ hl) (k p l e s m args below meth c ad D ty H locs lsA hc hP hD hS hL)
theorem ev_iload {i : Nat} {x : Int} (hd : decode q.2.1 pc = .ok (.iload i, 2)) (hl : lk ls i = some (.inl x)) (hn : pc + 2 = np) (k : Ev S q np ls (.inl x :: st) M Q) : Ev S q pc ls st M Q := by
  subst hn
  intro p l e s m args below meth c ad D ty H locs lsA hc hP hD hS hL
  exact lv_iload hc.1 hc.2.1 hd (hL.2.2 i _ hl) (k p l e s m args below meth c ad D ty H locs lsA hc hP hD hS hL)
theorem ev_aload_n {i : Fin 4} {x : Cc} (hd : decode q.2.1 pc = .ok (.aload_n i, 1)) (hl : lk ls i = some (.inr x)) (hn : pc + 1 = np) (k : Ev S q np ls (.inr x :: st) M Q) : Ev S q pc ls st M Q := by
  subst hn
  intro p l e s m args below meth c ad D ty H locs lsA hc hP hD hS hL
  exact lv_aload_n hc.1 hc.2.1 hd rfl (hL.2.2 i _ hl) (k p l e s m args below meth c ad D ty H locs lsA hc hP hD hS hL)
theorem ev_aload {i : Nat} {x : Cc} (hd : decode q.2.1 pc = .ok (.aload i, 2)) (hl : lk ls i = some (.inr x)) (hn : pc + 2 = np) (k : Ev S q np ls (.inr x :: st) M Q) : Ev S q pc ls st M Q := by
  subst hn
  intro p l e s m args below meth c ad D ty H locs lsA hc hP hD hS hL
  exact lv_aload hc.1 hc.2.1 hd (hL.2.2 i _ hl) (k p l e s m args below meth c ad D ty H locs lsA hc hP hD hS hL)
theorem ev_istore_n {i : Fin 4} {x : Int} (hd : decode q.2.1 pc = .ok (.istore_n i, 1)) (hi : (i : Nat) < q.2.2.1) (hn : pc + 1 = np) (k : Ev S q np (stL ls i (.inl x)) st M Q) : Ev S q pc ls (.inl x :: st) M Q := by
  subst hn
  intro p l e s m args below meth c ad D ty H locs lsA hc hP hD hS hL
  exact lv_istore_n hc.1 hc.2.1 hd rfl hL.has hi rfl (fun ls' hv => k p l e s m args below meth c ad D ty H locs ls' hc hP hD hS (LH.set (v := .inl x) hv))
theorem ev_istore {i : Nat} {x : Int} (hd : decode q.2.1 pc = .ok (.istore i, 2)) (hi : i < q.2.2.1) (hn : pc + 2 = np) (k : Ev S q np (stL ls i (.inl x)) st M Q) : Ev S q pc ls (.inl x :: st) M Q := by
  subst hn
  intro p l e s m args below meth c ad D ty H locs lsA hc hP hD hS hL
  exact lv_istore hc.1 hc.2.1 hd hL.has hi rfl (fun ls' hv => k p l e s m args below meth c ad D ty H locs ls' hc hP hD hS (LH.set (v := .inl x) hv))
theorem ev_astore_n {i : Fin 4} {x : Cc} (hd : decode q.2.1 pc = .ok (.astore_n i, 1)) (hi : (i : Nat) < q.2.2.1) (hn : pc + 1 = np) (k : Ev S q np (stL ls i (.inr x)) st M Q) : Ev S q pc ls (.inr x :: st) M Q := by
  subst hn
  intro p l e s m args below meth c ad D ty H locs lsA hc hP hD hS hL
  exact lv_astore_n hc.1 hc.2.1 hd rfl hL.has hi rfl (fun ls' hv => k p l e s m args below meth c ad D ty H locs ls' hc hP hD hS (LH.set (v := .inr x) hv))
theorem ev_astore {i : Nat} {x : Cc} (hd : decode q.2.1 pc = .ok (.astore i, 2)) (hi : i < q.2.2.1) (hn : pc + 2 = np) (k : Ev S q np (stL ls i (.inr x)) st M Q) : Ev S q pc ls (.inr x :: st) M Q := by
  subst hn
  intro p l e s m args below meth c ad D ty H locs lsA hc hP hD hS hL
  exact lv_astore hc.1 hc.2.1 hd hL.has hi rfl (fun ls' hv => k p l e s m args below meth c ad D ty H locs ls' hc hP hD hS (LH.set (v := .inr x) hv))
theorem lvl_at {ad : Cc → Nat} {ls : List (Option Val)} {i : Nat} {v : Val} (h : lk ls i = some v) : ∃ k : Nat, (lvl ad ls)[k]? = some (i, cvv ad v) :=
  List.getElem?_of_mem (List.mem_filterMap.mpr ⟨i, List.mem_range.mpr (lk_lt _ _ _ h), by rw [h]; rfl⟩)
theorem ev_iinc {i : Nat} {n x : Int} (hd : decode q.2.1 pc = .ok (.iinc i n, 3)) (hl : lk ls i = some (.inl x)) (hi : i < q.2.2.1) (hn : pc + 3 = np) (k : Ev S q np (stL ls i (.inl (x + n))) st M Q) : Ev S q pc ls st M Q := by
  subst hn
  intro p l e s m args below meth c ad D ty H locs lsA hc hP hD hS hL
  obtain ⟨j, hj⟩ := lvl_at (ad := ad) hl
  exact lv_iinc hc.1 hc.2.1 hd hL.has hj (by rw [Int32.ofInt_add]) hi rfl (fun ls' hv => k p l e s m args below meth c ad D ty H locs ls' hc hP hD hS (LH.set (v := .inl (x + n)) hv))
theorem ev_iadd {x y : Int} (hd : decode q.2.1 pc = .ok (.iadd, 1)) (hn : pc + 1 = np) (k : Ev S q np ls (.inl (x + y) :: st) M Q) : Ev S q pc ls (.inl y :: .inl x :: st) M Q := by
  subst hn
  intro p l e s m args below meth c ad D ty H locs lsA hc hP hD hS hL
  have h := k p l e s m args below meth c ad D ty H locs lsA hc hP hD hS hL
  simp only [List.map_cons, cvv, Int32.ofInt_add] at h
  exact lv_iadd hc.1 hc.2.1 hd h
theorem ev_isub {x y : Int} (hd : decode q.2.1 pc = .ok (.isub, 1)) (hn : pc + 1 = np) (k : Ev S q np ls (.inl (x - y) :: st) M Q) : Ev S q pc ls (.inl y :: .inl x :: st) M Q := by
  subst hn
  intro p l e s m args below meth c ad D ty H locs lsA hc hP hD hS hL
  have h := k p l e s m args below meth c ad D ty H locs lsA hc hP hD hS hL
  simp only [List.map_cons, cvv, Int32.ofInt_sub] at h
  exact lv_isub hc.1 hc.2.1 hd h
theorem ev_imul {x y : Int} (hd : decode q.2.1 pc = .ok (.imul, 1)) (hn : pc + 1 = np) (k : Ev S q np ls (.inl (x * y) :: st) M Q) : Ev S q pc ls (.inl y :: .inl x :: st) M Q := by
  subst hn
  intro p l e s m args below meth c ad D ty H locs lsA hc hP hD hS hL
  have h := k p l e s m args below meth c ad D ty H locs lsA hc hP hD hS hL
  simp only [List.map_cons, cvv, Int32.ofInt_mul] at h
  exact lv_imul hc.1 hc.2.1 hd h
theorem ev_dup {x : Val} (hd : decode q.2.1 pc = .ok (.dup, 1)) (hn : pc + 1 = np) (k : Ev S q np ls (x :: x :: st) M Q) : Ev S q pc ls (x :: st) M Q := by
  subst hn
  intro p l e s m args below meth c ad D ty H locs lsA hc hP hD hS hL
  exact lv_dup hc.1 hc.2.1 hd (cvv_cat ad x) (k p l e s m args below meth c ad D ty H locs lsA hc hP hD hS hL)
theorem ev_dup2 {x y : Val} (hd : decode q.2.1 pc = .ok (.dup2, 1)) (hn : pc + 1 = np) (k : Ev S q np ls (x :: y :: x :: y :: st) M Q) : Ev S q pc ls (x :: y :: st) M Q := by
  subst hn
  intro p l e s m args below meth c ad D ty H locs lsA hc hP hD hS hL
  exact lv_dup2_11 hc.1 hc.2.1 hd (cvv_cat ad x) (cvv_cat ad y) (k p l e s m args below meth c ad D ty H locs lsA hc hP hD hS hL)
theorem i32_eq {x y : Int} (hx : Rng x) (hy : Rng y) : Int32.ofInt x = Int32.ofInt y ↔ x = y := by
  constructor
  · intro h
    have h2 := congrArg Int32.toInt h
    rwa [Int32.toInt_ofInt_of_le (by omega) (by omega), Int32.toInt_ofInt_of_le (by omega) (by omega)] at h2
  · rintro rfl; rfl
theorem i32_lt {x y : Int} (hx : Rng x) (hy : Rng y) : Int32.ofInt x < Int32.ofInt y ↔ x < y := by
  rw [Int32.lt_iff_toInt_lt, Int32.toInt_ofInt_of_le (by omega) (by omega), Int32.toInt_ofInt_of_le (by omega) (by omega)]
theorem i32_le {x y : Int} (hx : Rng x) (hy : Rng y) : Int32.ofInt x ≤ Int32.ofInt y ↔ x ≤ y := by
  rw [Int32.le_iff_toInt_le, Int32.toInt_ofInt_of_le (by omega) (by omega), Int32.toInt_ofInt_of_le (by omega) (by omega)]
theorem rng0 : Rng 0 := by unfold Rng; omega
theorem i32_toInt {x : Int} (hx : Rng x) : (Int32.ofInt x).toInt = x := Int32.toInt_ofInt_of_le (by omega) (by omega)

theorem ev_icmp_eq {x y : Int} {off : Int} {tgt : Nat} (hd : decode q.2.1 pc = .ok (.if_icmp .eq off, 3)) (ht : (pc : Int) + off = (tgt : Int)) (hn : pc + 3 = np) (hx : Rng x) (hy : Rng y) (kt : x = y → Ev S q tgt ls st M Q) (kf : ¬ x = y → Ev S q np ls st M Q) : Ev S q pc ls (.inl y :: .inl x :: st) M Q := by
  subst hn
  intro p l e s m args below meth c ad D ty H locs lsA hc hP hD hS hL
  exact lv_icmp_eq hc.1 hc.2.1 hd ht (fun h => kt ((i32_eq hx hy).mp h) p l e s m args below meth c ad D ty H locs lsA hc hP hD hS hL) (fun h => kf (fun h2 => h ((i32_eq hx hy).mpr h2)) p l e s m args below meth c ad D ty H locs lsA hc hP hD hS hL)
theorem ev_if_eq {x : Int} {off : Int} {tgt : Nat} (hd : decode q.2.1 pc = .ok (.ifCond .eq off, 3)) (ht : (pc : Int) + off = (tgt : Int)) (hn : pc + 3 = np) (hx : Rng x) (kt : x = 0 → Ev S q tgt ls st M Q) (kf : ¬ x = 0 → Ev S q np ls st M Q) : Ev S q pc ls (.inl x :: st) M Q := by
  subst hn
  intro p l e s m args below meth c ad D ty H locs lsA hc hP hD hS hL
  exact lv_if_eq hc.1 hc.2.1 hd ht (fun h => kt ((i32_eq hx rng0).mp h) p l e s m args below meth c ad D ty H locs lsA hc hP hD hS hL) (fun h => kf (fun h2 => h ((i32_eq hx rng0).mpr h2)) p l e s m args below meth c ad D ty H locs lsA hc hP hD hS hL)
theorem ev_icmp_ne {x y : Int} {off : Int} {tgt : Nat} (hd : decode q.2.1 pc = .ok (.if_icmp .ne off, 3)) (ht : (pc : Int) + off = (tgt : Int)) (hn : pc + 3 = np) (hx : Rng x) (hy : Rng y) (kt : ¬ x = y → Ev S q tgt ls st M Q) (kf : x = y → Ev S q np ls st M Q) : Ev S q pc ls (.inl y :: .inl x :: st) M Q := by
  subst hn
  intro p l e s m args below meth c ad D ty H locs lsA hc hP hD hS hL
  exact lv_icmp_ne hc.1 hc.2.1 hd ht (fun h => kt ((not_congr (i32_eq hx hy)).mp h) p l e s m args below meth c ad D ty H locs lsA hc hP hD hS hL) (fun h => kf ((i32_eq hx hy).mp h) p l e s m args below meth c ad D ty H locs lsA hc hP hD hS hL)
theorem ev_if_ne {x : Int} {off : Int} {tgt : Nat} (hd : decode q.2.1 pc = .ok (.ifCond .ne off, 3)) (ht : (pc : Int) + off = (tgt : Int)) (hn : pc + 3 = np) (hx : Rng x) (kt : ¬ x = 0 → Ev S q tgt ls st M Q) (kf : x = 0 → Ev S q np ls st M Q) : Ev S q pc ls (.inl x :: st) M Q := by
  subst hn
  intro p l e s m args below meth c ad D ty H locs lsA hc hP hD hS hL
  exact lv_if_ne hc.1 hc.2.1 hd ht (fun h => kt ((not_congr (i32_eq hx rng0)).mp h) p l e s m args below meth c ad D ty H locs lsA hc hP hD hS hL) (fun h => kf ((i32_eq hx rng0).mp h) p l e s m args below meth c ad D ty H locs lsA hc hP hD hS hL)
theorem ev_icmp_lt {x y : Int} {off : Int} {tgt : Nat} (hd : decode q.2.1 pc = .ok (.if_icmp .lt off, 3)) (ht : (pc : Int) + off = (tgt : Int)) (hn : pc + 3 = np) (hx : Rng x) (hy : Rng y) (kt : x < y → Ev S q tgt ls st M Q) (kf : ¬ x < y → Ev S q np ls st M Q) : Ev S q pc ls (.inl y :: .inl x :: st) M Q := by
  subst hn
  intro p l e s m args below meth c ad D ty H locs lsA hc hP hD hS hL
  exact lv_icmp_lt hc.1 hc.2.1 hd ht (fun h => kt ((i32_lt hx hy).mp h) p l e s m args below meth c ad D ty H locs lsA hc hP hD hS hL) (fun h => kf (fun h2 => h ((i32_lt hx hy).mpr h2)) p l e s m args below meth c ad D ty H locs lsA hc hP hD hS hL)
theorem ev_if_lt {x : Int} {off : Int} {tgt : Nat} (hd : decode q.2.1 pc = .ok (.ifCond .lt off, 3)) (ht : (pc : Int) + off = (tgt : Int)) (hn : pc + 3 = np) (hx : Rng x) (kt : x < 0 → Ev S q tgt ls st M Q) (kf : ¬ x < 0 → Ev S q np ls st M Q) : Ev S q pc ls (.inl x :: st) M Q := by
  subst hn
  intro p l e s m args below meth c ad D ty H locs lsA hc hP hD hS hL
  exact lv_if_lt hc.1 hc.2.1 hd ht (fun h => kt ((i32_lt hx rng0).mp h) p l e s m args below meth c ad D ty H locs lsA hc hP hD hS hL) (fun h => kf (fun h2 => h ((i32_lt hx rng0).mpr h2)) p l e s m args below meth c ad D ty H locs lsA hc hP hD hS hL)
theorem ev_icmp_ge {x y : Int} {off : Int} {tgt : Nat} (hd : decode q.2.1 pc = .ok (.if_icmp .ge off, 3)) (ht : (pc : Int) + off = (tgt : Int)) (hn : pc + 3 = np) (hx : Rng x) (hy : Rng y) (kt : x ≥ y → Ev S q tgt ls st M Q) (kf : ¬ x ≥ y → Ev S q np ls st M Q) : Ev S q pc ls (.inl y :: .inl x :: st) M Q := by
  subst hn
  intro p l e s m args below meth c ad D ty H locs lsA hc hP hD hS hL
  exact lv_icmp_ge hc.1 hc.2.1 hd ht (fun h => kt ((i32_le hy hx).mp h) p l e s m args below meth c ad D ty H locs lsA hc hP hD hS hL) (fun h => kf (fun h2 => h ((i32_le hy hx).mpr h2)) p l e s m args below meth c ad D ty H locs lsA hc hP hD hS hL)
theorem ev_if_ge {x : Int} {off : Int} {tgt : Nat} (hd : decode q.2.1 pc = .ok (.ifCond .ge off, 3)) (ht : (pc : Int) + off = (tgt : Int)) (hn : pc + 3 = np) (hx : Rng x) (kt : x ≥ 0 → Ev S q tgt ls st M Q) (kf : ¬ x ≥ 0 → Ev S q np ls st M Q) : Ev S q pc ls (.inl x :: st) M Q := by
  subst hn
  intro p l e s m args below meth c ad D ty H locs lsA hc hP hD hS hL
  exact lv_if_ge hc.1 hc.2.1 hd ht (fun h => kt ((i32_le rng0 hx).mp h) p l e s m args below meth c ad D ty H locs lsA hc hP hD hS hL) (fun h => kf (fun h2 => h ((i32_le rng0 hx).mpr h2)) p l e s m args below meth c ad D ty H locs lsA hc hP hD hS hL)
theorem ev_icmp_gt {x y : Int} {off : Int} {tgt : Nat} (hd : decode q.2.1 pc = .ok (.if_icmp .gt off, 3)) (ht : (pc : Int) + off = (tgt : Int)) (hn : pc + 3 = np) (hx : Rng x) (hy : Rng y) (kt : x > y → Ev S q tgt ls st M Q) (kf : ¬ x > y → Ev S q np ls st M Q) : Ev S q pc ls (.inl y :: .inl x :: st) M Q := by
  subst hn
  intro p l e s m args below meth c ad D ty H locs lsA hc hP hD hS hL
  exact lv_icmp_gt hc.1 hc.2.1 hd ht (fun h => kt ((i32_lt hy hx).mp h) p l e s m args below meth c ad D ty H locs lsA hc hP hD hS hL) (fun h => kf (fun h2 => h ((i32_lt hy hx).mpr h2)) p l e s m args below meth c ad D ty H locs lsA hc hP hD hS hL)
theorem ev_if_gt {x : Int} {off : Int} {tgt : Nat} (hd : decode q.2.1 pc = .ok (.ifCond .gt off, 3)) (ht : (pc : Int) + off = (tgt : Int)) (hn : pc + 3 = np) (hx : Rng x) (kt : x > 0 → Ev S q tgt ls st M Q) (kf : ¬ x > 0 → Ev S q np ls st M Q) : Ev S q pc ls (.inl x :: st) M Q := by
  subst hn
  intro p l e s m args below meth c ad D ty H locs lsA hc hP hD hS hL
  exact lv_if_gt hc.1 hc.2.1 hd ht (fun h => kt ((i32_lt rng0 hx).mp h) p l e s m args below meth c ad D ty H locs lsA hc hP hD hS hL) (fun h => kf (fun h2 => h ((i32_lt rng0 hx).mpr h2)) p l e s m args below meth c ad D ty H locs lsA hc hP hD hS hL)
theorem ev_icmp_le {x y : Int} {off : Int} {tgt : Nat} (hd : decode q.2.1 pc = .ok (.if_icmp .le off, 3)) (ht : (pc : Int) + off = (tgt : Int)) (hn : pc + 3 = np) (hx : Rng x) (hy : Rng y) (kt : x ≤ y → Ev S q tgt ls st M Q) (kf : ¬ x ≤ y → Ev S q np ls st M Q) : Ev S q pc ls (.inl y :: .inl x :: st) M Q := by
  subst hn
  intro p l e s m args below meth c ad D ty H locs lsA hc hP hD hS hL
  exact lv_icmp_le hc.1 hc.2.1 hd ht (fun h => kt ((i32_le hx hy).mp h) p l e s m args below meth c ad D ty H locs lsA hc hP hD hS hL) (fun h => kf (fun h2 => h ((i32_le hx hy).mpr h2)) p l e s m args below meth c ad D ty H locs lsA hc hP hD hS hL)
theorem ev_if_le {x : Int} {off : Int} {tgt : Nat} (hd : decode q.2.1 pc = .ok (.ifCond .le off, 3)) (ht : (pc : Int) + off = (tgt : Int)) (hn : pc + 3 = np) (hx : Rng x) (kt : x ≤ 0 → Ev S q tgt ls st M Q) (kf : ¬ x ≤ 0 → Ev S q np ls st M Q) : Ev S q pc ls (.inl x :: st) M Q := by
  subst hn
  intro p l e s m args below meth c ad D ty H locs lsA hc hP hD hS hL
  exact lv_if_le hc.1 hc.2.1 hd ht (fun h => kt ((i32_le hx rng0).mp h) p l e s m args below meth c ad D ty H locs lsA hc hP hD hS hL) (fun h => kf (fun h2 => h ((i32_le hx rng0).mpr h2)) p l e s m args below meth c ad D ty H locs lsA hc hP hD hS hL)
end RU
end
section

theorem iN {x : Int} (h : 0 ≤ x) : Int32.ofInt x = nI x.toNat := by
  conv => lhs; rw [← Int.toNat_of_nonneg h]
  exact Int32.ofInt_eq_ofNat
theorem iNn (n : Nat) : Int32.ofInt (n : Int) = nI n := Int32.ofInt_eq_ofNat
theorem fx_and (a b : Nat) : nI a &&& nI b = nI (a &&& b) := by
  apply Int32.toBitVec_inj.1
  show BitVec.ofNat 32 a &&& BitVec.ofNat 32 b = BitVec.ofNat 32 (a &&& b)
  apply BitVec.eq_of_getLsbD_eq
  intro i hi
  simp [hi]
theorem fx_or (a b : Nat) : nI a ||| nI b = nI (a ||| b) := by
  apply Int32.toBitVec_inj.1
  show BitVec.ofNat 32 a ||| BitVec.ofNat 32 b = BitVec.ofNat 32 (a ||| b)
  apply BitVec.eq_of_getLsbD_eq
  intro i hi
  simp [hi]
theorem fx_xor (a b : Nat) : nI a ^^^ nI b = nI (a ^^^ b) := by
  apply Int32.toBitVec_inj.1
  show BitVec.ofNat 32 a ^^^ BitVec.ofNat 32 b = BitVec.ofNat 32 (a ^^^ b)
  apply BitVec.eq_of_getLsbD_eq
  intro i hi
  simp [hi]
theorem fx_tn (x : Int) : (Int32.ofInt x).toBitVec.toNat = (x % 4294967296).toNat := by
  show (BitVec.ofInt 32 x).toNat = _
  rw [BitVec.toNat_ofInt]
  rfl
theorem fx_inj {x y : Int32} (h : x.toBitVec.toNat = y.toBitVec.toNat) : x = y := Int32.toBitVec_inj.1 (BitVec.eq_of_toNat_eq h)
theorem fx_mask (x : Int) (k : Nat) (hk : k ≤ 31) : Int32.ofInt x &&& Int32.ofInt ((2 ^ k - 1 : Nat) : Int) = Int32.ofInt (x % (2 ^ k : Nat)) := by
  apply fx_inj
  rw [Int32.toBitVec_and, BitVec.toNat_and, fx_tn, fx_tn, fx_tn]
  have hp : (2 : Nat) ^ k ≤ 2 ^ 31 := Nat.pow_le_pow_right (by decide) hk
  have h2 : (2 : Nat) ^ 31 = 2147483648 := rfl
  have h1 : 0 < (2 : Nat) ^ k := Nat.two_pow_pos k
  have e1 : (((2 ^ k - 1 : Nat) : Int) % 4294967296).toNat = 2 ^ k - 1 := by omega
  rw [e1, Nat.and_two_pow_sub_one_eq_mod]
  obtain ⟨d, hd⟩ : ∃ d, (4294967296 : Nat) = 2 ^ k * d := ⟨2 ^ (32 - k), by rw [← Nat.pow_add, show k + (32 - k) = 32 by omega]⟩
  have e2 : x % 4294967296 % ((2 ^ k : Nat) : Int) = x % ((2 ^ k : Nat) : Int) := by
    have : (4294967296 : Int) = ((2 ^ k : Nat) : Int) * (d : Int) := by rw [← Int.natCast_mul, ← hd]; rfl
    rw [this]
    exact Int.emod_emod_of_dvd _ (Int.dvd_mul_right _ _)
  have n1 : 0 ≤ x % 4294967296 := Int.emod_nonneg _ (by decide)
  have n2 : 0 ≤ x % ((2 ^ k : Nat) : Int) := Int.emod_nonneg _ (by omega)
  have n3 : x % ((2 ^ k : Nat) : Int) < ((2 ^ k : Nat) : Int) := Int.emod_lt_of_pos _ (by omega)
  rw [Int.emod_eq_of_lt (a := x % ((2 ^ k : Nat) : Int)) n2 (by omega)]
  have e3 : (((x % 4294967296).toNat % 2 ^ k : Nat) : Int) = x % ((2 ^ k : Nat) : Int) := by
    rw [Int.natCast_emod, Int.toNat_of_nonneg n1, e2]
  omega
theorem fx_cl : ∀ n : Fin 32, ((Int32.ofInt (n.val : Int) &&& 31).toBitVec.smod 32).toNat = n.val := by decide +kernel
theorem fx_cu : ∀ n : Fin 32, (((Int32.ofInt (n.val : Int)).toUInt32 &&& Int32.toUInt32 31).toBitVec % 32).toNat = n.val := by decide +kernel
theorem fx_cl' {y : Int} (h : 0 ≤ y ∧ y < 32) : ((Int32.ofInt y &&& 31).toBitVec.smod 32).toNat = y.toNat := by
  have := fx_cl ⟨y.toNat, by omega⟩
  simpa [Int.toNat_of_nonneg h.1] using this
theorem fx_cu' {y : Int} (h : 0 ≤ y ∧ y < 32) : (((Int32.ofInt y).toUInt32 &&& Int32.toUInt32 31).toBitVec % 32).toNat = y.toNat := by
  have := fx_cu ⟨y.toNat, by omega⟩
  simpa [Int.toNat_of_nonneg h.1] using this
theorem fx_shl (x : Int) {y : Int} (h : 0 ≤ y ∧ y < 32) : Int32.ofInt x <<< (Int32.ofInt y &&& 31) = Int32.ofInt (x * (2 ^ y.toNat : Nat)) := by
  apply fx_inj
  rw [pk_shl _ _ _ (fx_cl' h), fx_tn, fx_tn]
  have n1 : 0 ≤ x % 4294967296 := Int.emod_nonneg _ (by decide)
  have n2 : 0 ≤ (x * ((2 ^ y.toNat : Nat) : Int)) % 4294967296 := Int.emod_nonneg _ (by decide)
  have e : ((((x % 4294967296).toNat * 2 ^ y.toNat) % 2 ^ 32 : Nat) : Int) = (x * ((2 ^ y.toNat : Nat) : Int)) % 4294967296 := by
    rw [Int.natCast_emod, Int.natCast_mul, Int.toNat_of_nonneg n1, show ((2 ^ 32 : Nat) : Int) = 4294967296 from rfl, Int.mul_emod, Int.emod_emod, ← Int.mul_emod]
  omega
theorem fx_shr {x y : Int} (hx : Rng x) (h : 0 ≤ y ∧ y < 32) : Int32.ofInt x >>> (Int32.ofInt y &&& 31) = Int32.ofInt (x / (2 ^ y.toNat : Nat)) := by
  apply Int32.toInt_inj.mp
  have hp : 0 < (2 : Nat) ^ y.toNat := Nat.two_pow_pos _
  rw [pk_shr _ _ _ (fx_cl' h), i32_toInt hx, Int.shiftRight_eq_div_pow]
  have hp1 : (1 : Int) ≤ ((2 ^ y.toNat : Nat) : Int) := by omega
  generalize ((2 ^ y.toNat : Nat) : Int) = P at hp1 ⊢
  have b1 : -2147483648 ≤ x / P := Int.le_ediv_of_mul_le (by omega) (by have := hx.1; omega)
  have b2 : x / P < 2147483648 := Int.ediv_lt_of_lt_mul (by omega) (by have := hx.2; omega)
  rw [i32_toInt ⟨b1, b2⟩]
theorem fx_ushr {x y : Int} (h : 0 ≤ y ∧ y < 32) : ((Int32.ofInt x).toUInt32 >>> ((Int32.ofInt y).toUInt32 &&& Int32.toUInt32 31)).toInt32 = Int32.ofInt ((x % 4294967296) / (2 ^ y.toNat : Nat)) := by
  apply fx_inj
  rw [pk_ushr _ _ _ (fx_cu' h), fx_tn, fx_tn]
  have hp : 0 < (2 : Nat) ^ y.toNat := Nat.two_pow_pos _
  have n1 : 0 ≤ x % 4294967296 := Int.emod_nonneg _ (by decide)
  have n2 : x % 4294967296 < 4294967296 := Int.emod_lt_of_pos _ (by decide)
  have e : (((x % 4294967296).toNat / 2 ^ y.toNat : Nat) : Int) = (x % 4294967296) / ((2 ^ y.toNat : Nat) : Int) := by
    rw [Int.natCast_ediv, Int.toNat_of_nonneg n1]
  have hd : (x % 4294967296).toNat / 2 ^ y.toNat ≤ (x % 4294967296).toNat := Nat.div_le_self _ _
  rw [← e]
  generalize (x % 4294967296).toNat / 2 ^ y.toNat = g at hd ⊢
  omega
theorem fx_neg1 (x : Int) : Int32.ofInt x ^^^ (-1) = Int32.ofInt (-x - 1) := by
  have h1 : Int32.ofInt x ^^^ (-1) = ~~~ (Int32.ofInt x) := by
    apply Int32.toBitVec_inj.1
    show (Int32.ofInt x).toBitVec ^^^ BitVec.allOnes 32 = ~~~ (Int32.ofInt x).toBitVec
    rw [BitVec.xor_allOnes]
  rw [h1]
  have h2 : ~~~ (Int32.ofInt x) = - Int32.ofInt x - 1 := by
    apply Int32.toBitVec_inj.1
    show ~~~ (Int32.ofInt x).toBitVec = - (Int32.ofInt x).toBitVec - 1#32
    rw [BitVec.neg_eq_not_add, BitVec.add_sub_cancel]
  rw [h2, Int32.ofInt_sub, Int32.ofInt_neg]
  rfl
theorem fx_andnot {a b : Nat} (ha : a < 2147483648) (hb : b < 2147483648) : Int32.ofInt (a : Int) &&& Int32.ofInt (-(b : Int) - 1) = Int32.ofInt ((a - (a &&& b) : Nat) : Int) := by
  rw [← fx_neg1, iNn, iNn, iNn]
  apply fx_inj
  have t1 : ∀ n, n < 2147483648 → (nI n).toBitVec.toNat = n := fun n h => pk_tn (by omega)
  have hab : a &&& b ≤ a := Nat.and_le_left
  rw [t1 (a - (a &&& b)) (by omega)]
  have e : nI b ^^^ (-1) = ~~~ (nI b) := by
    apply Int32.toBitVec_inj.1
    show (nI b).toBitVec ^^^ BitVec.allOnes 32 = ~~~ (nI b).toBitVec
    rw [BitVec.xor_allOnes]
  rw [e, Int32.toBitVec_and, Int32.toBitVec_not]
  have hs : (nI a).toBitVec &&& ~~~ (nI b).toBitVec = (nI a).toBitVec - ((nI a).toBitVec &&& (nI b).toBitVec) := by
    have h5 : ((nI a).toBitVec &&& (nI b).toBitVec) + ((nI a).toBitVec &&& ~~~ (nI b).toBitVec) = (nI a).toBitVec := by
      rw [BitVec.add_eq_or_of_and_eq_zero]
      · apply BitVec.eq_of_getLsbD_eq
        intro i hi
        simp [hi]
        cases (nI a).toBitVec[i] <;> cases (nI b).toBitVec[i] <;> rfl
      · apply BitVec.eq_of_getLsbD_eq
        intro i hi
        simp [hi]
        cases (nI a).toBitVec[i] <;> cases (nI b).toBitVec[i] <;> simp
    generalize (nI a).toBitVec &&& ~~~ (nI b).toBitVec = X at h5 ⊢
    generalize (nI a).toBitVec &&& (nI b).toBitVec = Y at h5 ⊢
    rw [← h5, BitVec.add_comm, BitVec.add_sub_cancel]
  rw [hs, BitVec.toNat_sub_of_le, BitVec.toNat_and, t1 a ha, t1 b hb]
  rw [BitVec.le_def, BitVec.toNat_and, t1 a ha, t1 b hb]
  exact hab
end
section
section RV
variable {S : Sy} {q : MI} {pc np : Nat} {ls : List (Option Val)} {st : List Val} {M : Mem} {Q : Option Val → Mem → Prop}
theorem ev_idiv {x y : Int} (hd : decode q.2.1 pc = .ok (.idiv, 1)) (hx : 0 ≤ x ∧ x < 2147483648) (hy : 0 < y ∧ y < 2147483648) (hn : pc + 1 = np) (k : Ev S q np ls (.inl (x / y) :: st) M Q) : Ev S q pc ls (.inl y :: .inl x :: st) M Q := by
  subst hn
  intro p l e s m args below meth c ad D ty H locs lsA hc hP hD hS hL
  have h := k p l e s m args below meth c ad D ty H locs lsA hc hP hD hS hL
  obtain ⟨a, rfl⟩ := Int.eq_ofNat_of_zero_le hx.1
  obtain ⟨b, rfl⟩ := Int.eq_ofNat_of_zero_le (Int.le_of_lt hy.1)
  simp only [List.map_cons, cvv] at h ⊢
  rw [← Int.natCast_ediv, iNn, ← pk_div (by omega) (by omega) (by omega)] at h
  rw [iNn, iNn]
  exact lv_idiv hc.1 hc.2.1 hd (nI_ne0 (by omega) (by omega)) h
theorem ev_irem {x y : Int} (hd : decode q.2.1 pc = .ok (.irem, 1)) (hx : 0 ≤ x ∧ x < 2147483648) (hy : 0 < y ∧ y < 2147483648) (hn : pc + 1 = np) (k : Ev S q np ls (.inl (x % y) :: st) M Q) : Ev S q pc ls (.inl y :: .inl x :: st) M Q := by
  subst hn
  intro p l e s m args below meth c ad D ty H locs lsA hc hP hD hS hL
  have h := k p l e s m args below meth c ad D ty H locs lsA hc hP hD hS hL
  obtain ⟨a, rfl⟩ := Int.eq_ofNat_of_zero_le hx.1
  obtain ⟨b, rfl⟩ := Int.eq_ofNat_of_zero_le (Int.le_of_lt hy.1)
  simp only [List.map_cons, cvv] at h ⊢
  rw [← Int.natCast_emod, iNn, ← pk_rem (by omega) (by omega) (by omega)] at h
  rw [iNn, iNn]
  exact lv_irem hc.1 hc.2.1 hd (nI_ne0 (by omega) (by omega)) h
theorem ev_iand {x y : Int} (hd : decode q.2.1 pc = .ok (.iand, 1)) (hx : 0 ≤ x) (hy : 0 ≤ y) (hn : pc + 1 = np) (k : Ev S q np ls (.inl ((x.toNat &&& y.toNat : Nat) : Int) :: st) M Q) : Ev S q pc ls (.inl y :: .inl x :: st) M Q := by
  subst hn
  intro p l e s m args below meth c ad D ty H locs lsA hc hP hD hS hL
  have h := k p l e s m args below meth c ad D ty H locs lsA hc hP hD hS hL
  simp only [List.map_cons, cvv, iNn, ← fx_and] at h ⊢
  rw [iN hx, iN hy]
  exact lv_iand hc.1 hc.2.1 hd h
/-- x & (2^k - 1) -/
theorem ev_iandm (j : Nat) {x y : Int} (hd : decode q.2.1 pc = .ok (.iand, 1)) (hj : j ≤ 31) (hy : y = ((2 ^ j - 1 : Nat) : Int)) (hn : pc + 1 = np) (k : Ev S q np ls (.inl (x % (2 ^ j : Nat)) :: st) M Q) : Ev S q pc ls (.inl y :: .inl x :: st) M Q := by
  subst hn; subst hy
  intro p l e s m args below meth c ad D ty H locs lsA hc hP hD hS hL
  have h := k p l e s m args below meth c ad D ty H locs lsA hc hP hD hS hL
  simp only [List.map_cons, cvv, ← fx_mask x j hj] at h ⊢
  exact lv_iand hc.1 hc.2.1 hd h
/-- x & ~y -/
theorem ev_iandn {x y : Int} (hd : decode q.2.1 pc = .ok (.iand, 1)) (hx : 0 ≤ x ∧ x < 2147483648) (hy : 0 ≤ y ∧ y < 2147483648) (hn : pc + 1 = np) (k : Ev S q np ls (.inl ((x.toNat - (x.toNat &&& y.toNat) : Nat) : Int) :: st) M Q) : Ev S q pc ls (.inl (-y - 1) :: .inl x :: st) M Q := by
  subst hn
  intro p l e s m args below meth c ad D ty H locs lsA hc hP hD hS hL
  have h := k p l e s m args below meth c ad D ty H locs lsA hc hP hD hS hL
  simp only [List.map_cons, cvv] at h ⊢
  rw [← fx_andnot (by omega) (by omega), Int.toNat_of_nonneg hx.1, Int.toNat_of_nonneg hy.1] at h
  exact lv_iand hc.1 hc.2.1 hd h
theorem ev_ior {x y : Int} (hd : decode q.2.1 pc = .ok (.ior, 1)) (hx : 0 ≤ x) (hy : 0 ≤ y) (hn : pc + 1 = np) (k : Ev S q np ls (.inl ((x.toNat ||| y.toNat : Nat) : Int) :: st) M Q) : Ev S q pc ls (.inl y :: .inl x :: st) M Q := by
  subst hn
  intro p l e s m args below meth c ad D ty H locs lsA hc hP hD hS hL
  have h := k p l e s m args below meth c ad D ty H locs lsA hc hP hD hS hL
  simp only [List.map_cons, cvv, iNn, ← fx_or] at h ⊢
  rw [iN hx, iN hy]
  exact lv_ior hc.1 hc.2.1 hd h
theorem ev_ixor {x y : Int} (hd : decode q.2.1 pc = .ok (.ixor, 1)) (hx : 0 ≤ x) (hy : 0 ≤ y) (hn : pc + 1 = np) (k : Ev S q np ls (.inl ((x.toNat ^^^ y.toNat : Nat) : Int) :: st) M Q) : Ev S q pc ls (.inl y :: .inl x :: st) M Q := by
  subst hn
  intro p l e s m args below meth c ad D ty H locs lsA hc hP hD hS hL
  have h := k p l e s m args below meth c ad D ty H locs lsA hc hP hD hS hL
  simp only [List.map_cons, cvv, iNn, ← fx_xor] at h ⊢
  rw [iN hx, iN hy]
  exact lv_ixor hc.1 hc.2.1 hd h
theorem ev_inot {x : Int} (hd : decode q.2.1 pc = .ok (.ixor, 1)) (hn : pc + 1 = np) (k : Ev S q np ls (.inl (-x - 1) :: st) M Q) : Ev S q pc ls (.inl (-1) :: .inl x :: st) M Q := by
  subst hn
  intro p l e s m args below meth c ad D ty H locs lsA hc hP hD hS hL
  have h := k p l e s m args below meth c ad D ty H locs lsA hc hP hD hS hL
  simp only [List.map_cons, cvv, ← fx_neg1] at h ⊢
  exact lv_ixor hc.1 hc.2.1 hd h
theorem ev_ishl {x y : Int} (hd : decode q.2.1 pc = .ok (.ishl, 1)) (hy : 0 ≤ y ∧ y < 32) (hn : pc + 1 = np) (k : Ev S q np ls (.inl (x * (2 ^ y.toNat : Nat)) :: st) M Q) : Ev S q pc ls (.inl y :: .inl x :: st) M Q := by
  subst hn
  intro p l e s m args below meth c ad D ty H locs lsA hc hP hD hS hL
  have h := k p l e s m args below meth c ad D ty H locs lsA hc hP hD hS hL
  simp only [List.map_cons, cvv, ← fx_shl x hy] at h ⊢
  exact lv_ishl hc.1 hc.2.1 hd h
theorem ev_ishr {x y : Int} (hd : decode q.2.1 pc = .ok (.ishr, 1)) (hx : Rng x) (hy : 0 ≤ y ∧ y < 32) (hn : pc + 1 = np) (k : Ev S q np ls (.inl (x / (2 ^ y.toNat : Nat)) :: st) M Q) : Ev S q pc ls (.inl y :: .inl x :: st) M Q := by
  subst hn
  intro p l e s m args below meth c ad D ty H locs lsA hc hP hD hS hL
  have h := k p l e s m args below meth c ad D ty H locs lsA hc hP hD hS hL
  simp only [List.map_cons, cvv, ← fx_shr hx hy] at h ⊢
  exact lv_ishr hc.1 hc.2.1 hd h
theorem ev_iushrU {x y : Int} (hd : decode q.2.1 pc = .ok (.iushr, 1)) (hy : 0 ≤ y ∧ y < 32) (hn : pc + 1 = np) (k : Ev S q np ls (.inl ((x % 4294967296) / (2 ^ y.toNat : Nat)) :: st) M Q) : Ev S q pc ls (.inl y :: .inl x :: st) M Q := by
  subst hn
  intro p l e s m args below meth c ad D ty H locs lsA hc hP hD hS hL
  have h := k p l e s m args below meth c ad D ty H locs lsA hc hP hD hS hL
  simp only [List.map_cons, cvv] at h ⊢
  exact lv_iushr hc.1 hc.2.1 hd (fx_ushr hy) h
theorem ev_iushr {x y : Int} (hd : decode q.2.1 pc = .ok (.iushr, 1)) (hx : 0 ≤ x ∧ x < 2147483648) (hy : 0 ≤ y ∧ y < 32) (hn : pc + 1 = np) (k : Ev S q np ls (.inl (x / (2 ^ y.toNat : Nat)) :: st) M Q) : Ev S q pc ls (.inl y :: .inl x :: st) M Q :=
  ev_iushrU hd hy hn (by rw [Int.emod_eq_of_lt hx.1 (by omega)]; exact k)
theorem ev_i2c {x : Int} (hd : decode q.2.1 pc = .ok (.i2c, 1)) (hx : 0 ≤ x ∧ x < 65536) (hn : pc + 1 = np) (k : Ev S q np ls (.inl x :: st) M Q) : Ev S q pc ls (.inl x :: st) M Q := by
  subst hn
  intro p l e s m args below meth c ad D ty H locs lsA hc hP hD hS hL
  refine lv_i2c hc.1 hc.2.1 hd ?_ (k p l e s m args below meth c ad D ty H locs lsA hc hP hD hS hL)
  rw [pk_char, fx_tn, iN hx.1]
  congr 1
  omega
theorem ev_iret {v : Int} (hd : decode q.2.1 pc = .ok (.ireturn, 1)) (hr : q.2.2.2.1 = some .int) (hq : Q (some (.inl v)) M) : Ev S q pc ls [.inl v] M Q := by
  intro p l e s m args below meth c ad D ty H locs lsA hc hP hD hS hL
  exact W.iret (v := Int32.ofInt v) hc.1 hc.2.1 (hc.2.2.1.trans hr) (fun t ht hW => ⟨⟨some (.inl v), M, rfl, hq, by rw [ht]; exact hP⟩, hS.F ht⟩) hS.2.2 hd hc.2.2.2.2.2.2.1
theorem ev_zret {v : Int} (hd : decode q.2.1 pc = .ok (.ireturn, 1)) (hr : q.2.2.2.1 = some .boolean) (hv : v = 0 ∨ v = 1) (hq : Q (some (.inl v)) M) : Ev S q pc ls [.inl v] M Q := by
  intro p l e s m args below meth c ad D ty H locs lsA hc hP hD hS hL
  exact W.zret (v := Int32.ofInt v) hc.1 hc.2.1 (hc.2.2.1.trans hr) (by rcases hv with rfl | rfl <;> rfl) (fun t ht hW => ⟨⟨some (.inl v), M, rfl, hq, by rw [ht]; exact hP⟩, hS.F ht⟩) hS.2.2 hd hc.2.2.2.2.2.2.1
theorem ev_vret (hd : decode q.2.1 pc = .ok (.return_, 1)) (hr : q.2.2.2.1 = none) (hq : Q none M) : Ev S q pc ls [] M Q := by
  intro p l e s m args below meth c ad D ty H locs lsA hc hP hD hS hL
  exact W.vret hc.1 hc.2.1 (hc.2.2.1.trans hr) (fun t ht hW => ⟨⟨none, M, rfl, hq, by rw [ht]; exact hP⟩, hS.F ht⟩) hS.2.2 hd hc.2.2.2.2.2.2.1
theorem ev_aret {v : Cc} {n : String} (hd : decode q.2.1 pc = .ok (.areturn, 1)) (hr : q.2.2.2.1 = some (.object n)) (hq : Q (some (.inr v)) M) : Ev S q pc ls [.inr v] M Q := by
  intro p l e s m args below meth c ad D ty H locs lsA hc hP hD hS hL
  exact W.aret (v := .ref (ad v)) hc.1 hc.2.1 (hc.2.2.1.trans hr) (Or.inl ⟨n, rfl⟩) (Or.inr ⟨_, rfl⟩) (fun t ht hW => ⟨⟨some (.inr v), M, rfl, hq, by rw [ht]; exact hP⟩, hS.F ht⟩) hS.2.2 hd hc.2.2.2.2.2.2.1
-- switches
theorem ev_swIn {dflt lo hi : Int} {offs : Array Int} {len : Nat} {x : Int} {off : Int} (hd : decode q.2.1 pc = .ok (.tableswitch dflt lo hi offs, len)) (hx : Rng x) (h1 : lo ≤ x ∧ x ≤ hi) (ho : offs[(x - lo).toNat]? = some off) (ht : (pc : Int) + off = (np : Int)) (k : Ev S q np ls st M Q) : Ev S q pc ls (.inl x :: st) M Q := by
  intro p l e s m args below meth c ad D ty H locs lsA hc hP hD hS hL
  exact lv_tableIn hc.1 hc.2.1 hd (by rw [i32_toInt hx]; omega) (by rw [i32_toInt hx]; omega) (by rw [i32_toInt hx]; exact ho) ht (k p l e s m args below meth c ad D ty H locs lsA hc hP hD hS hL)
theorem ev_swOut {dflt lo hi : Int} {offs : Array Int} {len : Nat} {x : Int} (hd : decode q.2.1 pc = .ok (.tableswitch dflt lo hi offs, len)) (hx : Rng x) (h1 : x < lo ∨ hi < x) (ht : (pc : Int) + dflt = (np : Int)) (k : Ev S q np ls st M Q) : Ev S q pc ls (.inl x :: st) M Q := by
  intro p l e s m args below meth c ad D ty H locs lsA hc hP hD hS hL
  exact lv_tableOut hc.1 hc.2.1 hd (by rw [i32_toInt hx]; exact h1) ht (k p l e s m args below meth c ad D ty H locs lsA hc hP hD hS hL)
theorem ev_lsw {dflt : Int} {ps : Array (Int × Int)} {len : Nat} {x off : Int} (hd : decode q.2.1 pc = .ok (.lookupswitch dflt ps, len)) (hx : Rng x) (hp : (ps.toList.zip (ps.toList.drop 1)).all (fun (a, next) => a.1 < next.1) = true) (ho : Op.lookupswitch.offset ps.toList dflt x = off) (ht : (pc : Int) + off = (np : Int)) (k : Ev S q np ls st M Q) : Ev S q pc ls (.inl x :: st) M Q := by
  intro p l e s m args below meth c ad D ty H locs lsA hc hP hD hS hL
  exact lv_lookup hc.1 hc.2.1 hd hp (by rw [i32_toInt hx]; exact ho) ht (k p l e s m args below meth c ad D ty H locs lsA hc hP hD hS hL)
-- arrays
theorem arr_at {c0 : Cc} {b : Bool} {n : Nat} {ad : Cc → Nat} {ty : Bool → ClassId} {k : Nat} (hs : S.1 c0 = some (.inl (b, n))) (hk : S.2[k]? = some c0) : (wl S ad ty M)[k]? = some (ad c0, .inl (ty b, n, .inl (fun j => Int32.ofInt (M c0 j)))) := by
  rw [wl_at hk, hs]; rfl
theorem tys_at (ty : Bool → ClassId) (b : Bool) : ∃ t0 : Nat, ([(ty false, .int), (ty true, .char)] : List (ClassId × FieldType))[t0]? = some (ty b, if b then .char else .int) := by
  cases b
  · exact ⟨0, rfl⟩
  · exact ⟨1, rfl⟩
theorem vp_inI {i : Int} {n : Nat} (hi : 0 ≤ i ∧ i < (n : Int)) (h2 : i < 2147483648) : vp_in (Int32.ofInt i) n ∧ (Int32.ofInt i).toNatClampNeg = i.toNat := by
  rw [iN hi.1]
  refine ⟨?_, nI_clamp (by omega)⟩
  unfold vp_in
  rw [nI_clamp (by omega)]
  rintro (h | h)
  · exact nI_pos (by omega) h
  · omega
theorem ev_alen {c0 : Cc} {b : Bool} {n : Nat} (hd : decode q.2.1 pc = .ok (.arraylength, 1)) (hs : S.1 c0 = some (.inl (b, n))) (hn : pc + 1 = np) (k : Ev S q np ls (.inl (n : Int) :: st) M Q) : Ev S q pc ls (.inr c0 :: st) M Q := by
  subst hn
  intro p l e s m args below meth c ad D ty H locs lsA hc hP hD hS hL
  obtain ⟨j, hj⟩ := wl_ix hc.2.2.2.2.2.2.2.2.2 hs
  obtain ⟨t0, ht⟩ := tys_at ty b
  exact va_alen hc.1 hc.2.1 hc.2.2.2.2.2.2.2.1 hP j t0 (arr_at hs hj) ht (iNn n).symm hd (k p l e s m args below meth c ad D ty H locs lsA hc hP hD hS hL)
theorem ev_iaload {c0 : Cc} {n : Nat} {i : Int} (hd : decode q.2.1 pc = .ok (.iaload, 1)) (hs : S.1 c0 = some (.inl (false, n))) (hi : 0 ≤ i ∧ i < (n : Int)) (h2 : i < 2147483648) (hn : pc + 1 = np) (k : Ev S q np ls (.inl (M c0 i.toNat) :: st) M Q) : Ev S q pc ls (.inl i :: .inr c0 :: st) M Q := by
  subst hn
  intro p l e s m args below meth c ad D ty H locs lsA hc hP hD hS hL
  obtain ⟨j, hj⟩ := wl_ix hc.2.2.2.2.2.2.2.2.2 hs
  obtain ⟨g1, g2⟩ := vp_inI hi h2
  have h := k p l e s m args below meth c ad D ty H locs lsA hc hP hD hS hL
  simp only [List.map_cons, cvv, ← g2] at h ⊢
  exact va_iald hc.1 hc.2.1 hc.2.2.2.2.2.2.2.1 hP j 0 (arr_at hs hj) rfl g1 hd h
theorem ev_caload {c0 : Cc} {n : Nat} {i : Int} (hd : decode q.2.1 pc = .ok (.caload, 1)) (hs : S.1 c0 = some (.inl (true, n))) (hi : 0 ≤ i ∧ i < (n : Int)) (h2 : i < 2147483648) (hn : pc + 1 = np) (k : Ev S q np ls (.inl (M c0 i.toNat) :: st) M Q) : Ev S q pc ls (.inl i :: .inr c0 :: st) M Q := by
  subst hn
  intro p l e s m args below meth c ad D ty H locs lsA hc hP hD hS hL
  obtain ⟨j, hj⟩ := wl_ix hc.2.2.2.2.2.2.2.2.2 hs
  obtain ⟨g1, g2⟩ := vp_inI hi h2
  have h := k p l e s m args below meth c ad D ty H locs lsA hc hP hD hS hL
  simp only [List.map_cons, cvv, ← g2] at h ⊢
  exact va_cald hc.1 hc.2.1 hc.2.2.2.2.2.2.2.1 hP j 1 (arr_at hs hj) rfl g1 hd h
theorem updM_same (M : Mem) (c : Cc) (k : Nat) (v : Int) : updM M c k v c k = v := by simp [updM]
theorem upd_eq {c0 : Cc} {i v : Int} : upd (fun j => Int32.ofInt (M c0 j)) i.toNat (Int32.ofInt v) = fun j => Int32.ofInt (updM M c0 i.toNat v c0 j) := by
  funext j
  by_cases h : j = i.toNat <;> simp [upd, updM, h]
theorem ev_iastore {c0 : Cc} {n : Nat} {i v : Int} (hd : decode q.2.1 pc = .ok (.iastore, 1)) (hs : S.1 c0 = some (.inl (false, n))) (hi : 0 ≤ i ∧ i < (n : Int)) (h2 : i < 2147483648) (hn : pc + 1 = np) (k : Ev S q np ls st (updM M c0 i.toNat v) Q) : Ev S q pc ls (.inl v :: .inl i :: .inr c0 :: st) M Q := by
  subst hn
  intro p l e s m args below meth c ad D ty H locs lsA hc hP hD hS hL
  obtain ⟨j, hj⟩ := wl_ix hc.2.2.2.2.2.2.2.2.2 hs
  obtain ⟨g1, g2⟩ := vp_inI hi h2
  refine va_iast hc.1 hc.2.1 hc.2.2.2.2.2.2.2.1 hP hD hS j 0 (arr_at hs hj) rfl g1 hd (fun H1 locs1 hP1 hD1 hS1 => ?_)
  rw [wl_set hc.2.2.2.2.2.2.2.2.2 (M' := updM M c0 i.toNat v) hj (fun d hd => enS_upd d hd) (by rw [hs, g2, upd_eq]; rfl)] at hP1 hD1
  exact k p l e s m args below meth c ad D ty H1 locs1 lsA hc hP1 hD1 hS1 hL
theorem ev_castore {c0 : Cc} {n : Nat} {i v : Int} (hd : decode q.2.1 pc = .ok (.castore, 1)) (hs : S.1 c0 = some (.inl (true, n))) (hi : 0 ≤ i ∧ i < (n : Int)) (h2 : i < 2147483648) (hv : 0 ≤ v ∧ v < 65536) (hn : pc + 1 = np) (k : Ev S q np ls st (updM M c0 i.toNat v) Q) : Ev S q pc ls (.inl v :: .inl i :: .inr c0 :: st) M Q := by
  subst hn
  intro p l e s m args below meth c ad D ty H locs lsA hc hP hD hS hL
  obtain ⟨j, hj⟩ := wl_ix hc.2.2.2.2.2.2.2.2.2 hs
  obtain ⟨g1, g2⟩ := vp_inI hi h2
  have hz : vp_nar .char (Int32.ofInt v) = Int32.ofInt v := by
    rw [iN hv.1]
    unfold vp_nar
    rw [(pk_charN (by omega)).1]
  refine va_cast hc.1 hc.2.1 hc.2.2.2.2.2.2.2.1 hP hD hS j 1 (arr_at hs hj) rfl g1 hd (fun H1 locs1 hP1 hD1 hS1 => ?_)
  rw [hz, wl_set hc.2.2.2.2.2.2.2.2.2 (M' := updM M c0 i.toNat v) hj (fun d hd => enS_upd d hd) (by rw [hs, g2, upd_eq]; rfl)] at hP1 hD1
  exact k p l e s m args below meth c ad D ty H1 locs1 lsA hc hP1 hD1 hS1 hL
-- fields
def SiteG (q : MI) (pc ci k : Nat) : Prop := ∃ (K : String) (T : u_T) (N idx : Nat), vwCl[ci]? = some (K, T, N) ∧ k < N ∧ (∀ w ∈ u_ws K T N, w ∈ TBL) ∧ Cond.fieldLink q.1.cls idx (T k).1 (T k).2.1 (T k).2.2.1 ∈ TBL ∧ decode q.2.1 pc = .ok (.getfield idx, 3)
def SiteP (q : MI) (pc ci k : Nat) : Prop := ∃ (K : String) (T : u_T) (N idx : Nat) (ty0 : Nat → FieldType), vwCl[ci]? = some (K, T, N) ∧ k < N ∧ (∀ w ∈ u_ws K T N, w ∈ TBL) ∧ Cond.fieldLink q.1.cls idx (T k).1 (T k).2.1 (T k).2.2.1 ∈ TBL ∧ decode q.2.1 pc = .ok (.putfield idx, 3) ∧ (∀ k, k < N → parseFieldDescriptor (T k).2.2.1 = some (ty0 k)) ∧ (∀ a, a < N → ∀ b, b < N → a ≠ b → (T a).2.1 ≠ (T b).2.1) ∧ (T k).2.2.2 = false ∧ ty0 k = .int
theorem obj_at {c0 : Cc} {ci : Nat} {fl : List (Option Cc)} {ad : Cc → Nat} {ty : Bool → ClassId} {k : Nat} (hs : S.1 c0 = some (.inr (ci, fl))) (hk : S.2[k]? = some c0) : (wl S ad ty M)[k]? = some (ad c0, .inr (ci, fl.mapIdx (enF ad M c0))) := by
  rw [wl_at hk, hs]; rfl
theorem ev_getV {ci k : Nat} {c0 : Cc} {fl : List (Option Cc)} {o : Option Cc} {v : Val} (sg : SiteG q pc ci k) (hs : S.1 c0 = some (.inr (ci, fl))) (hf : fl[k]? = some o) (hv : ∀ ad, enF ad M c0 k o = cvv ad v) (hn : pc + 3 = np) (kk : Ev S q np ls (v :: st) M Q) : Ev S q pc ls (.inr c0 :: st) M Q := by
  subst hn
  obtain ⟨K, T, N, idx, h1, h2, h3, h4, hd⟩ := sg
  intro p l e s m args below meth c ad D ty H locs lsA hc hP hD hS hL
  obtain ⟨j, hj⟩ := wl_ix hc.2.2.2.2.2.2.2.2.2 hs
  exact va_get hc.1 hc.2.1 hc.2.2.2.2.2.1 h3 hc.2.2.2.2.1 hc.2.2.2.2.2.2.2.1 hP j (obj_at hs hj) h1 k h2 (hc.2.2.2.2.2.1 _ h4) (fun _ h => h) (v := cvv ad v) (by rw [List.getElem?_mapIdx, hf]; exact congrArg some (hv ad)) hd (kk p l e s m args below meth c ad D ty H locs lsA hc hP hD hS hL)
theorem ev_getI {ci k : Nat} {c0 : Cc} {fl : List (Option Cc)} (sg : SiteG q pc ci k) (hs : S.1 c0 = some (.inr (ci, fl))) (hf : fl[k]? = some none) (hn : pc + 3 = np) (kk : Ev S q np ls (.inl (M c0 k) :: st) M Q) : Ev S q pc ls (.inr c0 :: st) M Q := ev_getV sg hs hf (fun _ => rfl) hn kk
theorem ev_getR {ci k : Nat} {c0 d : Cc} {fl : List (Option Cc)} (sg : SiteG q pc ci k) (hs : S.1 c0 = some (.inr (ci, fl))) (hf : fl[k]? = some (some d)) (hn : pc + 3 = np) (kk : Ev S q np ls (.inr d :: st) M Q) : Ev S q pc ls (.inr c0 :: st) M Q := ev_getV (v := .inr d) sg hs hf (fun _ => rfl) hn kk
theorem set_mapIdx {fl : List (Option Cc)} {ad : Cc → Nat} {c0 : Cc} {k : Nat} {v : Int} (hf : fl[k]? = some none) : (fl.mapIdx (enF ad M c0)).set k (.int (Int32.ofInt v)) = fl.mapIdx (enF ad (updM M c0 k v) c0) := by
  apply List.ext_getElem?
  intro i
  rw [List.getElem?_set]
  have hl : k < fl.length := (List.getElem?_eq_some_iff.mp hf).1
  by_cases hi : k = i
  · subst hi
    rw [if_pos rfl, if_pos (by simpa using hl), List.getElem?_mapIdx, hf]
    simp [enF, updM]
  · rw [if_neg hi, List.getElem?_mapIdx, List.getElem?_mapIdx]
    cases fl[i]? with
    | none => rfl
    | some o =>
      cases o with
      | none => simp [enF, updM, Ne.symm hi]
      | some d => rfl
theorem ev_put {ci k : Nat} {c0 : Cc} {fl : List (Option Cc)} {v : Int} (sp : SiteP q pc ci k) (hs : S.1 c0 = some (.inr (ci, fl))) (hf : fl[k]? = some none) (hn : pc + 3 = np) (kk : Ev S q np ls st (updM M c0 k v) Q) : Ev S q pc ls (.inl v :: .inr c0 :: st) M Q := by
  subst hn
  obtain ⟨K, T, N, idx, ty0, h1, h2, h3, h4, hd, h5, h6, h7, h8⟩ := sp
  intro p l e s m args below meth c ad D ty H locs lsA hc hP hD hS hL
  obtain ⟨j, hj⟩ := wl_ix hc.2.2.2.2.2.2.2.2.2 hs
  refine va_put hc.1 hc.2.1 hc.2.2.2.2.2.1 h3 ty0 h5 h6 hc.2.2.2.2.1 hc.2.2.2.2.2.2.2.1 hP hD hS j (obj_at hs hj) h1 k h2 (hc.2.2.2.2.2.1 _ h4) (fun _ h => h) h7 (ty := .int) (v := .int (Int32.ofInt v)) (by rw [h5 k h2, h8]) rfl rfl (by simpa using (List.getElem?_eq_some_iff.mp hf).1) hd (fun H1 locs1 hP1 hD1 hS1 => ?_)
  rw [set_mapIdx hf, wl_set hc.2.2.2.2.2.2.2.2.2 (M' := updM M c0 k v) hj (fun d hd => enS_upd d hd) (by rw [hs]; rfl)] at hP1 hD1
  exact kk p l e s m args below meth c ad D ty H1 locs1 lsA hc hP1 hD1 hS1 hL
end RV
end
