section
-- ===== PART A: goes FIRST, ahead of the names: the tables' words, and 'selects' of the private methods out of them =====
/-- a private method of a class that the tables say can be made, by its rows of tables_1 -/
def lw_okq (q : MethodName × Nat) : Prop := (q.1.cls ≠ "java/lang/invoke/MethodHandle" ∧ q.1.cls ≠ "java/lang/invoke/VarHandle") ∧ Cond.instantiable q.1.cls q.2 ∈ tables_1 ∧ Cond.privateMethod q.1 ∈ tables_1 ∧ Cond.instanceMethod q.1 ∈ tables_1
theorem lw_p0 : lw_okq (⟨"TickCircuits", "circuitAt", "(I)LTickCircuits$Circuit;"⟩, 12) := ⟨⟨by decide +kernel, by decide +kernel⟩, List.mem_of_getElem? (i := 14) (by decide +kernel), List.mem_of_getElem? (i := 241) (by decide +kernel), List.mem_of_getElem? (i := 242) (by decide +kernel)⟩
theorem lw_p1 : lw_okq (⟨"TickCircuits$History", "dropOldest", "()V"⟩, 2) := ⟨⟨by decide +kernel, by decide +kernel⟩, List.mem_of_getElem? (i := 142) (by decide +kernel), List.mem_of_getElem? (i := 257) (by decide +kernel), List.mem_of_getElem? (i := 258) (by decide +kernel)⟩
theorem lw_p2 : lw_okq (⟨"TickCircuits", "tellStates", "(LTickCircuits$Circuit;I)I"⟩, 12) := ⟨⟨by decide +kernel, by decide +kernel⟩, List.mem_of_getElem? (i := 14) (by decide +kernel), List.mem_of_getElem? (i := 332) (by decide +kernel), List.mem_of_getElem? (i := 333) (by decide +kernel)⟩
theorem lw_p3 : lw_okq (⟨"TickCircuits$StepTable", "statesBehindAny", "(I)I"⟩, 3) := ⟨⟨by decide +kernel, by decide +kernel⟩, List.mem_of_getElem? (i := 64) (by decide +kernel), List.mem_of_getElem? (i := 380) (by decide +kernel), List.mem_of_getElem? (i := 381) (by decide +kernel)⟩
theorem lw_p4 : lw_okq (⟨"TickCircuits$AlikeStates", "findUnlike", "(LTickCircuits$StepTable;)V"⟩, 1) := ⟨⟨by decide +kernel, by decide +kernel⟩, List.mem_of_getElem? (i := 130) (by decide +kernel), List.mem_of_getElem? (i := 397) (by decide +kernel), List.mem_of_getElem? (i := 398) (by decide +kernel)⟩
theorem lw_p5 : lw_okq (⟨"TickCircuits$AlikeStates", "unlikeTo", "(ILTickCircuits$StepTable;)I"⟩, 1) := ⟨⟨by decide +kernel, by decide +kernel⟩, List.mem_of_getElem? (i := 130) (by decide +kernel), List.mem_of_getElem? (i := 408) (by decide +kernel), List.mem_of_getElem? (i := 409) (by decide +kernel)⟩
theorem lw_p6 : lw_okq (⟨"TickCircuits$AlikeStates", "leadToUnlike", "(IILTickCircuits$StepTable;)Z"⟩, 1) := ⟨⟨by decide +kernel, by decide +kernel⟩, List.mem_of_getElem? (i := 130) (by decide +kernel), List.mem_of_getElem? (i := 416) (by decide +kernel), List.mem_of_getElem? (i := 417) (by decide +kernel)⟩
theorem lw_p7 : lw_okq (⟨"TickCircuits$Circuit", "gateOnWire", "(I)I"⟩, 4) := ⟨⟨by decide +kernel, by decide +kernel⟩, List.mem_of_getElem? (i := 22) (by decide +kernel), List.mem_of_getElem? (i := 432) (by decide +kernel), List.mem_of_getElem? (i := 433) (by decide +kernel)⟩
theorem lw_p8 : lw_okq (⟨"TickCircuits", "walkWith", "(LTickCircuits$Circuit;)V"⟩, 12) := ⟨⟨by decide +kernel, by decide +kernel⟩, List.mem_of_getElem? (i := 14) (by decide +kernel), List.mem_of_getElem? (i := 476) (by decide +kernel), List.mem_of_getElem? (i := 477) (by decide +kernel)⟩
theorem lw_p9 : lw_okq (⟨"TickCircuits$PairWalk", "meet", "(IIII)V"⟩, 7) := ⟨⟨by decide +kernel, by decide +kernel⟩, List.mem_of_getElem? (i := 82) (by decide +kernel), List.mem_of_getElem? (i := 489) (by decide +kernel), List.mem_of_getElem? (i := 490) (by decide +kernel)⟩
theorem lw_p10 : lw_okq (⟨"TickCircuits", "differingInputs", "(I)I"⟩, 12) := ⟨⟨by decide +kernel, by decide +kernel⟩, List.mem_of_getElem? (i := 14) (by decide +kernel), List.mem_of_getElem? (i := 514) (by decide +kernel), List.mem_of_getElem? (i := 515) (by decide +kernel)⟩
theorem lw_p11 : lw_okq (⟨"TickCircuits", "firstPairApart", "()I"⟩, 12) := ⟨⟨by decide +kernel, by decide +kernel⟩, List.mem_of_getElem? (i := 14) (by decide +kernel), List.mem_of_getElem? (i := 532) (by decide +kernel), List.mem_of_getElem? (i := 533) (by decide +kernel)⟩
theorem lw_p12 : lw_okq (⟨"TickCircuits$LateWalk", "meet", "(III)V"⟩, 3) := ⟨⟨by decide +kernel, by decide +kernel⟩, List.mem_of_getElem? (i := 112) (by decide +kernel), List.mem_of_getElem? (i := 548) (by decide +kernel), List.mem_of_getElem? (i := 549) (by decide +kernel)⟩
theorem lw_p13 : lw_okq (⟨"TickCircuits$LateWalk", "step", "(IIILTickCircuits$StepTable;LTickCircuits$StepTable;)Z"⟩, 3) := ⟨⟨by decide +kernel, by decide +kernel⟩, List.mem_of_getElem? (i := 112) (by decide +kernel), List.mem_of_getElem? (i := 554) (by decide +kernel), List.mem_of_getElem? (i := 555) (by decide +kernel)⟩
theorem lw_p14 : lw_okq (⟨"TickCircuits$LateWalk", "forgetAll", "()V"⟩, 3) := ⟨⟨by decide +kernel, by decide +kernel⟩, List.mem_of_getElem? (i := 112) (by decide +kernel), List.mem_of_getElem? (i := 561) (by decide +kernel), List.mem_of_getElem? (i := 562) (by decide +kernel)⟩
theorem lw_p15 : lw_okq (⟨"TickCircuits", "neverApart", "(LTickCircuits$Circuit;)Z"⟩, 12) := ⟨⟨by decide +kernel, by decide +kernel⟩, List.mem_of_getElem? (i := 14) (by decide +kernel), List.mem_of_getElem? (i := 573) (by decide +kernel), List.mem_of_getElem? (i := 574) (by decide +kernel)⟩
def lw_privs_1 : List (MethodName × Nat) := [(⟨"TickCircuits", "circuitAt", "(I)LTickCircuits$Circuit;"⟩, 12), (⟨"TickCircuits$History", "dropOldest", "()V"⟩, 2), (⟨"TickCircuits", "tellStates", "(LTickCircuits$Circuit;I)I"⟩, 12), (⟨"TickCircuits$StepTable", "statesBehindAny", "(I)I"⟩, 3), (⟨"TickCircuits$AlikeStates", "findUnlike", "(LTickCircuits$StepTable;)V"⟩, 1), (⟨"TickCircuits$AlikeStates", "unlikeTo", "(ILTickCircuits$StepTable;)I"⟩, 1), (⟨"TickCircuits$AlikeStates", "leadToUnlike", "(IILTickCircuits$StepTable;)Z"⟩, 1), (⟨"TickCircuits$Circuit", "gateOnWire", "(I)I"⟩, 4), (⟨"TickCircuits", "walkWith", "(LTickCircuits$Circuit;)V"⟩, 12), (⟨"TickCircuits$PairWalk", "meet", "(IIII)V"⟩, 7), (⟨"TickCircuits", "differingInputs", "(I)I"⟩, 12), (⟨"TickCircuits", "firstPairApart", "()I"⟩, 12), (⟨"TickCircuits$LateWalk", "meet", "(III)V"⟩, 3), (⟨"TickCircuits$LateWalk", "step", "(IIILTickCircuits$StepTable;LTickCircuits$StepTable;)Z"⟩, 3), (⟨"TickCircuits$LateWalk", "forgetAll", "()V"⟩, 3), (⟨"TickCircuits", "neverApart", "(LTickCircuits$Circuit;)Z"⟩, 12)]
theorem lw_r1 : ∀ q ∈ lw_privs_1, lw_okq q := List.forall_mem_cons.mpr ⟨lw_p0, List.forall_mem_cons.mpr ⟨lw_p1, List.forall_mem_cons.mpr ⟨lw_p2, List.forall_mem_cons.mpr ⟨lw_p3, List.forall_mem_cons.mpr ⟨lw_p4, List.forall_mem_cons.mpr ⟨lw_p5, List.forall_mem_cons.mpr ⟨lw_p6, List.forall_mem_cons.mpr ⟨lw_p7, List.forall_mem_cons.mpr ⟨lw_p8, List.forall_mem_cons.mpr ⟨lw_p9, List.forall_mem_cons.mpr ⟨lw_p10, List.forall_mem_cons.mpr ⟨lw_p11, List.forall_mem_cons.mpr ⟨lw_p12, List.forall_mem_cons.mpr ⟨lw_p13, List.forall_mem_cons.mpr ⟨lw_p14, List.forall_mem_cons.mpr ⟨lw_p15, fun _ h => absurd h List.not_mem_nil⟩⟩⟩⟩⟩⟩⟩⟩⟩⟩⟩⟩⟩⟩⟩⟩
theorem lw_p16 : lw_okq (⟨"TickCircuits$Reader", "readPart", "(LTickCircuits$Text;)V"⟩, 4) := ⟨⟨by decide +kernel, by decide +kernel⟩, List.mem_of_getElem? (i := 172) (by decide +kernel), List.mem_of_getElem? (i := 625) (by decide +kernel), List.mem_of_getElem? (i := 626) (by decide +kernel)⟩
theorem lw_p17 : lw_okq (⟨"TickCircuits$Reader", "readRegister", "(LTickCircuits$Text;)V"⟩, 4) := ⟨⟨by decide +kernel, by decide +kernel⟩, List.mem_of_getElem? (i := 172) (by decide +kernel), List.mem_of_getElem? (i := 634) (by decide +kernel), List.mem_of_getElem? (i := 635) (by decide +kernel)⟩
theorem lw_p18 : lw_okq (⟨"TickCircuits$Reader", "digitAt", "(LTickCircuits$Text;I)I"⟩, 4) := ⟨⟨by decide +kernel, by decide +kernel⟩, List.mem_of_getElem? (i := 172) (by decide +kernel), List.mem_of_getElem? (i := 638) (by decide +kernel), List.mem_of_getElem? (i := 639) (by decide +kernel)⟩
theorem lw_p19 : lw_okq (⟨"TickCircuits$Reader", "partEndsAt", "(LTickCircuits$Text;I)Z"⟩, 4) := ⟨⟨by decide +kernel, by decide +kernel⟩, List.mem_of_getElem? (i := 172) (by decide +kernel), List.mem_of_getElem? (i := 644) (by decide +kernel), List.mem_of_getElem? (i := 645) (by decide +kernel)⟩
theorem lw_p20 : lw_okq (⟨"TickCircuits$Reader", "readOutput", "(LTickCircuits$Text;)V"⟩, 4) := ⟨⟨by decide +kernel, by decide +kernel⟩, List.mem_of_getElem? (i := 172) (by decide +kernel), List.mem_of_getElem? (i := 650) (by decide +kernel), List.mem_of_getElem? (i := 651) (by decide +kernel)⟩
theorem lw_p21 : lw_okq (⟨"TickCircuits$Reader", "readGate", "(LTickCircuits$Text;)V"⟩, 4) := ⟨⟨by decide +kernel, by decide +kernel⟩, List.mem_of_getElem? (i := 172) (by decide +kernel), List.mem_of_getElem? (i := 655) (by decide +kernel), List.mem_of_getElem? (i := 656) (by decide +kernel)⟩
theorem lw_p22 : lw_okq (⟨"TickCircuitsModel", "of", "(II)I"⟩, 23) := ⟨⟨by decide +kernel, by decide +kernel⟩, List.mem_of_getElem? (i := 678) (by decide +kernel), List.mem_of_getElem? (i := 765) (by decide +kernel), List.mem_of_getElem? (i := 766) (by decide +kernel)⟩
theorem lw_p23 : lw_okq (⟨"TickCircuitsModel", "keeps", "()V"⟩, 23) := ⟨⟨by decide +kernel, by decide +kernel⟩, List.mem_of_getElem? (i := 678) (by decide +kernel), List.mem_of_getElem? (i := 774) (by decide +kernel), List.mem_of_getElem? (i := 775) (by decide +kernel)⟩
theorem lw_p24 : lw_okq (⟨"TickCircuitsModel", "acted", "(I)I"⟩, 23) := ⟨⟨by decide +kernel, by decide +kernel⟩, List.mem_of_getElem? (i := 678) (by decide +kernel), List.mem_of_getElem? (i := 778) (by decide +kernel), List.mem_of_getElem? (i := 779) (by decide +kernel)⟩
theorem lw_p25 : lw_okq (⟨"TickCircuitsModel", "lights", "(III)V"⟩, 23) := ⟨⟨by decide +kernel, by decide +kernel⟩, List.mem_of_getElem? (i := 678) (by decide +kernel), List.mem_of_getElem? (i := 803) (by decide +kernel), List.mem_of_getElem? (i := 804) (by decide +kernel)⟩
theorem lw_p26 : lw_okq (⟨"TickCircuitsModel", "then", "(III)I"⟩, 23) := ⟨⟨by decide +kernel, by decide +kernel⟩, List.mem_of_getElem? (i := 678) (by decide +kernel), List.mem_of_getElem? (i := 814) (by decide +kernel), List.mem_of_getElem? (i := 815) (by decide +kernel)⟩
theorem lw_p27 : lw_okq (⟨"TickCircuitsModel", "first", "(I)I"⟩, 23) := ⟨⟨by decide +kernel, by decide +kernel⟩, List.mem_of_getElem? (i := 678) (by decide +kernel), List.mem_of_getElem? (i := 822) (by decide +kernel), List.mem_of_getElem? (i := 823) (by decide +kernel)⟩
theorem lw_p28 : lw_okq (⟨"TickCircuitsModel", "out", "(III)I"⟩, 23) := ⟨⟨by decide +kernel, by decide +kernel⟩, List.mem_of_getElem? (i := 678) (by decide +kernel), List.mem_of_getElem? (i := 826) (by decide +kernel), List.mem_of_getElem? (i := 827) (by decide +kernel)⟩
theorem lw_p29 : lw_okq (⟨"TickCircuitsModel", "comesTo", "(I)I"⟩, 23) := ⟨⟨by decide +kernel, by decide +kernel⟩, List.mem_of_getElem? (i := 678) (by decide +kernel), List.mem_of_getElem? (i := 841) (by decide +kernel), List.mem_of_getElem? (i := 842) (by decide +kernel)⟩
theorem lw_p30 : lw_okq (⟨"TickCircuitsModel", "steady", "(I)I"⟩, 23) := ⟨⟨by decide +kernel, by decide +kernel⟩, List.mem_of_getElem? (i := 678) (by decide +kernel), List.mem_of_getElem? (i := 845) (by decide +kernel), List.mem_of_getElem? (i := 846) (by decide +kernel)⟩
theorem lw_p31 : lw_okq (⟨"TickCircuitsModel", "classes", "(I)I"⟩, 23) := ⟨⟨by decide +kernel, by decide +kernel⟩, List.mem_of_getElem? (i := 678) (by decide +kernel), List.mem_of_getElem? (i := 849) (by decide +kernel), List.mem_of_getElem? (i := 850) (by decide +kernel)⟩
def lw_privs_2 : List (MethodName × Nat) := [(⟨"TickCircuits$Reader", "readPart", "(LTickCircuits$Text;)V"⟩, 4), (⟨"TickCircuits$Reader", "readRegister", "(LTickCircuits$Text;)V"⟩, 4), (⟨"TickCircuits$Reader", "digitAt", "(LTickCircuits$Text;I)I"⟩, 4), (⟨"TickCircuits$Reader", "partEndsAt", "(LTickCircuits$Text;I)Z"⟩, 4), (⟨"TickCircuits$Reader", "readOutput", "(LTickCircuits$Text;)V"⟩, 4), (⟨"TickCircuits$Reader", "readGate", "(LTickCircuits$Text;)V"⟩, 4), (⟨"TickCircuitsModel", "of", "(II)I"⟩, 23), (⟨"TickCircuitsModel", "keeps", "()V"⟩, 23), (⟨"TickCircuitsModel", "acted", "(I)I"⟩, 23), (⟨"TickCircuitsModel", "lights", "(III)V"⟩, 23), (⟨"TickCircuitsModel", "then", "(III)I"⟩, 23), (⟨"TickCircuitsModel", "first", "(I)I"⟩, 23), (⟨"TickCircuitsModel", "out", "(III)I"⟩, 23), (⟨"TickCircuitsModel", "comesTo", "(I)I"⟩, 23), (⟨"TickCircuitsModel", "steady", "(I)I"⟩, 23), (⟨"TickCircuitsModel", "classes", "(I)I"⟩, 23)]
theorem lw_r2 : ∀ q ∈ lw_privs_2, lw_okq q := List.forall_mem_cons.mpr ⟨lw_p16, List.forall_mem_cons.mpr ⟨lw_p17, List.forall_mem_cons.mpr ⟨lw_p18, List.forall_mem_cons.mpr ⟨lw_p19, List.forall_mem_cons.mpr ⟨lw_p20, List.forall_mem_cons.mpr ⟨lw_p21, List.forall_mem_cons.mpr ⟨lw_p22, List.forall_mem_cons.mpr ⟨lw_p23, List.forall_mem_cons.mpr ⟨lw_p24, List.forall_mem_cons.mpr ⟨lw_p25, List.forall_mem_cons.mpr ⟨lw_p26, List.forall_mem_cons.mpr ⟨lw_p27, List.forall_mem_cons.mpr ⟨lw_p28, List.forall_mem_cons.mpr ⟨lw_p29, List.forall_mem_cons.mpr ⟨lw_p30, List.forall_mem_cons.mpr ⟨lw_p31, fun _ h => absurd h List.not_mem_nil⟩⟩⟩⟩⟩⟩⟩⟩⟩⟩⟩⟩⟩⟩⟩⟩
theorem lw_p32 : lw_okq (⟨"TickCircuitsModel", "refines", "(IZ)V"⟩, 23) := ⟨⟨by decide +kernel, by decide +kernel⟩, List.mem_of_getElem? (i := 678) (by decide +kernel), List.mem_of_getElem? (i := 853) (by decide +kernel), List.mem_of_getElem? (i := 854) (by decide +kernel)⟩
theorem lw_p33 : lw_okq (⟨"TickCircuitsModel", "isAlike", "(IIIZ)Z"⟩, 23) := ⟨⟨by decide +kernel, by decide +kernel⟩, List.mem_of_getElem? (i := 678) (by decide +kernel), List.mem_of_getElem? (i := 857) (by decide +kernel), List.mem_of_getElem? (i := 858) (by decide +kernel)⟩
theorem lw_p34 : lw_okq (⟨"TickCircuitsModel", "depends", "(I)I"⟩, 23) := ⟨⟨by decide +kernel, by decide +kernel⟩, List.mem_of_getElem? (i := 678) (by decide +kernel), List.mem_of_getElem? (i := 861) (by decide +kernel), List.mem_of_getElem? (i := 862) (by decide +kernel)⟩
theorem lw_p35 : lw_okq (⟨"TickCircuitsModel", "pairsUp", "()V"⟩, 23) := ⟨⟨by decide +kernel, by decide +kernel⟩, List.mem_of_getElem? (i := 678) (by decide +kernel), List.mem_of_getElem? (i := 870) (by decide +kernel), List.mem_of_getElem? (i := 871) (by decide +kernel)⟩
theorem lw_p36 : lw_okq (⟨"TickCircuitsModel", "differs", "(I)I"⟩, 23) := ⟨⟨by decide +kernel, by decide +kernel⟩, List.mem_of_getElem? (i := 678) (by decide +kernel), List.mem_of_getElem? (i := 874) (by decide +kernel), List.mem_of_getElem? (i := 875) (by decide +kernel)⟩
theorem lw_p37 : lw_okq (⟨"TickCircuitsModel", "rowAt", "(II)I"⟩, 23) := ⟨⟨by decide +kernel, by decide +kernel⟩, List.mem_of_getElem? (i := 678) (by decide +kernel), List.mem_of_getElem? (i := 878) (by decide +kernel), List.mem_of_getElem? (i := 879) (by decide +kernel)⟩
theorem lw_p38 : lw_okq (⟨"TickCircuitsModel", "isLate", "(I)Z"⟩, 23) := ⟨⟨by decide +kernel, by decide +kernel⟩, List.mem_of_getElem? (i := 678) (by decide +kernel), List.mem_of_getElem? (i := 894) (by decide +kernel), List.mem_of_getElem? (i := 895) (by decide +kernel)⟩
theorem lw_p39 : lw_okq (⟨"TickCircuitsModel", "faulty", "()I"⟩, 23) := ⟨⟨by decide +kernel, by decide +kernel⟩, List.mem_of_getElem? (i := 678) (by decide +kernel), List.mem_of_getElem? (i := 926) (by decide +kernel), List.mem_of_getElem? (i := 927) (by decide +kernel)⟩
theorem lw_p40 : lw_okq (⟨"TickCircuitsModel", "sign", "(I)I"⟩, 23) := ⟨⟨by decide +kernel, by decide +kernel⟩, List.mem_of_getElem? (i := 678) (by decide +kernel), List.mem_of_getElem? (i := 930) (by decide +kernel), List.mem_of_getElem? (i := 931) (by decide +kernel)⟩
theorem lw_p41 : lw_okq (⟨"TickCircuitsModel", "doesRegister", "()I"⟩, 23) := ⟨⟨by decide +kernel, by decide +kernel⟩, List.mem_of_getElem? (i := 678) (by decide +kernel), List.mem_of_getElem? (i := 934) (by decide +kernel), List.mem_of_getElem? (i := 935) (by decide +kernel)⟩
theorem lw_p42 : lw_okq (⟨"TickCircuitsModel", "wireAt", "(I)I"⟩, 23) := ⟨⟨by decide +kernel, by decide +kernel⟩, List.mem_of_getElem? (i := 678) (by decide +kernel), List.mem_of_getElem? (i := 938) (by decide +kernel), List.mem_of_getElem? (i := 939) (by decide +kernel)⟩
theorem lw_p43 : lw_okq (⟨"TickCircuitsModel", "doesOutput", "()I"⟩, 23) := ⟨⟨by decide +kernel, by decide +kernel⟩, List.mem_of_getElem? (i := 678) (by decide +kernel), List.mem_of_getElem? (i := 942) (by decide +kernel), List.mem_of_getElem? (i := 943) (by decide +kernel)⟩
theorem lw_p44 : lw_okq (⟨"TickCircuitsModel", "doesGate", "(I)I"⟩, 23) := ⟨⟨by decide +kernel, by decide +kernel⟩, List.mem_of_getElem? (i := 678) (by decide +kernel), List.mem_of_getElem? (i := 946) (by decide +kernel), List.mem_of_getElem? (i := 947) (by decide +kernel)⟩
def lw_privs_3 : List (MethodName × Nat) := [(⟨"TickCircuitsModel", "refines", "(IZ)V"⟩, 23), (⟨"TickCircuitsModel", "isAlike", "(IIIZ)Z"⟩, 23), (⟨"TickCircuitsModel", "depends", "(I)I"⟩, 23), (⟨"TickCircuitsModel", "pairsUp", "()V"⟩, 23), (⟨"TickCircuitsModel", "differs", "(I)I"⟩, 23), (⟨"TickCircuitsModel", "rowAt", "(II)I"⟩, 23), (⟨"TickCircuitsModel", "isLate", "(I)Z"⟩, 23), (⟨"TickCircuitsModel", "faulty", "()I"⟩, 23), (⟨"TickCircuitsModel", "sign", "(I)I"⟩, 23), (⟨"TickCircuitsModel", "doesRegister", "()I"⟩, 23), (⟨"TickCircuitsModel", "wireAt", "(I)I"⟩, 23), (⟨"TickCircuitsModel", "doesOutput", "()I"⟩, 23), (⟨"TickCircuitsModel", "doesGate", "(I)I"⟩, 23)]
theorem lw_r3 : ∀ q ∈ lw_privs_3, lw_okq q := List.forall_mem_cons.mpr ⟨lw_p32, List.forall_mem_cons.mpr ⟨lw_p33, List.forall_mem_cons.mpr ⟨lw_p34, List.forall_mem_cons.mpr ⟨lw_p35, List.forall_mem_cons.mpr ⟨lw_p36, List.forall_mem_cons.mpr ⟨lw_p37, List.forall_mem_cons.mpr ⟨lw_p38, List.forall_mem_cons.mpr ⟨lw_p39, List.forall_mem_cons.mpr ⟨lw_p40, List.forall_mem_cons.mpr ⟨lw_p41, List.forall_mem_cons.mpr ⟨lw_p42, List.forall_mem_cons.mpr ⟨lw_p43, List.forall_mem_cons.mpr ⟨lw_p44, fun _ h => absurd h List.not_mem_nil⟩⟩⟩⟩⟩⟩⟩⟩⟩⟩⟩⟩⟩
def lw_privs : List (MethodName × Nat) := lw_privs_1 ++ (lw_privs_2 ++ (lw_privs_3))
def lw_tbl : List Cond := k2_sels lw_privs ++ tables_1
theorem lw_privs_ok : ∀ q ∈ lw_privs, lw_okq q := by
  show ∀ q ∈ lw_privs_1 ++ (lw_privs_2 ++ (lw_privs_3)), lw_okq q
  exact List.forall_mem_append.mpr ⟨lw_r1, List.forall_mem_append.mpr ⟨lw_r2, lw_r3⟩⟩
end
section
theorem goodIn_r {big : List Cond} (ws : List Cond) (ps : List Nat) (hp : ws = ps.filterMap (fun i => big[i]?)) (h : ws.all goodWord = true) : GoodIn big ws := by
  intro w hw
  have h1 := List.all_eq_true.mp h w hw
  rw [hp] at hw
  obtain ⟨i, -, hi⟩ := List.mem_filterMap.mp hw
  have hm : w ∈ big := by first | exact List.mem_of_getElem? hi | exact List.getElem?_mem hi
  exact ⟨hm, good_of_word h1⟩
theorem goodIn_app {big a b : List Cond} (ha : GoodIn big a) (hb : GoodIn big b) : GoodIn big (a ++ b) := fun w h => (List.mem_append.mp h).elim (ha w) (hb w)
theorem goodIn_ca {big a b : List Cond} {c : Cond} (ha : GoodIn big (c :: a)) (hb : GoodIn big b) : GoodIn big (c :: (a ++ b)) := fun w h => (List.mem_cons.mp h).elim (fun e => ha w (List.mem_cons.mpr (Or.inl e))) (fun h => (List.mem_append.mp h).elim (fun h => ha w (List.mem_cons.mpr (Or.inr h))) (hb w))
theorem goodIn_sub {big ws : List Cond} (hm : ∀ w ∈ ws, w ∈ big) (h : ws.all goodWord = true) : GoodIn big ws := fun w hw => ⟨hm w hw, good_of_word (List.all_eq_true.mp h w hw)⟩
def RX0 : String := "TickCircuits$AlikeStates"
def TX0 : u_T := fun k => match k with
  | _ => ("TickCircuits$AlikeStates", "unlikeSets", "LTickCircuits$Row;", true)
def tyX0 : Nat → FieldType := fun k => match k with
  | _ => .object "TickCircuits$Row"
abbrev wsX00 : List Cond := u_ws RX0 TX0 1
theorem nmX0 : ∀ a, a < 1 → ∀ b, b < 1 → a ≠ b → (TX0 a).2.1 ≠ (TX0 b).2.1 := by decide +kernel
theorem tyX0_ok : ∀ k, k < 1 → parseFieldDescriptor (TX0 k).2.2.1 = some (tyX0 k) := by decide +kernel
abbrev cX0_init : ByteArray := prog_2_method_1_code
def yX0_init : MethodName := ⟨RX0, "<init>", "()V"⟩
abbrev cX0_classesAmong : ByteArray := prog_2_method_2_code
def yX0_classesAmong : MethodName := ⟨RX0, "classesAmong", "(ILTickCircuits$StepTable;)I"⟩
abbrev cX0_findUnlike : ByteArray := prog_2_method_3_code
def yX0_findUnlike : MethodName := ⟨RX0, "findUnlike", "(LTickCircuits$StepTable;)V"⟩
abbrev cX0_unlikeTo : ByteArray := prog_2_method_4_code
def yX0_unlikeTo : MethodName := ⟨RX0, "unlikeTo", "(ILTickCircuits$StepTable;)I"⟩
abbrev cX0_leadToUnlike : ByteArray := prog_2_method_5_code
def yX0_leadToUnlike : MethodName := ⟨RX0, "leadToUnlike", "(IILTickCircuits$StepTable;)Z"⟩
def RX1 : String := "TickCircuits$Circuit"
def TX1 : u_T := fun k => match k with
  | 0 => ("TickCircuits$Circuit", "gateCount", "I", false)
  | 1 => ("TickCircuits$Circuit", "outputWire", "I", false)
  | 2 => ("TickCircuits$Circuit", "registerCells", "LTickCircuits$Row;", true)
  | _ => ("TickCircuits$Circuit", "gateCells", "LTickCircuits$Row;", true)
def tyX1 : Nat → FieldType := fun k => match k with
  | 0 => .int
  | 1 => .int
  | 2 => .object "TickCircuits$Row"
  | _ => .object "TickCircuits$Row"
abbrev wsX10 : List Cond := u_ws RX1 TX1 4
theorem nmX1 : ∀ a, a < 4 → ∀ b, b < 4 → a ≠ b → (TX1 a).2.1 ≠ (TX1 b).2.1 := by decide +kernel
theorem tyX1_ok : ∀ k, k < 4 → parseFieldDescriptor (TX1 k).2.2.1 = some (tyX1 k) := by decide +kernel
abbrev cX1_init : ByteArray := prog_3_method_1_code
def yX1_init : MethodName := ⟨RX1, "<init>", "()V"⟩
abbrev cX1_startAnew : ByteArray := prog_3_method_2_code
def yX1_startAnew : MethodName := ⟨RX1, "startAnew", "()V"⟩
abbrev cX1_gateCount : ByteArray := prog_3_method_3_code
def yX1_gateCount : MethodName := ⟨RX1, "gateCount", "()I"⟩
abbrev cX1_outputWire : ByteArray := prog_3_method_4_code
def yX1_outputWire : MethodName := ⟨RX1, "outputWire", "()I"⟩
abbrev cX1_setOutputWire : ByteArray := prog_3_method_5_code
def yX1_setOutputWire : MethodName := ⟨RX1, "setOutputWire", "(I)V"⟩
abbrev cX1_setRegister : ByteArray := prog_3_method_6_code
def yX1_setRegister : MethodName := ⟨RX1, "setRegister", "(III)V"⟩
abbrev cX1_nextWire : ByteArray := prog_3_method_7_code
def yX1_nextWire : MethodName := ⟨RX1, "nextWire", "(I)I"⟩
abbrev cX1_firstBit : ByteArray := prog_3_method_8_code
def yX1_firstBit : MethodName := ⟨RX1, "firstBit", "(I)I"⟩
abbrev cX1_firstState : ByteArray := prog_3_method_9_code
def yX1_firstState : MethodName := ⟨RX1, "firstState", "()I"⟩
abbrev cX1_setGate : ByteArray := prog_3_method_10_code
def yX1_setGate : MethodName := ⟨RX1, "setGate", "(IIII)V"⟩
abbrev cX1_dropLastGate : ByteArray := prog_3_method_11_code
def yX1_dropLastGate : MethodName := ⟨RX1, "dropLastGate", "()V"⟩
abbrev cX1_kindOf : ByteArray := prog_3_method_12_code
def yX1_kindOf : MethodName := ⟨RX1, "kindOf", "(I)I"⟩
abbrev cX1_firstWire : ByteArray := prog_3_method_13_code
def yX1_firstWire : MethodName := ⟨RX1, "firstWire", "(I)I"⟩
abbrev cX1_secondWire : ByteArray := prog_3_method_14_code
def yX1_secondWire : MethodName := ⟨RX1, "secondWire", "(I)I"⟩
abbrev cX1_wireBits : ByteArray := prog_3_method_15_code
def yX1_wireBits : MethodName := ⟨RX1, "wireBits", "(II)I"⟩
abbrev cX1_gateBit : ByteArray := prog_3_method_16_code
def yX1_gateBit : MethodName := ⟨RX1, "gateBit", "(III)I"⟩
abbrev cX1_stateAfter : ByteArray := prog_3_method_17_code
def yX1_stateAfter : MethodName := ⟨RX1, "stateAfter", "(I)I"⟩
abbrev cX1_gatesBehindOutput : ByteArray := prog_3_method_18_code
def yX1_gatesBehindOutput : MethodName := ⟨RX1, "gatesBehindOutput", "()I"⟩
abbrev cX1_gateOnWire : ByteArray := prog_3_method_19_code
def yX1_gateOnWire : MethodName := ⟨RX1, "gateOnWire", "(I)I"⟩
abbrev cX1_takeFrom : ByteArray := prog_3_method_20_code
def yX1_takeFrom : MethodName := ⟨RX1, "takeFrom", "(LTickCircuits$Circuit;)V"⟩
abbrev cX1_savedCell : ByteArray := prog_3_method_21_code
def yX1_savedCell : MethodName := ⟨RX1, "savedCell", "(I)I"⟩
abbrev cX1_setSavedCell : ByteArray := prog_3_method_22_code
def yX1_setSavedCell : MethodName := ⟨RX1, "setSavedCell", "(II)V"⟩
def RX2 : String := "TickCircuits$History"
def TX2 : u_T := fun k => match k with
  | 0 => ("TickCircuits$History", "cells", "LTickCircuits$Row;", true)
  | _ => ("TickCircuits$History", "size", "I", false)
def tyX2 : Nat → FieldType := fun k => match k with
  | 0 => .object "TickCircuits$Row"
  | _ => .int
abbrev wsX20 : List Cond := u_ws RX2 TX2 2
theorem nmX2 : ∀ a, a < 2 → ∀ b, b < 2 → a ≠ b → (TX2 a).2.1 ≠ (TX2 b).2.1 := by decide +kernel
theorem tyX2_ok : ∀ k, k < 2 → parseFieldDescriptor (TX2 k).2.2.1 = some (tyX2 k) := by decide +kernel
abbrev cX2_init : ByteArray := prog_4_method_1_code
def yX2_init : MethodName := ⟨RX2, "<init>", "()V"⟩
abbrev cX2_size : ByteArray := prog_4_method_2_code
def yX2_size : MethodName := ⟨RX2, "size", "()I"⟩
abbrev cX2_keep : ByteArray := prog_4_method_3_code
def yX2_keep : MethodName := ⟨RX2, "keep", "(LTickCircuits$Circuit;LTickCircuits$Circuit;)V"⟩
abbrev cX2_dropOldest : ByteArray := prog_4_method_4_code
def yX2_dropOldest : MethodName := ⟨RX2, "dropOldest", "()V"⟩
abbrev cX2_giveBack : ByteArray := prog_4_method_5_code
def yX2_giveBack : MethodName := ⟨RX2, "giveBack", "(LTickCircuits$Circuit;LTickCircuits$Circuit;)V"⟩
def RX3 : String := "TickCircuits$LateWalk"
def TX3 : u_T := fun k => match k with
  | 0 => ("TickCircuits$LateWalk", "isMet", "LTickCircuits$Row;", true)
  | 1 => ("TickCircuits$LateWalk", "situations", "LTickCircuits$Row;", true)
  | _ => ("TickCircuits$LateWalk", "size", "I", false)
def tyX3 : Nat → FieldType := fun k => match k with
  | 0 => .object "TickCircuits$Row"
  | 1 => .object "TickCircuits$Row"
  | _ => .int
abbrev wsX30 : List Cond := u_ws RX3 TX3 3
theorem nmX3 : ∀ a, a < 3 → ∀ b, b < 3 → a ≠ b → (TX3 a).2.1 ≠ (TX3 b).2.1 := by decide +kernel
theorem tyX3_ok : ∀ k, k < 3 → parseFieldDescriptor (TX3 k).2.2.1 = some (tyX3 k) := by decide +kernel
abbrev cX3_init : ByteArray := prog_5_method_1_code
def yX3_init : MethodName := ⟨RX3, "<init>", "()V"⟩
abbrev cX3_isLateBy : ByteArray := prog_5_method_2_code
def yX3_isLateBy : MethodName := ⟨RX3, "isLateBy", "(ILTickCircuits$StepTable;LTickCircuits$StepTable;)Z"⟩
abbrev cX3_step : ByteArray := prog_5_method_3_code
def yX3_step : MethodName := ⟨RX3, "step", "(IIILTickCircuits$StepTable;LTickCircuits$StepTable;)Z"⟩
abbrev cX3_meet : ByteArray := prog_5_method_4_code
def yX3_meet : MethodName := ⟨RX3, "meet", "(III)V"⟩
abbrev cX3_forgetAll : ByteArray := prog_5_method_5_code
def yX3_forgetAll : MethodName := ⟨RX3, "forgetAll", "()V"⟩
def RX4 : String := "TickCircuits$PairWalk"
def TX4 : u_T := fun k => match k with
  | 0 => ("TickCircuits$PairWalk", "isMet", "LTickCircuits$Row;", true)
  | 1 => ("TickCircuits$PairWalk", "zeroStates", "LTickCircuits$Row;", true)
  | 2 => ("TickCircuits$PairWalk", "oneStates", "LTickCircuits$Row;", true)
  | 3 => ("TickCircuits$PairWalk", "ticks", "LTickCircuits$Row;", true)
  | 4 => ("TickCircuits$PairWalk", "placesAhead", "LTickCircuits$Row;", true)
  | 5 => ("TickCircuits$PairWalk", "lastInputs", "LTickCircuits$Row;", true)
  | _ => ("TickCircuits$PairWalk", "size", "I", false)
def tyX4 : Nat → FieldType := fun k => match k with
  | 0 => .object "TickCircuits$Row"
  | 1 => .object "TickCircuits$Row"
  | 2 => .object "TickCircuits$Row"
  | 3 => .object "TickCircuits$Row"
  | 4 => .object "TickCircuits$Row"
  | 5 => .object "TickCircuits$Row"
  | _ => .int
abbrev wsX40 : List Cond := u_ws RX4 TX4 7
theorem nmX4 : ∀ a, a < 7 → ∀ b, b < 7 → a ≠ b → (TX4 a).2.1 ≠ (TX4 b).2.1 := by decide +kernel
theorem tyX4_ok : ∀ k, k < 7 → parseFieldDescriptor (TX4 k).2.2.1 = some (tyX4 k) := by decide +kernel
abbrev cX4_init : ByteArray := prog_6_method_1_code
def yX4_init : MethodName := ⟨RX4, "<init>", "()V"⟩
abbrev cX4_walkFromFirst : ByteArray := prog_6_method_2_code
def yX4_walkFromFirst : MethodName := ⟨RX4, "walkFromFirst", "(LTickCircuits$StepTable;LTickCircuits$StepTable;)V"⟩
abbrev cX4_meet : ByteArray := prog_6_method_3_code
def yX4_meet : MethodName := ⟨RX4, "meet", "(IIII)V"⟩
abbrev cX4_size : ByteArray := prog_6_method_4_code
def yX4_size : MethodName := ⟨RX4, "size", "()I"⟩
abbrev cX4_zeroState : ByteArray := prog_6_method_5_code
def yX4_zeroState : MethodName := ⟨RX4, "zeroState", "(I)I"⟩
abbrev cX4_oneState : ByteArray := prog_6_method_6_code
def yX4_oneState : MethodName := ⟨RX4, "oneState", "(I)I"⟩
abbrev cX4_ticksTo : ByteArray := prog_6_method_7_code
def yX4_ticksTo : MethodName := ⟨RX4, "ticksTo", "(I)I"⟩
abbrev cX4_inputsOnWay : ByteArray := prog_6_method_8_code
def yX4_inputsOnWay : MethodName := ⟨RX4, "inputsOnWay", "(II)I"⟩
def RX5 : String := "TickCircuits$Reader"
def TX5 : u_T := fun k => match k with
  | 0 => ("TickCircuits$Reader", "circuit", "LTickCircuits$Circuit;", true)
  | 1 => ("TickCircuits$Reader", "position", "I", false)
  | 2 => ("TickCircuits$Reader", "reason", "I", false)
  | _ => ("TickCircuits$Reader", "toldSet", "I", false)
def tyX5 : Nat → FieldType := fun k => match k with
  | 0 => .object "TickCircuits$Circuit"
  | 1 => .int
  | 2 => .int
  | _ => .int
abbrev wsX50 : List Cond := u_ws RX5 TX5 4
theorem nmX5 : ∀ a, a < 4 → ∀ b, b < 4 → a ≠ b → (TX5 a).2.1 ≠ (TX5 b).2.1 := by decide +kernel
theorem tyX5_ok : ∀ k, k < 4 → parseFieldDescriptor (TX5 k).2.2.1 = some (tyX5 k) := by decide +kernel
abbrev cX5_init : ByteArray := prog_7_method_1_code
def yX5_init : MethodName := ⟨RX5, "<init>", "()V"⟩
abbrev cX5_circuitRead : ByteArray := prog_7_method_2_code
def yX5_circuitRead : MethodName := ⟨RX5, "circuitRead", "()LTickCircuits$Circuit;"⟩
abbrev cX5_faultPosition : ByteArray := prog_7_method_3_code
def yX5_faultPosition : MethodName := ⟨RX5, "faultPosition", "()I"⟩
abbrev cX5_faultReason : ByteArray := prog_7_method_4_code
def yX5_faultReason : MethodName := ⟨RX5, "faultReason", "()I"⟩
abbrev cX5_readWhole : ByteArray := prog_7_method_5_code
def yX5_readWhole : MethodName := ⟨RX5, "readWhole", "(LTickCircuits$Text;)V"⟩
abbrev cX5_readPart : ByteArray := prog_7_method_6_code
def yX5_readPart : MethodName := ⟨RX5, "readPart", "(LTickCircuits$Text;)V"⟩
abbrev cX5_readGate : ByteArray := prog_7_method_7_code
def yX5_readGate : MethodName := ⟨RX5, "readGate", "(LTickCircuits$Text;)V"⟩
abbrev cX5_readRegister : ByteArray := prog_7_method_8_code
def yX5_readRegister : MethodName := ⟨RX5, "readRegister", "(LTickCircuits$Text;)V"⟩
abbrev cX5_readOutput : ByteArray := prog_7_method_9_code
def yX5_readOutput : MethodName := ⟨RX5, "readOutput", "(LTickCircuits$Text;)V"⟩
abbrev cX5_partEndsAt : ByteArray := prog_7_method_10_code
def yX5_partEndsAt : MethodName := ⟨RX5, "partEndsAt", "(LTickCircuits$Text;I)Z"⟩
abbrev cX5_digitAt : ByteArray := prog_7_method_11_code
def yX5_digitAt : MethodName := ⟨RX5, "digitAt", "(LTickCircuits$Text;I)I"⟩
def RX6 : String := "TickCircuits$Row"
def TX6 : u_T := fun k => match k with
  | _ => ("TickCircuits$Row", "cells", "[I", true)
def tyX6 : Nat → FieldType := fun k => match k with
  | _ => .array .int
abbrev wsX60 : List Cond := u_ws RX6 TX6 1
theorem nmX6 : ∀ a, a < 1 → ∀ b, b < 1 → a ≠ b → (TX6 a).2.1 ≠ (TX6 b).2.1 := by decide +kernel
theorem tyX6_ok : ∀ k, k < 1 → parseFieldDescriptor (TX6 k).2.2.1 = some (tyX6 k) := by decide +kernel
abbrev cX6_init : ByteArray := prog_8_method_1_code
def yX6_init : MethodName := ⟨RX6, "<init>", "(I)V"⟩
abbrev cX6_get : ByteArray := prog_8_method_2_code
def yX6_get : MethodName := ⟨RX6, "get", "(I)I"⟩
abbrev cX6_set : ByteArray := prog_8_method_3_code
def yX6_set : MethodName := ⟨RX6, "set", "(II)V"⟩
abbrev cX6_clear : ByteArray := prog_8_method_4_code
def yX6_clear : MethodName := ⟨RX6, "clear", "()V"⟩
def RX7 : String := "TickCircuits$StepTable"
def TX7 : u_T := fun k => match k with
  | 0 => ("TickCircuits$StepTable", "statesBehind", "LTickCircuits$Row;", true)
  | 1 => ("TickCircuits$StepTable", "outputSets", "LTickCircuits$Row;", true)
  | _ => ("TickCircuits$StepTable", "firstState", "I", false)
def tyX7 : Nat → FieldType := fun k => match k with
  | 0 => .object "TickCircuits$Row"
  | 1 => .object "TickCircuits$Row"
  | _ => .int
abbrev wsX70 : List Cond := u_ws RX7 TX7 3
theorem nmX7 : ∀ a, a < 3 → ∀ b, b < 3 → a ≠ b → (TX7 a).2.1 ≠ (TX7 b).2.1 := by decide +kernel
theorem tyX7_ok : ∀ k, k < 3 → parseFieldDescriptor (TX7 k).2.2.1 = some (tyX7 k) := by decide +kernel
abbrev cX7_init : ByteArray := prog_9_method_1_code
def yX7_init : MethodName := ⟨RX7, "<init>", "()V"⟩
abbrev cX7_fillFrom : ByteArray := prog_9_method_2_code
def yX7_fillFrom : MethodName := ⟨RX7, "fillFrom", "(LTickCircuits$Circuit;)V"⟩
abbrev cX7_firstState : ByteArray := prog_9_method_3_code
def yX7_firstState : MethodName := ⟨RX7, "firstState", "()I"⟩
abbrev cX7_stateBehind : ByteArray := prog_9_method_4_code
def yX7_stateBehind : MethodName := ⟨RX7, "stateBehind", "(II)I"⟩
abbrev cX7_outputSet : ByteArray := prog_9_method_5_code
def yX7_outputSet : MethodName := ⟨RX7, "outputSet", "(I)I"⟩
abbrev cX7_statesComeTo : ByteArray := prog_9_method_6_code
def yX7_statesComeTo : MethodName := ⟨RX7, "statesComeTo", "()I"⟩
abbrev cX7_statesBehindAny : ByteArray := prog_9_method_7_code
def yX7_statesBehindAny : MethodName := ⟨RX7, "statesBehindAny", "(I)I"⟩
abbrev cX7_steadyRegisters : ByteArray := prog_9_method_8_code
def yX7_steadyRegisters : MethodName := ⟨RX7, "steadyRegisters", "(I)I"⟩
def RX8 : String := "TickCircuits$Text"
def TX8 : u_T := fun k => match k with
  | 0 => ("TickCircuits$Text", "characters", "LTickCircuits$Row;", true)
  | _ => ("TickCircuits$Text", "length", "I", false)
def tyX8 : Nat → FieldType := fun k => match k with
  | 0 => .object "TickCircuits$Row"
  | _ => .int
abbrev wsX80 : List Cond := u_ws RX8 TX8 2
theorem nmX8 : ∀ a, a < 2 → ∀ b, b < 2 → a ≠ b → (TX8 a).2.1 ≠ (TX8 b).2.1 := by decide +kernel
theorem tyX8_ok : ∀ k, k < 2 → parseFieldDescriptor (TX8 k).2.2.1 = some (tyX8 k) := by decide +kernel
abbrev cX8_init : ByteArray := prog_10_method_1_code
def yX8_init : MethodName := ⟨RX8, "<init>", "()V"⟩
abbrev cX8_length : ByteArray := prog_10_method_2_code
def yX8_length : MethodName := ⟨RX8, "length", "()I"⟩
abbrev cX8_append : ByteArray := prog_10_method_3_code
def yX8_append : MethodName := ⟨RX8, "append", "(I)V"⟩
abbrev cX8_empty : ByteArray := prog_10_method_4_code
def yX8_empty : MethodName := ⟨RX8, "empty", "()V"⟩
abbrev cX8_characterAt : ByteArray := prog_10_method_5_code
def yX8_characterAt : MethodName := ⟨RX8, "characterAt", "(I)I"⟩
def RX9 : String := "TickCircuits"
def TX9 : u_T := fun k => match k with
  | 0 => ("TickCircuits", "zero", "LTickCircuits$Circuit;", true)
  | 1 => ("TickCircuits", "one", "LTickCircuits$Circuit;", true)
  | 2 => ("TickCircuits", "trial", "LTickCircuits$Circuit;", true)
  | 3 => ("TickCircuits", "zeroTable", "LTickCircuits$StepTable;", true)
  | 4 => ("TickCircuits", "oneTable", "LTickCircuits$StepTable;", true)
  | 5 => ("TickCircuits", "askedTable", "LTickCircuits$StepTable;", true)
  | 6 => ("TickCircuits", "walk", "LTickCircuits$PairWalk;", true)
  | 7 => ("TickCircuits", "lateWalk", "LTickCircuits$LateWalk;", true)
  | 8 => ("TickCircuits", "alike", "LTickCircuits$AlikeStates;", true)
  | 9 => ("TickCircuits", "history", "LTickCircuits$History;", true)
  | 10 => ("TickCircuits", "text", "LTickCircuits$Text;", true)
  | _ => ("TickCircuits", "reader", "LTickCircuits$Reader;", true)
def tyX9 : Nat → FieldType := fun k => match k with
  | 0 => .object "TickCircuits$Circuit"
  | 1 => .object "TickCircuits$Circuit"
  | 2 => .object "TickCircuits$Circuit"
  | 3 => .object "TickCircuits$StepTable"
  | 4 => .object "TickCircuits$StepTable"
  | 5 => .object "TickCircuits$StepTable"
  | 6 => .object "TickCircuits$PairWalk"
  | 7 => .object "TickCircuits$LateWalk"
  | 8 => .object "TickCircuits$AlikeStates"
  | 9 => .object "TickCircuits$History"
  | 10 => .object "TickCircuits$Text"
  | _ => .object "TickCircuits$Reader"
abbrev wsX90 : List Cond := u_ws RX9 TX9 12
theorem nmX9 : ∀ a, a < 12 → ∀ b, b < 12 → a ≠ b → (TX9 a).2.1 ≠ (TX9 b).2.1 := by decide +kernel
theorem tyX9_ok : ∀ k, k < 12 → parseFieldDescriptor (TX9 k).2.2.1 = some (tyX9 k) := by decide +kernel
abbrev cX9_init : ByteArray := prog_1_method_1_code
def yX9_init : MethodName := ⟨RX9, "<init>", "()V"⟩
abbrev cX9_gate : ByteArray := prog_1_method_2_code
def yX9_gate : MethodName := ⟨RX9, "gate", "(IIIII)I"⟩
abbrev cX9_dropGate : ByteArray := prog_1_method_3_code
def yX9_dropGate : MethodName := ⟨RX9, "dropGate", "(I)I"⟩
abbrev cX9_register : ByteArray := prog_1_method_4_code
def yX9_register : MethodName := ⟨RX9, "register", "(IIII)I"⟩
abbrev cX9_output : ByteArray := prog_1_method_5_code
def yX9_output : MethodName := ⟨RX9, "output", "(II)I"⟩
abbrev cX9_copy : ByteArray := prog_1_method_6_code
def yX9_copy : MethodName := ⟨RX9, "copy", "(I)I"⟩
abbrev cX9_circuitOf : ByteArray := prog_1_method_7_code
def yX9_circuitOf : MethodName := ⟨RX9, "circuitOf", "(II)I"⟩
abbrev cX9_bit : ByteArray := prog_1_method_8_code
def yX9_bit : MethodName := ⟨RX9, "bit", "(IIII)I"⟩
abbrev cX9_behind : ByteArray := prog_1_method_9_code
def yX9_behind : MethodName := ⟨RX9, "behind", "(III)I"⟩
abbrev cX9_run : ByteArray := prog_1_method_10_code
def yX9_run : MethodName := ⟨RX9, "run", "(IIII)I"⟩
abbrev cX9_share : ByteArray := prog_1_method_11_code
def yX9_share : MethodName := ⟨RX9, "share", "(II)I"⟩
abbrev cX9_pairOf : ByteArray := prog_1_method_12_code
def yX9_pairOf : MethodName := ⟨RX9, "pairOf", "(II)I"⟩
abbrev cX9_pairs : ByteArray := prog_1_method_13_code
def yX9_pairs : MethodName := ⟨RX9, "pairs", "()I"⟩
abbrev cX9_apart : ByteArray := prog_1_method_14_code
def yX9_apart : MethodName := ⟨RX9, "apart", "(I)I"⟩
abbrev cX9_late : ByteArray := prog_1_method_15_code
def yX9_late : MethodName := ⟨RX9, "late", "()I"⟩
abbrev cX9_same : ByteArray := prog_1_method_16_code
def yX9_same : MethodName := ⟨RX9, "same", "(I)I"⟩
abbrev cX9_kinds : ByteArray := prog_1_method_17_code
def yX9_kinds : MethodName := ⟨RX9, "kinds", "(I)I"⟩
abbrev cX9_count : ByteArray := prog_1_method_18_code
def yX9_count : MethodName := ⟨RX9, "count", "(I)I"⟩
abbrev cX9_undo : ByteArray := prog_1_method_19_code
def yX9_undo : MethodName := ⟨RX9, "undo", "()I"⟩
abbrev cX9_type : ByteArray := prog_1_method_20_code
def yX9_type : MethodName := ⟨RX9, "type", "(I)I"⟩
abbrev cX9_clearText : ByteArray := prog_1_method_21_code
def yX9_clearText : MethodName := ⟨RX9, "clearText", "()I"⟩
abbrev cX9_fault : ByteArray := prog_1_method_22_code
def yX9_fault : MethodName := ⟨RX9, "fault", "(I)I"⟩
abbrev cX9_read : ByteArray := prog_1_method_23_code
def yX9_read : MethodName := ⟨RX9, "read", "(I)I"⟩
abbrev cX9_circuitAt : ByteArray := prog_1_method_24_code
def yX9_circuitAt : MethodName := ⟨RX9, "circuitAt", "(I)LTickCircuits$Circuit;"⟩
abbrev cX9_tellWires : ByteArray := prog_1_method_25_code
def yX9_tellWires : MethodName := ⟨RX9, "tellWires", "(LTickCircuits$Circuit;I)I"⟩
abbrev cX9_tellStates : ByteArray := prog_1_method_26_code
def yX9_tellStates : MethodName := ⟨RX9, "tellStates", "(LTickCircuits$Circuit;I)I"⟩
abbrev cX9_tellGate : ByteArray := prog_1_method_27_code
def yX9_tellGate : MethodName := ⟨RX9, "tellGate", "(LTickCircuits$Circuit;II)I"⟩
abbrev cX9_walkWith : ByteArray := prog_1_method_28_code
def yX9_walkWith : MethodName := ⟨RX9, "walkWith", "(LTickCircuits$Circuit;)V"⟩
abbrev cX9_neverApart : ByteArray := prog_1_method_29_code
def yX9_neverApart : MethodName := ⟨RX9, "neverApart", "(LTickCircuits$Circuit;)Z"⟩
abbrev cX9_firstPairApart : ByteArray := prog_1_method_30_code
def yX9_firstPairApart : MethodName := ⟨RX9, "firstPairApart", "()I"⟩
abbrev cX9_differingInputs : ByteArray := prog_1_method_31_code
def yX9_differingInputs : MethodName := ⟨RX9, "differingInputs", "(I)I"⟩
abbrev cX9_isWithin : ByteArray := prog_1_method_32_code
def yX9_isWithin : MethodName := ⟨RX9, "isWithin", "(III)Z"⟩
abbrev cX9_isCircuit : ByteArray := prog_1_method_33_code
def yX9_isCircuit : MethodName := ⟨RX9, "isCircuit", "(I)Z"⟩
abbrev cX9_isRegister : ByteArray := prog_1_method_34_code
def yX9_isRegister : MethodName := ⟨RX9, "isRegister", "(I)Z"⟩
abbrev cX9_isWire : ByteArray := prog_1_method_35_code
def yX9_isWire : MethodName := ⟨RX9, "isWire", "(I)Z"⟩
abbrev cX9_isState : ByteArray := prog_1_method_36_code
def yX9_isState : MethodName := ⟨RX9, "isState", "(I)Z"⟩
abbrev cX9_areInputs : ByteArray := prog_1_method_37_code
def yX9_areInputs : MethodName := ⟨RX9, "areInputs", "(I)Z"⟩
abbrev cX9_mayFeed : ByteArray := prog_1_method_38_code
def yX9_mayFeed : MethodName := ⟨RX9, "mayFeed", "(II)Z"⟩
abbrev cX9_bitOf : ByteArray := prog_1_method_39_code
def yX9_bitOf : MethodName := ⟨RX9, "bitOf", "(II)I"⟩
abbrev cX9_leastOf : ByteArray := prog_1_method_40_code
def yX9_leastOf : MethodName := ⟨RX9, "leastOf", "(I)I"⟩
abbrev cX9_floatBitsOfSixteenths : ByteArray := prog_1_method_41_code
def yX9_floatBitsOfSixteenths : MethodName := ⟨RX9, "floatBitsOfSixteenths", "(I)I"⟩
def RX10 : String := "TickCircuitsModel"
def TX10 : u_T := fun k => match k with
  | 0 => ("TickCircuitsModel", "s", "[I", true)
  | 1 => ("TickCircuitsModel", "was", "[I", true)
  | 2 => ("TickCircuitsModel", "begun", "[I", true)
  | 3 => ("TickCircuitsModel", "states", "I", false)
  | 4 => ("TickCircuitsModel", "text", "[C", true)
  | 5 => ("TickCircuitsModel", "typed", "I", false)
  | 6 => ("TickCircuitsModel", "reason", "I", false)
  | 7 => ("TickCircuitsModel", "at", "I", false)
  | 8 => ("TickCircuitsModel", "made", "[I", true)
  | 9 => ("TickCircuitsModel", "told", "I", false)
  | 10 => ("TickCircuitsModel", "wire", "[I", true)
  | 11 => ("TickCircuitsModel", "pair", "[I", true)
  | 12 => ("TickCircuitsModel", "back", "[I", true)
  | 13 => ("TickCircuitsModel", "by", "[I", true)
  | 14 => ("TickCircuitsModel", "ticks", "[I", true)
  | 15 => ("TickCircuitsModel", "met", "[I", true)
  | 16 => ("TickCircuitsModel", "many", "I", false)
  | 17 => ("TickCircuitsModel", "apartAt", "I", false)
  | 18 => ("TickCircuitsModel", "apartBy", "I", false)
  | 19 => ("TickCircuitsModel", "row", "[I", true)
  | 20 => ("TickCircuitsModel", "seen", "[I", true)
  | 21 => ("TickCircuitsModel", "alike", "[I", true)
  | _ => ("TickCircuitsModel", "finer", "[I", true)
def tyX10 : Nat → FieldType := fun k => match k with
  | 0 => .array .int
  | 1 => .array .int
  | 2 => .array .int
  | 3 => .int
  | 4 => .array .char
  | 5 => .int
  | 6 => .int
  | 7 => .int
  | 8 => .array .int
  | 9 => .int
  | 10 => .array .int
  | 11 => .array .int
  | 12 => .array .int
  | 13 => .array .int
  | 14 => .array .int
  | 15 => .array .int
  | 16 => .int
  | 17 => .int
  | 18 => .int
  | 19 => .array .int
  | 20 => .array .int
  | 21 => .array .int
  | _ => .array .int
abbrev wsX100 : List Cond := u_ws RX10 TX10 23
theorem nmX10 : ∀ a, a < 23 → ∀ b, b < 23 → a ≠ b → (TX10 a).2.1 ≠ (TX10 b).2.1 := by decide +kernel
theorem tyX10_ok : ∀ k, k < 23 → parseFieldDescriptor (TX10 k).2.2.1 = some (tyX10 k) := by decide +kernel
abbrev cX10_init : ByteArray := prog_12_method_1_code
def yX10_init : MethodName := ⟨RX10, "<init>", "()V"⟩
abbrev cX10_in : ByteArray := prog_12_method_2_code
def yX10_in : MethodName := ⟨RX10, "in", "(III)Z"⟩
abbrev cX10_lays : ByteArray := prog_12_method_3_code
def yX10_lays : MethodName := ⟨RX10, "lays", "([II)V"⟩
abbrev cX10_of : ByteArray := prog_12_method_4_code
def yX10_of : MethodName := ⟨RX10, "of", "(II)I"⟩
abbrev cX10_keeps : ByteArray := prog_12_method_5_code
def yX10_keeps : MethodName := ⟨RX10, "keeps", "()V"⟩
abbrev cX10_acted : ByteArray := prog_12_method_6_code
def yX10_acted : MethodName := ⟨RX10, "acted", "(I)I"⟩
abbrev cX10_isAllowed : ByteArray := prog_12_method_7_code
def yX10_isAllowed : MethodName := ⟨RX10, "isAllowed", "(II)Z"⟩
abbrev cX10_gate : ByteArray := prog_12_method_8_code
def yX10_gate : MethodName := ⟨RX10, "gate", "(IIIII)I"⟩
abbrev cX10_dropGate : ByteArray := prog_12_method_9_code
def yX10_dropGate : MethodName := ⟨RX10, "dropGate", "(I)I"⟩
abbrev cX10_register : ByteArray := prog_12_method_10_code
def yX10_register : MethodName := ⟨RX10, "register", "(IIII)I"⟩
abbrev cX10_output : ByteArray := prog_12_method_11_code
def yX10_output : MethodName := ⟨RX10, "output", "(II)I"⟩
abbrev cX10_copy : ByteArray := prog_12_method_12_code
def yX10_copy : MethodName := ⟨RX10, "copy", "(I)I"⟩
abbrev cX10_works : ByteArray := prog_12_method_13_code
def yX10_works : MethodName := ⟨RX10, "works", "(III)I"⟩
abbrev cX10_lights : ByteArray := prog_12_method_14_code
def yX10_lights : MethodName := ⟨RX10, "lights", "(III)V"⟩
abbrev cX10_out : ByteArray := prog_12_method_15_code
def yX10_out : MethodName := ⟨RX10, "out", "(III)I"⟩
abbrev cX10_then : ByteArray := prog_12_method_16_code
def yX10_then : MethodName := ⟨RX10, "then", "(III)I"⟩
abbrev cX10_first : ByteArray := prog_12_method_17_code
def yX10_first : MethodName := ⟨RX10, "first", "(I)I"⟩
abbrev cX10_bit : ByteArray := prog_12_method_18_code
def yX10_bit : MethodName := ⟨RX10, "bit", "(IIII)I"⟩
abbrev cX10_behind : ByteArray := prog_12_method_19_code
def yX10_behind : MethodName := ⟨RX10, "behind", "(III)I"⟩
abbrev cX10_run : ByteArray := prog_12_method_20_code
def yX10_run : MethodName := ⟨RX10, "run", "(IIII)I"⟩
abbrev cX10_sixteenths : ByteArray := prog_12_method_21_code
def yX10_sixteenths : MethodName := ⟨RX10, "sixteenths", "(I)I"⟩
abbrev cX10_share : ByteArray := prog_12_method_22_code
def yX10_share : MethodName := ⟨RX10, "share", "(II)I"⟩
abbrev cX10_comesTo : ByteArray := prog_12_method_23_code
def yX10_comesTo : MethodName := ⟨RX10, "comesTo", "(I)I"⟩
abbrev cX10_steady : ByteArray := prog_12_method_24_code
def yX10_steady : MethodName := ⟨RX10, "steady", "(I)I"⟩
abbrev cX10_isAlike : ByteArray := prog_12_method_25_code
def yX10_isAlike : MethodName := ⟨RX10, "isAlike", "(IIIZ)Z"⟩
abbrev cX10_refines : ByteArray := prog_12_method_26_code
def yX10_refines : MethodName := ⟨RX10, "refines", "(IZ)V"⟩
abbrev cX10_classes : ByteArray := prog_12_method_27_code
def yX10_classes : MethodName := ⟨RX10, "classes", "(I)I"⟩
abbrev cX10_depends : ByteArray := prog_12_method_28_code
def yX10_depends : MethodName := ⟨RX10, "depends", "(I)I"⟩
abbrev cX10_circuitOf : ByteArray := prog_12_method_29_code
def yX10_circuitOf : MethodName := ⟨RX10, "circuitOf", "(II)I"⟩
abbrev cX10_pairsUp : ByteArray := prog_12_method_30_code
def yX10_pairsUp : MethodName := ⟨RX10, "pairsUp", "()V"⟩
abbrev cX10_rowAt : ByteArray := prog_12_method_31_code
def yX10_rowAt : MethodName := ⟨RX10, "rowAt", "(II)I"⟩
abbrev cX10_differs : ByteArray := prog_12_method_32_code
def yX10_differs : MethodName := ⟨RX10, "differs", "(I)I"⟩
abbrev cX10_pairOf : ByteArray := prog_12_method_33_code
def yX10_pairOf : MethodName := ⟨RX10, "pairOf", "(II)I"⟩
abbrev cX10_pairs : ByteArray := prog_12_method_34_code
def yX10_pairs : MethodName := ⟨RX10, "pairs", "()I"⟩
abbrev cX10_apart : ByteArray := prog_12_method_35_code
def yX10_apart : MethodName := ⟨RX10, "apart", "(I)I"⟩
abbrev cX10_isLate : ByteArray := prog_12_method_36_code
def yX10_isLate : MethodName := ⟨RX10, "isLate", "(I)Z"⟩
abbrev cX10_late : ByteArray := prog_12_method_37_code
def yX10_late : MethodName := ⟨RX10, "late", "()I"⟩
abbrev cX10_same : ByteArray := prog_12_method_38_code
def yX10_same : MethodName := ⟨RX10, "same", "(I)I"⟩
abbrev cX10_kinds : ByteArray := prog_12_method_39_code
def yX10_kinds : MethodName := ⟨RX10, "kinds", "(I)I"⟩
abbrev cX10_count : ByteArray := prog_12_method_40_code
def yX10_count : MethodName := ⟨RX10, "count", "(I)I"⟩
abbrev cX10_undo : ByteArray := prog_12_method_41_code
def yX10_undo : MethodName := ⟨RX10, "undo", "()I"⟩
abbrev cX10_type : ByteArray := prog_12_method_42_code
def yX10_type : MethodName := ⟨RX10, "type", "(I)I"⟩
abbrev cX10_clearText : ByteArray := prog_12_method_43_code
def yX10_clearText : MethodName := ⟨RX10, "clearText", "()I"⟩
abbrev cX10_sign : ByteArray := prog_12_method_44_code
def yX10_sign : MethodName := ⟨RX10, "sign", "(I)I"⟩
abbrev cX10_wireAt : ByteArray := prog_12_method_45_code
def yX10_wireAt : MethodName := ⟨RX10, "wireAt", "(I)I"⟩
abbrev cX10_doesGate : ByteArray := prog_12_method_46_code
def yX10_doesGate : MethodName := ⟨RX10, "doesGate", "(I)I"⟩
abbrev cX10_doesRegister : ByteArray := prog_12_method_47_code
def yX10_doesRegister : MethodName := ⟨RX10, "doesRegister", "()I"⟩
abbrev cX10_doesOutput : ByteArray := prog_12_method_48_code
def yX10_doesOutput : MethodName := ⟨RX10, "doesOutput", "()I"⟩
abbrev cX10_faulty : ByteArray := prog_12_method_49_code
def yX10_faulty : MethodName := ⟨RX10, "faulty", "()I"⟩
abbrev cX10_fault : ByteArray := prog_12_method_50_code
def yX10_fault : MethodName := ⟨RX10, "fault", "(I)I"⟩
abbrev cX10_read : ByteArray := prog_12_method_51_code
def yX10_read : MethodName := ⟨RX10, "read", "(I)I"⟩
def RJ7 : String := "java/util/Arrays"
def TJ7 : u_T := fun k => match k with
  | _ => ("", "", "", false)
def tyJ7 : Nat → FieldType := fun k => match k with
  | _ => .int
abbrev wsJ70 : List Cond := u_ws RJ7 TJ7 0
theorem nmJ7 : ∀ a, a < 0 → ∀ b, b < 0 → a ≠ b → (TJ7 a).2.1 ≠ (TJ7 b).2.1 := by decide +kernel
theorem tyJ7_ok : ∀ k, k < 0 → parseFieldDescriptor (TJ7 k).2.2.1 = some (tyJ7 k) := by decide +kernel
abbrev cJ7_fill_53178 : ByteArray := prog_13_method_103_code
def yJ7_fill_53178 : MethodName := ⟨RJ7, "fill", "([II)V"⟩
def RL : String := "TickCircuitsLaw"
abbrev cL_law : ByteArray := code
def yL_law : MethodName := ⟨RL, "law", "([I)Z"⟩
abbrev vwCl : List vw_C := [(RX0, TX0, 1), (RX1, TX1, 4), (RX2, TX2, 2), (RX3, TX3, 3), (RX4, TX4, 7), (RX5, TX5, 4), (RX6, TX6, 1), (RX7, TX7, 3), (RX8, TX8, 2), (RX9, TX9, 12), (RX10, TX10, 23)]
end
section
theorem dX0_init_0 : decode cX0_init 0 = .ok (.aload_n 0, 1) := by decide +kernel
theorem dX0_init_1 : decode cX0_init 1 = .ok (.invokespecial 3, 3) := by decide +kernel
theorem dX0_init_4 : decode cX0_init 4 = .ok (.aload_n 0, 1) := by decide +kernel
theorem dX0_init_5 : decode cX0_init 5 = .ok (.new 9, 3) := by decide +kernel
theorem dX0_init_8 : decode cX0_init 8 = .ok (.dup, 1) := by decide +kernel
theorem dX0_init_9 : decode cX0_init 9 = .ok (.bipush 16, 2) := by decide +kernel
theorem dX0_init_11 : decode cX0_init 11 = .ok (.invokespecial 11, 3) := by decide +kernel
theorem dX0_init_14 : decode cX0_init 14 = .ok (.putfield 14, 3) := by decide +kernel
theorem dX0_init_17 : decode cX0_init 17 = .ok (.return_, 1) := by decide +kernel
theorem dX0_classesAmong_0 : decode cX0_classesAmong 0 = .ok (.aload_n 0, 1) := by decide +kernel
theorem dX0_classesAmong_1 : decode cX0_classesAmong 1 = .ok (.aload_n 2, 1) := by decide +kernel
theorem dX0_classesAmong_2 : decode cX0_classesAmong 2 = .ok (.invokevirtual 20, 3) := by decide +kernel
theorem dX0_classesAmong_5 : decode cX0_classesAmong 5 = .ok (.iconst 0, 1) := by decide +kernel
theorem dX0_classesAmong_6 : decode cX0_classesAmong 6 = .ok (.istore_n 3, 1) := by decide +kernel
theorem dX0_classesAmong_7 : decode cX0_classesAmong 7 = .ok (.iconst 0, 1) := by decide +kernel
theorem dX0_classesAmong_8 : decode cX0_classesAmong 8 = .ok (.istore 4, 2) := by decide +kernel
theorem dX0_classesAmong_10 : decode cX0_classesAmong 10 = .ok (.iload 4, 2) := by decide +kernel
theorem dX0_classesAmong_12 : decode cX0_classesAmong 12 = .ok (.bipush 16, 2) := by decide +kernel
theorem dX0_classesAmong_14 : decode cX0_classesAmong 14 = .ok (.if_icmp .ge 49, 3) := by decide +kernel
theorem dX0_classesAmong_17 : decode cX0_classesAmong 17 = .ok (.iload_n 1, 1) := by decide +kernel
theorem dX0_classesAmong_18 : decode cX0_classesAmong 18 = .ok (.aload_n 0, 1) := by decide +kernel
theorem dX0_classesAmong_19 : decode cX0_classesAmong 19 = .ok (.getfield 14, 3) := by decide +kernel
theorem dX0_classesAmong_22 : decode cX0_classesAmong 22 = .ok (.iload 4, 2) := by decide +kernel
theorem dX0_classesAmong_24 : decode cX0_classesAmong 24 = .ok (.invokevirtual 24, 3) := by decide +kernel
theorem dX0_classesAmong_27 : decode cX0_classesAmong 27 = .ok (.iconst (-1), 1) := by decide +kernel
theorem dX0_classesAmong_28 : decode cX0_classesAmong 28 = .ok (.ixor, 1) := by decide +kernel
theorem dX0_classesAmong_29 : decode cX0_classesAmong 29 = .ok (.iand, 1) := by decide +kernel
theorem dX0_classesAmong_30 : decode cX0_classesAmong 30 = .ok (.iconst 1, 1) := by decide +kernel
theorem dX0_classesAmong_31 : decode cX0_classesAmong 31 = .ok (.iload 4, 2) := by decide +kernel
theorem dX0_classesAmong_33 : decode cX0_classesAmong 33 = .ok (.ishl, 1) := by decide +kernel
theorem dX0_classesAmong_34 : decode cX0_classesAmong 34 = .ok (.iconst 1, 1) := by decide +kernel
theorem dX0_classesAmong_35 : decode cX0_classesAmong 35 = .ok (.isub, 1) := by decide +kernel
theorem dX0_classesAmong_36 : decode cX0_classesAmong 36 = .ok (.iand, 1) := by decide +kernel
theorem dX0_classesAmong_37 : decode cX0_classesAmong 37 = .ok (.istore 5, 2) := by decide +kernel
theorem dX0_classesAmong_39 : decode cX0_classesAmong 39 = .ok (.iload_n 1, 1) := by decide +kernel
theorem dX0_classesAmong_40 : decode cX0_classesAmong 40 = .ok (.iload 4, 2) := by decide +kernel
theorem dX0_classesAmong_42 : decode cX0_classesAmong 42 = .ok (.invokestatic 28, 3) := by decide +kernel
theorem dX0_classesAmong_45 : decode cX0_classesAmong 45 = .ok (.iconst 1, 1) := by decide +kernel
theorem dX0_classesAmong_46 : decode cX0_classesAmong 46 = .ok (.if_icmp .ne 11, 3) := by decide +kernel
theorem dX0_classesAmong_49 : decode cX0_classesAmong 49 = .ok (.iload 5, 2) := by decide +kernel
theorem dX0_classesAmong_51 : decode cX0_classesAmong 51 = .ok (.ifCond .ne 6, 3) := by decide +kernel
theorem dX0_classesAmong_54 : decode cX0_classesAmong 54 = .ok (.iinc 3 1, 3) := by decide +kernel
theorem dX0_classesAmong_57 : decode cX0_classesAmong 57 = .ok (.iinc 4 1, 3) := by decide +kernel
theorem dX0_classesAmong_60 : decode cX0_classesAmong 60 = .ok (.goto (-50), 3) := by decide +kernel
theorem dX0_classesAmong_63 : decode cX0_classesAmong 63 = .ok (.iload_n 3, 1) := by decide +kernel
theorem dX0_classesAmong_64 : decode cX0_classesAmong 64 = .ok (.ireturn, 1) := by decide +kernel
theorem dX0_findUnlike_0 : decode cX0_findUnlike 0 = .ok (.aload_n 0, 1) := by decide +kernel
theorem dX0_findUnlike_1 : decode cX0_findUnlike 1 = .ok (.getfield 14, 3) := by decide +kernel
theorem dX0_findUnlike_4 : decode cX0_findUnlike 4 = .ok (.invokevirtual 32, 3) := by decide +kernel
theorem dX0_findUnlike_7 : decode cX0_findUnlike 7 = .ok (.iconst 1, 1) := by decide +kernel
theorem dX0_findUnlike_8 : decode cX0_findUnlike 8 = .ok (.istore_n 2, 1) := by decide +kernel
theorem dX0_findUnlike_9 : decode cX0_findUnlike 9 = .ok (.iconst 0, 1) := by decide +kernel
theorem dX0_findUnlike_10 : decode cX0_findUnlike 10 = .ok (.istore_n 3, 1) := by decide +kernel
theorem dX0_findUnlike_11 : decode cX0_findUnlike 11 = .ok (.iload_n 3, 1) := by decide +kernel
theorem dX0_findUnlike_12 : decode cX0_findUnlike 12 = .ok (.bipush 16, 2) := by decide +kernel
theorem dX0_findUnlike_14 : decode cX0_findUnlike 14 = .ok (.if_icmp .ge 75, 3) := by decide +kernel
theorem dX0_findUnlike_17 : decode cX0_findUnlike 17 = .ok (.iload_n 2, 1) := by decide +kernel
theorem dX0_findUnlike_18 : decode cX0_findUnlike 18 = .ok (.ifCond .eq 71, 3) := by decide +kernel
theorem dX0_findUnlike_21 : decode cX0_findUnlike 21 = .ok (.iconst 0, 1) := by decide +kernel
theorem dX0_findUnlike_22 : decode cX0_findUnlike 22 = .ok (.istore_n 2, 1) := by decide +kernel
theorem dX0_findUnlike_23 : decode cX0_findUnlike 23 = .ok (.iconst 0, 1) := by decide +kernel
theorem dX0_findUnlike_24 : decode cX0_findUnlike 24 = .ok (.istore 4, 2) := by decide +kernel
theorem dX0_findUnlike_26 : decode cX0_findUnlike 26 = .ok (.iload 4, 2) := by decide +kernel
theorem dX0_findUnlike_28 : decode cX0_findUnlike 28 = .ok (.bipush 16, 2) := by decide +kernel
theorem dX0_findUnlike_30 : decode cX0_findUnlike 30 = .ok (.if_icmp .ge 53, 3) := by decide +kernel
theorem dX0_findUnlike_33 : decode cX0_findUnlike 33 = .ok (.aload_n 0, 1) := by decide +kernel
theorem dX0_findUnlike_34 : decode cX0_findUnlike 34 = .ok (.iload 4, 2) := by decide +kernel
theorem dX0_findUnlike_36 : decode cX0_findUnlike 36 = .ok (.aload_n 1, 1) := by decide +kernel
theorem dX0_findUnlike_37 : decode cX0_findUnlike 37 = .ok (.invokevirtual 35, 3) := by decide +kernel
theorem dX0_findUnlike_40 : decode cX0_findUnlike 40 = .ok (.istore 5, 2) := by decide +kernel
theorem dX0_findUnlike_42 : decode cX0_findUnlike 42 = .ok (.iload_n 2, 1) := by decide +kernel
theorem dX0_findUnlike_43 : decode cX0_findUnlike 43 = .ok (.ifCond .ne 17, 3) := by decide +kernel
theorem dX0_findUnlike_46 : decode cX0_findUnlike 46 = .ok (.iload 5, 2) := by decide +kernel
theorem dX0_findUnlike_48 : decode cX0_findUnlike 48 = .ok (.aload_n 0, 1) := by decide +kernel
theorem dX0_findUnlike_49 : decode cX0_findUnlike 49 = .ok (.getfield 14, 3) := by decide +kernel
theorem dX0_findUnlike_52 : decode cX0_findUnlike 52 = .ok (.iload 4, 2) := by decide +kernel
theorem dX0_findUnlike_54 : decode cX0_findUnlike 54 = .ok (.invokevirtual 24, 3) := by decide +kernel
theorem dX0_findUnlike_57 : decode cX0_findUnlike 57 = .ok (.if_icmp .eq 7, 3) := by decide +kernel
theorem dX0_findUnlike_60 : decode cX0_findUnlike 60 = .ok (.iconst 1, 1) := by decide +kernel
theorem dX0_findUnlike_61 : decode cX0_findUnlike 61 = .ok (.goto 4, 3) := by decide +kernel
theorem dX0_findUnlike_64 : decode cX0_findUnlike 64 = .ok (.iconst 0, 1) := by decide +kernel
theorem dX0_findUnlike_65 : decode cX0_findUnlike 65 = .ok (.istore_n 2, 1) := by decide +kernel
theorem dX0_findUnlike_66 : decode cX0_findUnlike 66 = .ok (.aload_n 0, 1) := by decide +kernel
theorem dX0_findUnlike_67 : decode cX0_findUnlike 67 = .ok (.getfield 14, 3) := by decide +kernel
theorem dX0_findUnlike_70 : decode cX0_findUnlike 70 = .ok (.iload 4, 2) := by decide +kernel
theorem dX0_findUnlike_72 : decode cX0_findUnlike 72 = .ok (.iload 5, 2) := by decide +kernel
theorem dX0_findUnlike_74 : decode cX0_findUnlike 74 = .ok (.invokevirtual 39, 3) := by decide +kernel
theorem dX0_findUnlike_77 : decode cX0_findUnlike 77 = .ok (.iinc 4 1, 3) := by decide +kernel
theorem dX0_findUnlike_80 : decode cX0_findUnlike 80 = .ok (.goto (-54), 3) := by decide +kernel
theorem dX0_findUnlike_83 : decode cX0_findUnlike 83 = .ok (.iinc 3 1, 3) := by decide +kernel
theorem dX0_findUnlike_86 : decode cX0_findUnlike 86 = .ok (.goto (-75), 3) := by decide +kernel
theorem dX0_findUnlike_89 : decode cX0_findUnlike 89 = .ok (.return_, 1) := by decide +kernel
theorem dX0_unlikeTo_0 : decode cX0_unlikeTo 0 = .ok (.iconst 0, 1) := by decide +kernel
theorem dX0_unlikeTo_1 : decode cX0_unlikeTo 1 = .ok (.istore_n 3, 1) := by decide +kernel
theorem dX0_unlikeTo_2 : decode cX0_unlikeTo 2 = .ok (.iconst 0, 1) := by decide +kernel
theorem dX0_unlikeTo_3 : decode cX0_unlikeTo 3 = .ok (.istore 4, 2) := by decide +kernel
theorem dX0_unlikeTo_5 : decode cX0_unlikeTo 5 = .ok (.iload 4, 2) := by decide +kernel
theorem dX0_unlikeTo_7 : decode cX0_unlikeTo 7 = .ok (.bipush 16, 2) := by decide +kernel
theorem dX0_unlikeTo_9 : decode cX0_unlikeTo 9 = .ok (.if_icmp .ge 41, 3) := by decide +kernel
theorem dX0_unlikeTo_12 : decode cX0_unlikeTo 12 = .ok (.aload_n 2, 1) := by decide +kernel
theorem dX0_unlikeTo_13 : decode cX0_unlikeTo 13 = .ok (.iload_n 1, 1) := by decide +kernel
theorem dX0_unlikeTo_14 : decode cX0_unlikeTo 14 = .ok (.invokevirtual 43, 3) := by decide +kernel
theorem dX0_unlikeTo_17 : decode cX0_unlikeTo 17 = .ok (.aload_n 2, 1) := by decide +kernel
theorem dX0_unlikeTo_18 : decode cX0_unlikeTo 18 = .ok (.iload 4, 2) := by decide +kernel
theorem dX0_unlikeTo_20 : decode cX0_unlikeTo 20 = .ok (.invokevirtual 43, 3) := by decide +kernel
theorem dX0_unlikeTo_23 : decode cX0_unlikeTo 23 = .ok (.if_icmp .ne 14, 3) := by decide +kernel
theorem dX0_unlikeTo_26 : decode cX0_unlikeTo 26 = .ok (.aload_n 0, 1) := by decide +kernel
theorem dX0_unlikeTo_27 : decode cX0_unlikeTo 27 = .ok (.iload_n 1, 1) := by decide +kernel
theorem dX0_unlikeTo_28 : decode cX0_unlikeTo 28 = .ok (.iload 4, 2) := by decide +kernel
theorem dX0_unlikeTo_30 : decode cX0_unlikeTo 30 = .ok (.aload_n 2, 1) := by decide +kernel
theorem dX0_unlikeTo_31 : decode cX0_unlikeTo 31 = .ok (.invokevirtual 48, 3) := by decide +kernel
theorem dX0_unlikeTo_34 : decode cX0_unlikeTo 34 = .ok (.ifCond .eq 10, 3) := by decide +kernel
theorem dX0_unlikeTo_37 : decode cX0_unlikeTo 37 = .ok (.iload_n 3, 1) := by decide +kernel
theorem dX0_unlikeTo_38 : decode cX0_unlikeTo 38 = .ok (.iconst 1, 1) := by decide +kernel
theorem dX0_unlikeTo_39 : decode cX0_unlikeTo 39 = .ok (.iload 4, 2) := by decide +kernel
theorem dX0_unlikeTo_41 : decode cX0_unlikeTo 41 = .ok (.ishl, 1) := by decide +kernel
theorem dX0_unlikeTo_42 : decode cX0_unlikeTo 42 = .ok (.ior, 1) := by decide +kernel
theorem dX0_unlikeTo_43 : decode cX0_unlikeTo 43 = .ok (.istore_n 3, 1) := by decide +kernel
theorem dX0_unlikeTo_44 : decode cX0_unlikeTo 44 = .ok (.iinc 4 1, 3) := by decide +kernel
theorem dX0_unlikeTo_47 : decode cX0_unlikeTo 47 = .ok (.goto (-42), 3) := by decide +kernel
theorem dX0_unlikeTo_50 : decode cX0_unlikeTo 50 = .ok (.iload_n 3, 1) := by decide +kernel
theorem dX0_unlikeTo_51 : decode cX0_unlikeTo 51 = .ok (.ireturn, 1) := by decide +kernel
theorem dX0_leadToUnlike_0 : decode cX0_leadToUnlike 0 = .ok (.iconst 0, 1) := by decide +kernel
theorem dX0_leadToUnlike_1 : decode cX0_leadToUnlike 1 = .ok (.istore 4, 2) := by decide +kernel
theorem dX0_leadToUnlike_3 : decode cX0_leadToUnlike 3 = .ok (.iconst 0, 1) := by decide +kernel
theorem dX0_leadToUnlike_4 : decode cX0_leadToUnlike 4 = .ok (.istore 5, 2) := by decide +kernel
theorem dX0_leadToUnlike_6 : decode cX0_leadToUnlike 6 = .ok (.iload 5, 2) := by decide +kernel
theorem dX0_leadToUnlike_8 : decode cX0_leadToUnlike 8 = .ok (.iconst 4, 1) := by decide +kernel
theorem dX0_leadToUnlike_9 : decode cX0_leadToUnlike 9 = .ok (.if_icmp .ge 57, 3) := by decide +kernel
theorem dX0_leadToUnlike_12 : decode cX0_leadToUnlike 12 = .ok (.iload 4, 2) := by decide +kernel
theorem dX0_leadToUnlike_14 : decode cX0_leadToUnlike 14 = .ok (.ifCond .ne 52, 3) := by decide +kernel
theorem dX0_leadToUnlike_17 : decode cX0_leadToUnlike 17 = .ok (.aload_n 3, 1) := by decide +kernel
theorem dX0_leadToUnlike_18 : decode cX0_leadToUnlike 18 = .ok (.iload_n 1, 1) := by decide +kernel
theorem dX0_leadToUnlike_19 : decode cX0_leadToUnlike 19 = .ok (.iload 5, 2) := by decide +kernel
theorem dX0_leadToUnlike_21 : decode cX0_leadToUnlike 21 = .ok (.invokevirtual 52, 3) := by decide +kernel
theorem dX0_leadToUnlike_24 : decode cX0_leadToUnlike 24 = .ok (.istore 6, 2) := by decide +kernel
theorem dX0_leadToUnlike_26 : decode cX0_leadToUnlike 26 = .ok (.aload_n 3, 1) := by decide +kernel
theorem dX0_leadToUnlike_27 : decode cX0_leadToUnlike 27 = .ok (.iload_n 2, 1) := by decide +kernel
theorem dX0_leadToUnlike_28 : decode cX0_leadToUnlike 28 = .ok (.iload 5, 2) := by decide +kernel
theorem dX0_leadToUnlike_30 : decode cX0_leadToUnlike 30 = .ok (.invokevirtual 52, 3) := by decide +kernel
theorem dX0_leadToUnlike_33 : decode cX0_leadToUnlike 33 = .ok (.istore 7, 2) := by decide +kernel
theorem dX0_leadToUnlike_35 : decode cX0_leadToUnlike 35 = .ok (.aload_n 0, 1) := by decide +kernel
theorem dX0_leadToUnlike_36 : decode cX0_leadToUnlike 36 = .ok (.getfield 14, 3) := by decide +kernel
theorem dX0_leadToUnlike_39 : decode cX0_leadToUnlike 39 = .ok (.iload 6, 2) := by decide +kernel
theorem dX0_leadToUnlike_41 : decode cX0_leadToUnlike 41 = .ok (.invokevirtual 24, 3) := by decide +kernel
theorem dX0_leadToUnlike_44 : decode cX0_leadToUnlike 44 = .ok (.iload 7, 2) := by decide +kernel
theorem dX0_leadToUnlike_46 : decode cX0_leadToUnlike 46 = .ok (.invokestatic 28, 3) := by decide +kernel
theorem dX0_leadToUnlike_49 : decode cX0_leadToUnlike 49 = .ok (.iconst 1, 1) := by decide +kernel
theorem dX0_leadToUnlike_50 : decode cX0_leadToUnlike 50 = .ok (.if_icmp .ne 7, 3) := by decide +kernel
theorem dX0_leadToUnlike_53 : decode cX0_leadToUnlike 53 = .ok (.iconst 1, 1) := by decide +kernel
theorem dX0_leadToUnlike_54 : decode cX0_leadToUnlike 54 = .ok (.goto 4, 3) := by decide +kernel
theorem dX0_leadToUnlike_57 : decode cX0_leadToUnlike 57 = .ok (.iconst 0, 1) := by decide +kernel
theorem dX0_leadToUnlike_58 : decode cX0_leadToUnlike 58 = .ok (.istore 4, 2) := by decide +kernel
theorem dX0_leadToUnlike_60 : decode cX0_leadToUnlike 60 = .ok (.iinc 5 1, 3) := by decide +kernel
theorem dX0_leadToUnlike_63 : decode cX0_leadToUnlike 63 = .ok (.goto (-57), 3) := by decide +kernel
theorem dX0_leadToUnlike_66 : decode cX0_leadToUnlike 66 = .ok (.iload 4, 2) := by decide +kernel
theorem dX0_leadToUnlike_68 : decode cX0_leadToUnlike 68 = .ok (.ireturn, 1) := by decide +kernel
theorem dX1_init_0 : decode cX1_init 0 = .ok (.aload_n 0, 1) := by decide +kernel
theorem dX1_init_1 : decode cX1_init 1 = .ok (.invokespecial 3, 3) := by decide +kernel
theorem dX1_init_4 : decode cX1_init 4 = .ok (.aload_n 0, 1) := by decide +kernel
theorem dX1_init_5 : decode cX1_init 5 = .ok (.new 9, 3) := by decide +kernel
theorem dX1_init_8 : decode cX1_init 8 = .ok (.dup, 1) := by decide +kernel
theorem dX1_init_9 : decode cX1_init 9 = .ok (.iconst 4, 1) := by decide +kernel
theorem dX1_init_10 : decode cX1_init 10 = .ok (.invokespecial 11, 3) := by decide +kernel
theorem dX1_init_13 : decode cX1_init 13 = .ok (.putfield 14, 3) := by decide +kernel
theorem dX1_init_16 : decode cX1_init 16 = .ok (.aload_n 0, 1) := by decide +kernel
theorem dX1_init_17 : decode cX1_init 17 = .ok (.new 9, 3) := by decide +kernel
theorem dX1_init_20 : decode cX1_init 20 = .ok (.dup, 1) := by decide +kernel
theorem dX1_init_21 : decode cX1_init 21 = .ok (.bipush 8, 2) := by decide +kernel
theorem dX1_init_23 : decode cX1_init 23 = .ok (.invokespecial 11, 3) := by decide +kernel
theorem dX1_init_26 : decode cX1_init 26 = .ok (.putfield 20, 3) := by decide +kernel
theorem dX1_init_29 : decode cX1_init 29 = .ok (.aload_n 0, 1) := by decide +kernel
theorem dX1_init_30 : decode cX1_init 30 = .ok (.invokevirtual 23, 3) := by decide +kernel
theorem dX1_init_33 : decode cX1_init 33 = .ok (.return_, 1) := by decide +kernel
theorem dX1_startAnew_0 : decode cX1_startAnew 0 = .ok (.aload_n 0, 1) := by decide +kernel
theorem dX1_startAnew_1 : decode cX1_startAnew 1 = .ok (.iconst 0, 1) := by decide +kernel
theorem dX1_startAnew_2 : decode cX1_startAnew 2 = .ok (.putfield 26, 3) := by decide +kernel
theorem dX1_startAnew_5 : decode cX1_startAnew 5 = .ok (.aload_n 0, 1) := by decide +kernel
theorem dX1_startAnew_6 : decode cX1_startAnew 6 = .ok (.bipush 14, 2) := by decide +kernel
theorem dX1_startAnew_8 : decode cX1_startAnew 8 = .ok (.putfield 30, 3) := by decide +kernel
theorem dX1_startAnew_11 : decode cX1_startAnew 11 = .ok (.iconst 0, 1) := by decide +kernel
theorem dX1_startAnew_12 : decode cX1_startAnew 12 = .ok (.istore_n 1, 1) := by decide +kernel
theorem dX1_startAnew_13 : decode cX1_startAnew 13 = .ok (.iload_n 1, 1) := by decide +kernel
theorem dX1_startAnew_14 : decode cX1_startAnew 14 = .ok (.iconst 4, 1) := by decide +kernel
theorem dX1_startAnew_15 : decode cX1_startAnew 15 = .ok (.if_icmp .ge 17, 3) := by decide +kernel
theorem dX1_startAnew_18 : decode cX1_startAnew 18 = .ok (.aload_n 0, 1) := by decide +kernel
theorem dX1_startAnew_19 : decode cX1_startAnew 19 = .ok (.iload_n 1, 1) := by decide +kernel
theorem dX1_startAnew_20 : decode cX1_startAnew 20 = .ok (.bipush 14, 2) := by decide +kernel
theorem dX1_startAnew_22 : decode cX1_startAnew 22 = .ok (.iconst 0, 1) := by decide +kernel
theorem dX1_startAnew_23 : decode cX1_startAnew 23 = .ok (.invokevirtual 33, 3) := by decide +kernel
theorem dX1_startAnew_26 : decode cX1_startAnew 26 = .ok (.iinc 1 1, 3) := by decide +kernel
theorem dX1_startAnew_29 : decode cX1_startAnew 29 = .ok (.goto (-16), 3) := by decide +kernel
theorem dX1_startAnew_32 : decode cX1_startAnew 32 = .ok (.return_, 1) := by decide +kernel
theorem dX1_gateCount_0 : decode cX1_gateCount 0 = .ok (.aload_n 0, 1) := by decide +kernel
theorem dX1_gateCount_1 : decode cX1_gateCount 1 = .ok (.getfield 26, 3) := by decide +kernel
theorem dX1_gateCount_4 : decode cX1_gateCount 4 = .ok (.ireturn, 1) := by decide +kernel
theorem dX1_outputWire_0 : decode cX1_outputWire 0 = .ok (.aload_n 0, 1) := by decide +kernel
theorem dX1_outputWire_1 : decode cX1_outputWire 1 = .ok (.getfield 30, 3) := by decide +kernel
theorem dX1_outputWire_4 : decode cX1_outputWire 4 = .ok (.ireturn, 1) := by decide +kernel
theorem dX1_setOutputWire_0 : decode cX1_setOutputWire 0 = .ok (.aload_n 0, 1) := by decide +kernel
theorem dX1_setOutputWire_1 : decode cX1_setOutputWire 1 = .ok (.iload_n 1, 1) := by decide +kernel
theorem dX1_setOutputWire_2 : decode cX1_setOutputWire 2 = .ok (.putfield 30, 3) := by decide +kernel
theorem dX1_setOutputWire_5 : decode cX1_setOutputWire 5 = .ok (.return_, 1) := by decide +kernel
theorem dX1_setRegister_0 : decode cX1_setRegister 0 = .ok (.aload_n 0, 1) := by decide +kernel
theorem dX1_setRegister_1 : decode cX1_setRegister 1 = .ok (.getfield 14, 3) := by decide +kernel
theorem dX1_setRegister_4 : decode cX1_setRegister 4 = .ok (.iload_n 1, 1) := by decide +kernel
theorem dX1_setRegister_5 : decode cX1_setRegister 5 = .ok (.iconst 2, 1) := by decide +kernel
theorem dX1_setRegister_6 : decode cX1_setRegister 6 = .ok (.iload_n 2, 1) := by decide +kernel
theorem dX1_setRegister_7 : decode cX1_setRegister 7 = .ok (.imul, 1) := by decide +kernel
theorem dX1_setRegister_8 : decode cX1_setRegister 8 = .ok (.iload_n 3, 1) := by decide +kernel
theorem dX1_setRegister_9 : decode cX1_setRegister 9 = .ok (.iadd, 1) := by decide +kernel
theorem dX1_setRegister_10 : decode cX1_setRegister 10 = .ok (.invokevirtual 37, 3) := by decide +kernel
theorem dX1_setRegister_13 : decode cX1_setRegister 13 = .ok (.return_, 1) := by decide +kernel
theorem dX1_nextWire_0 : decode cX1_nextWire 0 = .ok (.aload_n 0, 1) := by decide +kernel
theorem dX1_nextWire_1 : decode cX1_nextWire 1 = .ok (.getfield 14, 3) := by decide +kernel
theorem dX1_nextWire_4 : decode cX1_nextWire 4 = .ok (.iload_n 1, 1) := by decide +kernel
theorem dX1_nextWire_5 : decode cX1_nextWire 5 = .ok (.invokevirtual 41, 3) := by decide +kernel
theorem dX1_nextWire_8 : decode cX1_nextWire 8 = .ok (.iconst 1, 1) := by decide +kernel
theorem dX1_nextWire_9 : decode cX1_nextWire 9 = .ok (.ishr, 1) := by decide +kernel
theorem dX1_nextWire_10 : decode cX1_nextWire 10 = .ok (.ireturn, 1) := by decide +kernel
theorem dX1_firstBit_0 : decode cX1_firstBit 0 = .ok (.aload_n 0, 1) := by decide +kernel
theorem dX1_firstBit_1 : decode cX1_firstBit 1 = .ok (.getfield 14, 3) := by decide +kernel
theorem dX1_firstBit_4 : decode cX1_firstBit 4 = .ok (.iload_n 1, 1) := by decide +kernel
theorem dX1_firstBit_5 : decode cX1_firstBit 5 = .ok (.invokevirtual 41, 3) := by decide +kernel
theorem dX1_firstBit_8 : decode cX1_firstBit 8 = .ok (.iconst 1, 1) := by decide +kernel
theorem dX1_firstBit_9 : decode cX1_firstBit 9 = .ok (.iand, 1) := by decide +kernel
theorem dX1_firstBit_10 : decode cX1_firstBit 10 = .ok (.ireturn, 1) := by decide +kernel
theorem dX1_firstState_0 : decode cX1_firstState 0 = .ok (.iconst 0, 1) := by decide +kernel
theorem dX1_firstState_1 : decode cX1_firstState 1 = .ok (.istore_n 1, 1) := by decide +kernel
theorem dX1_firstState_2 : decode cX1_firstState 2 = .ok (.iconst 0, 1) := by decide +kernel
theorem dX1_firstState_3 : decode cX1_firstState 3 = .ok (.istore_n 2, 1) := by decide +kernel
theorem dX1_firstState_4 : decode cX1_firstState 4 = .ok (.iload_n 2, 1) := by decide +kernel
theorem dX1_firstState_5 : decode cX1_firstState 5 = .ok (.iconst 4, 1) := by decide +kernel
theorem dX1_firstState_6 : decode cX1_firstState 6 = .ok (.if_icmp .ge 19, 3) := by decide +kernel
theorem dX1_firstState_9 : decode cX1_firstState 9 = .ok (.iload_n 1, 1) := by decide +kernel
theorem dX1_firstState_10 : decode cX1_firstState 10 = .ok (.aload_n 0, 1) := by decide +kernel
theorem dX1_firstState_11 : decode cX1_firstState 11 = .ok (.iload_n 2, 1) := by decide +kernel
theorem dX1_firstState_12 : decode cX1_firstState 12 = .ok (.invokevirtual 45, 3) := by decide +kernel
theorem dX1_firstState_15 : decode cX1_firstState 15 = .ok (.iload_n 2, 1) := by decide +kernel
theorem dX1_firstState_16 : decode cX1_firstState 16 = .ok (.ishl, 1) := by decide +kernel
theorem dX1_firstState_17 : decode cX1_firstState 17 = .ok (.ior, 1) := by decide +kernel
theorem dX1_firstState_18 : decode cX1_firstState 18 = .ok (.istore_n 1, 1) := by decide +kernel
theorem dX1_firstState_19 : decode cX1_firstState 19 = .ok (.iinc 2 1, 3) := by decide +kernel
theorem dX1_firstState_22 : decode cX1_firstState 22 = .ok (.goto (-18), 3) := by decide +kernel
theorem dX1_firstState_25 : decode cX1_firstState 25 = .ok (.iload_n 1, 1) := by decide +kernel
theorem dX1_firstState_26 : decode cX1_firstState 26 = .ok (.ireturn, 1) := by decide +kernel
theorem dX1_setGate_0 : decode cX1_setGate 0 = .ok (.aload_n 0, 1) := by decide +kernel
theorem dX1_setGate_1 : decode cX1_setGate 1 = .ok (.getfield 20, 3) := by decide +kernel
theorem dX1_setGate_4 : decode cX1_setGate 4 = .ok (.iload_n 1, 1) := by decide +kernel
theorem dX1_setGate_5 : decode cX1_setGate 5 = .ok (.iload_n 2, 1) := by decide +kernel
theorem dX1_setGate_6 : decode cX1_setGate 6 = .ok (.bipush 8, 2) := by decide +kernel
theorem dX1_setGate_8 : decode cX1_setGate 8 = .ok (.ishl, 1) := by decide +kernel
theorem dX1_setGate_9 : decode cX1_setGate 9 = .ok (.iload_n 3, 1) := by decide +kernel
theorem dX1_setGate_10 : decode cX1_setGate 10 = .ok (.iconst 4, 1) := by decide +kernel
theorem dX1_setGate_11 : decode cX1_setGate 11 = .ok (.ishl, 1) := by decide +kernel
theorem dX1_setGate_12 : decode cX1_setGate 12 = .ok (.ior, 1) := by decide +kernel
theorem dX1_setGate_13 : decode cX1_setGate 13 = .ok (.iload 4, 2) := by decide +kernel
theorem dX1_setGate_15 : decode cX1_setGate 15 = .ok (.ior, 1) := by decide +kernel
theorem dX1_setGate_16 : decode cX1_setGate 16 = .ok (.invokevirtual 37, 3) := by decide +kernel
theorem dX1_setGate_19 : decode cX1_setGate 19 = .ok (.iload_n 1, 1) := by decide +kernel
theorem dX1_setGate_20 : decode cX1_setGate 20 = .ok (.aload_n 0, 1) := by decide +kernel
theorem dX1_setGate_21 : decode cX1_setGate 21 = .ok (.getfield 26, 3) := by decide +kernel
theorem dX1_setGate_24 : decode cX1_setGate 24 = .ok (.if_icmp .ne 22, 3) := by decide +kernel
theorem dX1_setGate_27 : decode cX1_setGate 27 = .ok (.aload_n 0, 1) := by decide +kernel
theorem dX1_setGate_28 : decode cX1_setGate 28 = .ok (.getfield 26, 3) := by decide +kernel
theorem dX1_setGate_31 : decode cX1_setGate 31 = .ok (.bipush 8, 2) := by decide +kernel
theorem dX1_setGate_33 : decode cX1_setGate 33 = .ok (.if_icmp .ge 13, 3) := by decide +kernel
theorem dX1_setGate_36 : decode cX1_setGate 36 = .ok (.aload_n 0, 1) := by decide +kernel
theorem dX1_setGate_37 : decode cX1_setGate 37 = .ok (.dup, 1) := by decide +kernel
theorem dX1_setGate_38 : decode cX1_setGate 38 = .ok (.getfield 26, 3) := by decide +kernel
theorem dX1_setGate_41 : decode cX1_setGate 41 = .ok (.iconst 1, 1) := by decide +kernel
theorem dX1_setGate_42 : decode cX1_setGate 42 = .ok (.iadd, 1) := by decide +kernel
theorem dX1_setGate_43 : decode cX1_setGate 43 = .ok (.putfield 26, 3) := by decide +kernel
theorem dX1_setGate_46 : decode cX1_setGate 46 = .ok (.return_, 1) := by decide +kernel
theorem dX1_dropLastGate_0 : decode cX1_dropLastGate 0 = .ok (.aload_n 0, 1) := by decide +kernel
theorem dX1_dropLastGate_1 : decode cX1_dropLastGate 1 = .ok (.getfield 26, 3) := by decide +kernel
theorem dX1_dropLastGate_4 : decode cX1_dropLastGate 4 = .ok (.ifCond .le 13, 3) := by decide +kernel
theorem dX1_dropLastGate_7 : decode cX1_dropLastGate 7 = .ok (.aload_n 0, 1) := by decide +kernel
theorem dX1_dropLastGate_8 : decode cX1_dropLastGate 8 = .ok (.dup, 1) := by decide +kernel
theorem dX1_dropLastGate_9 : decode cX1_dropLastGate 9 = .ok (.getfield 26, 3) := by decide +kernel
theorem dX1_dropLastGate_12 : decode cX1_dropLastGate 12 = .ok (.iconst 1, 1) := by decide +kernel
theorem dX1_dropLastGate_13 : decode cX1_dropLastGate 13 = .ok (.isub, 1) := by decide +kernel
theorem dX1_dropLastGate_14 : decode cX1_dropLastGate 14 = .ok (.putfield 26, 3) := by decide +kernel
theorem dX1_dropLastGate_17 : decode cX1_dropLastGate 17 = .ok (.return_, 1) := by decide +kernel
theorem dX1_kindOf_0 : decode cX1_kindOf 0 = .ok (.aload_n 0, 1) := by decide +kernel
theorem dX1_kindOf_1 : decode cX1_kindOf 1 = .ok (.getfield 20, 3) := by decide +kernel
theorem dX1_kindOf_4 : decode cX1_kindOf 4 = .ok (.iload_n 1, 1) := by decide +kernel
theorem dX1_kindOf_5 : decode cX1_kindOf 5 = .ok (.invokevirtual 41, 3) := by decide +kernel
theorem dX1_kindOf_8 : decode cX1_kindOf 8 = .ok (.bipush 8, 2) := by decide +kernel
theorem dX1_kindOf_10 : decode cX1_kindOf 10 = .ok (.ishr, 1) := by decide +kernel
theorem dX1_kindOf_11 : decode cX1_kindOf 11 = .ok (.ireturn, 1) := by decide +kernel
theorem dX1_firstWire_0 : decode cX1_firstWire 0 = .ok (.aload_n 0, 1) := by decide +kernel
theorem dX1_firstWire_1 : decode cX1_firstWire 1 = .ok (.getfield 20, 3) := by decide +kernel
theorem dX1_firstWire_4 : decode cX1_firstWire 4 = .ok (.iload_n 1, 1) := by decide +kernel
theorem dX1_firstWire_5 : decode cX1_firstWire 5 = .ok (.invokevirtual 41, 3) := by decide +kernel
theorem dX1_firstWire_8 : decode cX1_firstWire 8 = .ok (.iconst 4, 1) := by decide +kernel
theorem dX1_firstWire_9 : decode cX1_firstWire 9 = .ok (.ishr, 1) := by decide +kernel
theorem dX1_firstWire_10 : decode cX1_firstWire 10 = .ok (.bipush 15, 2) := by decide +kernel
theorem dX1_firstWire_12 : decode cX1_firstWire 12 = .ok (.iand, 1) := by decide +kernel
theorem dX1_firstWire_13 : decode cX1_firstWire 13 = .ok (.ireturn, 1) := by decide +kernel
theorem dX1_secondWire_0 : decode cX1_secondWire 0 = .ok (.aload_n 0, 1) := by decide +kernel
theorem dX1_secondWire_1 : decode cX1_secondWire 1 = .ok (.getfield 20, 3) := by decide +kernel
theorem dX1_secondWire_4 : decode cX1_secondWire 4 = .ok (.iload_n 1, 1) := by decide +kernel
theorem dX1_secondWire_5 : decode cX1_secondWire 5 = .ok (.invokevirtual 41, 3) := by decide +kernel
theorem dX1_secondWire_8 : decode cX1_secondWire 8 = .ok (.bipush 15, 2) := by decide +kernel
theorem dX1_secondWire_10 : decode cX1_secondWire 10 = .ok (.iand, 1) := by decide +kernel
theorem dX1_secondWire_11 : decode cX1_secondWire 11 = .ok (.ireturn, 1) := by decide +kernel
theorem dX1_wireBits_0 : decode cX1_wireBits 0 = .ok (.ldc 48, 2) := by decide +kernel
theorem dX1_wireBits_2 : decode cX1_wireBits 2 = .ok (.iload_n 1, 1) := by decide +kernel
theorem dX1_wireBits_3 : decode cX1_wireBits 3 = .ok (.iconst 2, 1) := by decide +kernel
theorem dX1_wireBits_4 : decode cX1_wireBits 4 = .ok (.ishl, 1) := by decide +kernel
theorem dX1_wireBits_5 : decode cX1_wireBits 5 = .ok (.ior, 1) := by decide +kernel
theorem dX1_wireBits_6 : decode cX1_wireBits 6 = .ok (.iload_n 2, 1) := by decide +kernel
theorem dX1_wireBits_7 : decode cX1_wireBits 7 = .ok (.ior, 1) := by decide +kernel
theorem dX1_wireBits_8 : decode cX1_wireBits 8 = .ok (.istore_n 3, 1) := by decide +kernel
theorem dX1_wireBits_9 : decode cX1_wireBits 9 = .ok (.iconst 0, 1) := by decide +kernel
theorem dX1_wireBits_10 : decode cX1_wireBits 10 = .ok (.istore 4, 2) := by decide +kernel
theorem dX1_wireBits_12 : decode cX1_wireBits 12 = .ok (.iload 4, 2) := by decide +kernel
theorem dX1_wireBits_14 : decode cX1_wireBits 14 = .ok (.aload_n 0, 1) := by decide +kernel
theorem dX1_wireBits_15 : decode cX1_wireBits 15 = .ok (.getfield 26, 3) := by decide +kernel
theorem dX1_wireBits_18 : decode cX1_wireBits 18 = .ok (.if_icmp .ge 62, 3) := by decide +kernel
theorem dX1_wireBits_21 : decode cX1_wireBits 21 = .ok (.iload 4, 2) := by decide +kernel
theorem dX1_wireBits_23 : decode cX1_wireBits 23 = .ok (.bipush 8, 2) := by decide +kernel
theorem dX1_wireBits_25 : decode cX1_wireBits 25 = .ok (.if_icmp .ge 55, 3) := by decide +kernel
theorem dX1_wireBits_28 : decode cX1_wireBits 28 = .ok (.iload_n 3, 1) := by decide +kernel
theorem dX1_wireBits_29 : decode cX1_wireBits 29 = .ok (.aload_n 0, 1) := by decide +kernel
theorem dX1_wireBits_30 : decode cX1_wireBits 30 = .ok (.iload 4, 2) := by decide +kernel
theorem dX1_wireBits_32 : decode cX1_wireBits 32 = .ok (.invokevirtual 49, 3) := by decide +kernel
theorem dX1_wireBits_35 : decode cX1_wireBits 35 = .ok (.invokestatic 52, 3) := by decide +kernel
theorem dX1_wireBits_38 : decode cX1_wireBits 38 = .ok (.istore 5, 2) := by decide +kernel
theorem dX1_wireBits_40 : decode cX1_wireBits 40 = .ok (.iload_n 3, 1) := by decide +kernel
theorem dX1_wireBits_41 : decode cX1_wireBits 41 = .ok (.aload_n 0, 1) := by decide +kernel
theorem dX1_wireBits_42 : decode cX1_wireBits 42 = .ok (.iload 4, 2) := by decide +kernel
theorem dX1_wireBits_44 : decode cX1_wireBits 44 = .ok (.invokevirtual 56, 3) := by decide +kernel
theorem dX1_wireBits_47 : decode cX1_wireBits 47 = .ok (.invokestatic 52, 3) := by decide +kernel
theorem dX1_wireBits_50 : decode cX1_wireBits 50 = .ok (.istore 6, 2) := by decide +kernel
theorem dX1_wireBits_52 : decode cX1_wireBits 52 = .ok (.iload_n 3, 1) := by decide +kernel
theorem dX1_wireBits_53 : decode cX1_wireBits 53 = .ok (.aload_n 0, 1) := by decide +kernel
theorem dX1_wireBits_54 : decode cX1_wireBits 54 = .ok (.iload 4, 2) := by decide +kernel
theorem dX1_wireBits_56 : decode cX1_wireBits 56 = .ok (.invokevirtual 59, 3) := by decide +kernel
theorem dX1_wireBits_59 : decode cX1_wireBits 59 = .ok (.iload 5, 2) := by decide +kernel
theorem dX1_wireBits_61 : decode cX1_wireBits 61 = .ok (.iload 6, 2) := by decide +kernel
theorem dX1_wireBits_63 : decode cX1_wireBits 63 = .ok (.invokestatic 62, 3) := by decide +kernel
theorem dX1_wireBits_66 : decode cX1_wireBits 66 = .ok (.bipush 6, 2) := by decide +kernel
theorem dX1_wireBits_68 : decode cX1_wireBits 68 = .ok (.iload 4, 2) := by decide +kernel
theorem dX1_wireBits_70 : decode cX1_wireBits 70 = .ok (.iadd, 1) := by decide +kernel
theorem dX1_wireBits_71 : decode cX1_wireBits 71 = .ok (.ishl, 1) := by decide +kernel
theorem dX1_wireBits_72 : decode cX1_wireBits 72 = .ok (.ior, 1) := by decide +kernel
theorem dX1_wireBits_73 : decode cX1_wireBits 73 = .ok (.istore_n 3, 1) := by decide +kernel
theorem dX1_wireBits_74 : decode cX1_wireBits 74 = .ok (.iinc 4 1, 3) := by decide +kernel
theorem dX1_wireBits_77 : decode cX1_wireBits 77 = .ok (.goto (-65), 3) := by decide +kernel
theorem dX1_wireBits_80 : decode cX1_wireBits 80 = .ok (.iload_n 3, 1) := by decide +kernel
theorem dX1_wireBits_81 : decode cX1_wireBits 81 = .ok (.ireturn, 1) := by decide +kernel
theorem dX1_gateBit_0 : decode cX1_gateBit 0 = .ok (.iload_n 0, 1) := by decide +kernel
theorem dX1_gateBit_1 : decode cX1_gateBit 1 = .ok (.tableswitch 55 0 4 #[35, 39, 43, 47, 53], 35) := by decide +kernel
theorem dX1_gateBit_36 : decode cX1_gateBit 36 = .ok (.iload_n 1, 1) := by decide +kernel
theorem dX1_gateBit_37 : decode cX1_gateBit 37 = .ok (.iload_n 2, 1) := by decide +kernel
theorem dX1_gateBit_38 : decode cX1_gateBit 38 = .ok (.iand, 1) := by decide +kernel
theorem dX1_gateBit_39 : decode cX1_gateBit 39 = .ok (.ireturn, 1) := by decide +kernel
theorem dX1_gateBit_40 : decode cX1_gateBit 40 = .ok (.iload_n 1, 1) := by decide +kernel
theorem dX1_gateBit_41 : decode cX1_gateBit 41 = .ok (.iload_n 2, 1) := by decide +kernel
theorem dX1_gateBit_42 : decode cX1_gateBit 42 = .ok (.ior, 1) := by decide +kernel
theorem dX1_gateBit_43 : decode cX1_gateBit 43 = .ok (.ireturn, 1) := by decide +kernel
theorem dX1_gateBit_44 : decode cX1_gateBit 44 = .ok (.iload_n 1, 1) := by decide +kernel
theorem dX1_gateBit_45 : decode cX1_gateBit 45 = .ok (.iload_n 2, 1) := by decide +kernel
theorem dX1_gateBit_46 : decode cX1_gateBit 46 = .ok (.ixor, 1) := by decide +kernel
theorem dX1_gateBit_47 : decode cX1_gateBit 47 = .ok (.ireturn, 1) := by decide +kernel
theorem dX1_gateBit_48 : decode cX1_gateBit 48 = .ok (.iconst 1, 1) := by decide +kernel
theorem dX1_gateBit_49 : decode cX1_gateBit 49 = .ok (.iload_n 1, 1) := by decide +kernel
theorem dX1_gateBit_50 : decode cX1_gateBit 50 = .ok (.iload_n 2, 1) := by decide +kernel
theorem dX1_gateBit_51 : decode cX1_gateBit 51 = .ok (.iand, 1) := by decide +kernel
theorem dX1_gateBit_52 : decode cX1_gateBit 52 = .ok (.isub, 1) := by decide +kernel
theorem dX1_gateBit_53 : decode cX1_gateBit 53 = .ok (.ireturn, 1) := by decide +kernel
theorem dX1_gateBit_54 : decode cX1_gateBit 54 = .ok (.iload_n 1, 1) := by decide +kernel
theorem dX1_gateBit_55 : decode cX1_gateBit 55 = .ok (.ireturn, 1) := by decide +kernel
theorem dX1_gateBit_56 : decode cX1_gateBit 56 = .ok (.iconst 1, 1) := by decide +kernel
theorem dX1_gateBit_57 : decode cX1_gateBit 57 = .ok (.iload_n 1, 1) := by decide +kernel
theorem dX1_gateBit_58 : decode cX1_gateBit 58 = .ok (.isub, 1) := by decide +kernel
theorem dX1_gateBit_59 : decode cX1_gateBit 59 = .ok (.ireturn, 1) := by decide +kernel
theorem dX1_stateAfter_0 : decode cX1_stateAfter 0 = .ok (.iconst 0, 1) := by decide +kernel
theorem dX1_stateAfter_1 : decode cX1_stateAfter 1 = .ok (.istore_n 2, 1) := by decide +kernel
theorem dX1_stateAfter_2 : decode cX1_stateAfter 2 = .ok (.iconst 0, 1) := by decide +kernel
theorem dX1_stateAfter_3 : decode cX1_stateAfter 3 = .ok (.istore_n 3, 1) := by decide +kernel
theorem dX1_stateAfter_4 : decode cX1_stateAfter 4 = .ok (.iload_n 3, 1) := by decide +kernel
theorem dX1_stateAfter_5 : decode cX1_stateAfter 5 = .ok (.iconst 4, 1) := by decide +kernel
theorem dX1_stateAfter_6 : decode cX1_stateAfter 6 = .ok (.if_icmp .ge 23, 3) := by decide +kernel
theorem dX1_stateAfter_9 : decode cX1_stateAfter 9 = .ok (.iload_n 2, 1) := by decide +kernel
theorem dX1_stateAfter_10 : decode cX1_stateAfter 10 = .ok (.iload_n 1, 1) := by decide +kernel
theorem dX1_stateAfter_11 : decode cX1_stateAfter 11 = .ok (.aload_n 0, 1) := by decide +kernel
theorem dX1_stateAfter_12 : decode cX1_stateAfter 12 = .ok (.iload_n 3, 1) := by decide +kernel
theorem dX1_stateAfter_13 : decode cX1_stateAfter 13 = .ok (.invokevirtual 66, 3) := by decide +kernel
theorem dX1_stateAfter_16 : decode cX1_stateAfter 16 = .ok (.invokestatic 52, 3) := by decide +kernel
theorem dX1_stateAfter_19 : decode cX1_stateAfter 19 = .ok (.iload_n 3, 1) := by decide +kernel
theorem dX1_stateAfter_20 : decode cX1_stateAfter 20 = .ok (.ishl, 1) := by decide +kernel
theorem dX1_stateAfter_21 : decode cX1_stateAfter 21 = .ok (.ior, 1) := by decide +kernel
theorem dX1_stateAfter_22 : decode cX1_stateAfter 22 = .ok (.istore_n 2, 1) := by decide +kernel
theorem dX1_stateAfter_23 : decode cX1_stateAfter 23 = .ok (.iinc 3 1, 3) := by decide +kernel
theorem dX1_stateAfter_26 : decode cX1_stateAfter 26 = .ok (.goto (-22), 3) := by decide +kernel
theorem dX1_stateAfter_29 : decode cX1_stateAfter 29 = .ok (.iload_n 2, 1) := by decide +kernel
theorem dX1_stateAfter_30 : decode cX1_stateAfter 30 = .ok (.ireturn, 1) := by decide +kernel
theorem dX1_gatesBehindOutput_0 : decode cX1_gatesBehindOutput 0 = .ok (.aload_n 0, 1) := by decide +kernel
theorem dX1_gatesBehindOutput_1 : decode cX1_gatesBehindOutput 1 = .ok (.aload_n 0, 1) := by decide +kernel
theorem dX1_gatesBehindOutput_2 : decode cX1_gatesBehindOutput 2 = .ok (.getfield 30, 3) := by decide +kernel
theorem dX1_gatesBehindOutput_5 : decode cX1_gatesBehindOutput 5 = .ok (.invokevirtual 69, 3) := by decide +kernel
theorem dX1_gatesBehindOutput_8 : decode cX1_gatesBehindOutput 8 = .ok (.istore_n 1, 1) := by decide +kernel
theorem dX1_gatesBehindOutput_9 : decode cX1_gatesBehindOutput 9 = .ok (.bipush 7, 2) := by decide +kernel
theorem dX1_gatesBehindOutput_11 : decode cX1_gatesBehindOutput 11 = .ok (.istore_n 2, 1) := by decide +kernel
theorem dX1_gatesBehindOutput_12 : decode cX1_gatesBehindOutput 12 = .ok (.iload_n 2, 1) := by decide +kernel
theorem dX1_gatesBehindOutput_13 : decode cX1_gatesBehindOutput 13 = .ok (.ifCond .lt 51, 3) := by decide +kernel
theorem dX1_gatesBehindOutput_16 : decode cX1_gatesBehindOutput 16 = .ok (.iload_n 1, 1) := by decide +kernel
theorem dX1_gatesBehindOutput_17 : decode cX1_gatesBehindOutput 17 = .ok (.iload_n 2, 1) := by decide +kernel
theorem dX1_gatesBehindOutput_18 : decode cX1_gatesBehindOutput 18 = .ok (.invokestatic 52, 3) := by decide +kernel
theorem dX1_gatesBehindOutput_21 : decode cX1_gatesBehindOutput 21 = .ok (.iconst 1, 1) := by decide +kernel
theorem dX1_gatesBehindOutput_22 : decode cX1_gatesBehindOutput 22 = .ok (.if_icmp .ne 36, 3) := by decide +kernel
theorem dX1_gatesBehindOutput_25 : decode cX1_gatesBehindOutput 25 = .ok (.iload_n 1, 1) := by decide +kernel
theorem dX1_gatesBehindOutput_26 : decode cX1_gatesBehindOutput 26 = .ok (.aload_n 0, 1) := by decide +kernel
theorem dX1_gatesBehindOutput_27 : decode cX1_gatesBehindOutput 27 = .ok (.aload_n 0, 1) := by decide +kernel
theorem dX1_gatesBehindOutput_28 : decode cX1_gatesBehindOutput 28 = .ok (.iload_n 2, 1) := by decide +kernel
theorem dX1_gatesBehindOutput_29 : decode cX1_gatesBehindOutput 29 = .ok (.invokevirtual 49, 3) := by decide +kernel
theorem dX1_gatesBehindOutput_32 : decode cX1_gatesBehindOutput 32 = .ok (.invokevirtual 69, 3) := by decide +kernel
theorem dX1_gatesBehindOutput_35 : decode cX1_gatesBehindOutput 35 = .ok (.ior, 1) := by decide +kernel
theorem dX1_gatesBehindOutput_36 : decode cX1_gatesBehindOutput 36 = .ok (.istore_n 1, 1) := by decide +kernel
theorem dX1_gatesBehindOutput_37 : decode cX1_gatesBehindOutput 37 = .ok (.aload_n 0, 1) := by decide +kernel
theorem dX1_gatesBehindOutput_38 : decode cX1_gatesBehindOutput 38 = .ok (.iload_n 2, 1) := by decide +kernel
theorem dX1_gatesBehindOutput_39 : decode cX1_gatesBehindOutput 39 = .ok (.invokevirtual 59, 3) := by decide +kernel
theorem dX1_gatesBehindOutput_42 : decode cX1_gatesBehindOutput 42 = .ok (.iconst 4, 1) := by decide +kernel
theorem dX1_gatesBehindOutput_43 : decode cX1_gatesBehindOutput 43 = .ok (.if_icmp .ge 15, 3) := by decide +kernel
theorem dX1_gatesBehindOutput_46 : decode cX1_gatesBehindOutput 46 = .ok (.iload_n 1, 1) := by decide +kernel
theorem dX1_gatesBehindOutput_47 : decode cX1_gatesBehindOutput 47 = .ok (.aload_n 0, 1) := by decide +kernel
theorem dX1_gatesBehindOutput_48 : decode cX1_gatesBehindOutput 48 = .ok (.aload_n 0, 1) := by decide +kernel
theorem dX1_gatesBehindOutput_49 : decode cX1_gatesBehindOutput 49 = .ok (.iload_n 2, 1) := by decide +kernel
theorem dX1_gatesBehindOutput_50 : decode cX1_gatesBehindOutput 50 = .ok (.invokevirtual 56, 3) := by decide +kernel
theorem dX1_gatesBehindOutput_53 : decode cX1_gatesBehindOutput 53 = .ok (.invokevirtual 69, 3) := by decide +kernel
theorem dX1_gatesBehindOutput_56 : decode cX1_gatesBehindOutput 56 = .ok (.ior, 1) := by decide +kernel
theorem dX1_gatesBehindOutput_57 : decode cX1_gatesBehindOutput 57 = .ok (.istore_n 1, 1) := by decide +kernel
theorem dX1_gatesBehindOutput_58 : decode cX1_gatesBehindOutput 58 = .ok (.iinc 2 (-1), 3) := by decide +kernel
theorem dX1_gatesBehindOutput_61 : decode cX1_gatesBehindOutput 61 = .ok (.goto (-49), 3) := by decide +kernel
theorem dX1_gatesBehindOutput_64 : decode cX1_gatesBehindOutput 64 = .ok (.iload_n 1, 1) := by decide +kernel
theorem dX1_gatesBehindOutput_65 : decode cX1_gatesBehindOutput 65 = .ok (.ireturn, 1) := by decide +kernel
theorem dX1_gateOnWire_0 : decode cX1_gateOnWire 0 = .ok (.iload_n 1, 1) := by decide +kernel
theorem dX1_gateOnWire_1 : decode cX1_gateOnWire 1 = .ok (.bipush 6, 2) := by decide +kernel
theorem dX1_gateOnWire_3 : decode cX1_gateOnWire 3 = .ok (.isub, 1) := by decide +kernel
theorem dX1_gateOnWire_4 : decode cX1_gateOnWire 4 = .ok (.istore_n 2, 1) := by decide +kernel
theorem dX1_gateOnWire_5 : decode cX1_gateOnWire 5 = .ok (.iload_n 2, 1) := by decide +kernel
theorem dX1_gateOnWire_6 : decode cX1_gateOnWire 6 = .ok (.iconst 0, 1) := by decide +kernel
theorem dX1_gateOnWire_7 : decode cX1_gateOnWire 7 = .ok (.aload_n 0, 1) := by decide +kernel
theorem dX1_gateOnWire_8 : decode cX1_gateOnWire 8 = .ok (.getfield 26, 3) := by decide +kernel
theorem dX1_gateOnWire_11 : decode cX1_gateOnWire 11 = .ok (.iconst 1, 1) := by decide +kernel
theorem dX1_gateOnWire_12 : decode cX1_gateOnWire 12 = .ok (.isub, 1) := by decide +kernel
theorem dX1_gateOnWire_13 : decode cX1_gateOnWire 13 = .ok (.invokestatic 72, 3) := by decide +kernel
theorem dX1_gateOnWire_16 : decode cX1_gateOnWire 16 = .ok (.ifCond .eq 9, 3) := by decide +kernel
theorem dX1_gateOnWire_19 : decode cX1_gateOnWire 19 = .ok (.iconst 1, 1) := by decide +kernel
theorem dX1_gateOnWire_20 : decode cX1_gateOnWire 20 = .ok (.iload_n 2, 1) := by decide +kernel
theorem dX1_gateOnWire_21 : decode cX1_gateOnWire 21 = .ok (.ishl, 1) := by decide +kernel
theorem dX1_gateOnWire_22 : decode cX1_gateOnWire 22 = .ok (.goto 4, 3) := by decide +kernel
theorem dX1_gateOnWire_25 : decode cX1_gateOnWire 25 = .ok (.iconst 0, 1) := by decide +kernel
theorem dX1_gateOnWire_26 : decode cX1_gateOnWire 26 = .ok (.ireturn, 1) := by decide +kernel
theorem dX1_takeFrom_0 : decode cX1_takeFrom 0 = .ok (.iconst 0, 1) := by decide +kernel
theorem dX1_takeFrom_1 : decode cX1_takeFrom 1 = .ok (.istore_n 2, 1) := by decide +kernel
theorem dX1_takeFrom_2 : decode cX1_takeFrom 2 = .ok (.iload_n 2, 1) := by decide +kernel
theorem dX1_takeFrom_3 : decode cX1_takeFrom 3 = .ok (.bipush 14, 2) := by decide +kernel
theorem dX1_takeFrom_5 : decode cX1_takeFrom 5 = .ok (.if_icmp .ge 19, 3) := by decide +kernel
theorem dX1_takeFrom_8 : decode cX1_takeFrom 8 = .ok (.aload_n 0, 1) := by decide +kernel
theorem dX1_takeFrom_9 : decode cX1_takeFrom 9 = .ok (.iload_n 2, 1) := by decide +kernel
theorem dX1_takeFrom_10 : decode cX1_takeFrom 10 = .ok (.aload_n 1, 1) := by decide +kernel
theorem dX1_takeFrom_11 : decode cX1_takeFrom 11 = .ok (.iload_n 2, 1) := by decide +kernel
theorem dX1_takeFrom_12 : decode cX1_takeFrom 12 = .ok (.invokevirtual 76, 3) := by decide +kernel
theorem dX1_takeFrom_15 : decode cX1_takeFrom 15 = .ok (.invokevirtual 79, 3) := by decide +kernel
theorem dX1_takeFrom_18 : decode cX1_takeFrom 18 = .ok (.iinc 2 1, 3) := by decide +kernel
theorem dX1_takeFrom_21 : decode cX1_takeFrom 21 = .ok (.goto (-19), 3) := by decide +kernel
theorem dX1_takeFrom_24 : decode cX1_takeFrom 24 = .ok (.return_, 1) := by decide +kernel
theorem dX1_savedCell_0 : decode cX1_savedCell 0 = .ok (.iload_n 1, 1) := by decide +kernel
theorem dX1_savedCell_1 : decode cX1_savedCell 1 = .ok (.ifCond .ne 8, 3) := by decide +kernel
theorem dX1_savedCell_4 : decode cX1_savedCell 4 = .ok (.aload_n 0, 1) := by decide +kernel
theorem dX1_savedCell_5 : decode cX1_savedCell 5 = .ok (.getfield 26, 3) := by decide +kernel
theorem dX1_savedCell_8 : decode cX1_savedCell 8 = .ok (.ireturn, 1) := by decide +kernel
theorem dX1_savedCell_9 : decode cX1_savedCell 9 = .ok (.iload_n 1, 1) := by decide +kernel
theorem dX1_savedCell_10 : decode cX1_savedCell 10 = .ok (.iconst 1, 1) := by decide +kernel
theorem dX1_savedCell_11 : decode cX1_savedCell 11 = .ok (.if_icmp .ne 8, 3) := by decide +kernel
theorem dX1_savedCell_14 : decode cX1_savedCell 14 = .ok (.aload_n 0, 1) := by decide +kernel
theorem dX1_savedCell_15 : decode cX1_savedCell 15 = .ok (.getfield 30, 3) := by decide +kernel
theorem dX1_savedCell_18 : decode cX1_savedCell 18 = .ok (.ireturn, 1) := by decide +kernel
theorem dX1_savedCell_19 : decode cX1_savedCell 19 = .ok (.iload_n 1, 1) := by decide +kernel
theorem dX1_savedCell_20 : decode cX1_savedCell 20 = .ok (.bipush 6, 2) := by decide +kernel
theorem dX1_savedCell_22 : decode cX1_savedCell 22 = .ok (.if_icmp .ge 16, 3) := by decide +kernel
theorem dX1_savedCell_25 : decode cX1_savedCell 25 = .ok (.aload_n 0, 1) := by decide +kernel
theorem dX1_savedCell_26 : decode cX1_savedCell 26 = .ok (.getfield 14, 3) := by decide +kernel
theorem dX1_savedCell_29 : decode cX1_savedCell 29 = .ok (.iload_n 1, 1) := by decide +kernel
theorem dX1_savedCell_30 : decode cX1_savedCell 30 = .ok (.iconst 2, 1) := by decide +kernel
theorem dX1_savedCell_31 : decode cX1_savedCell 31 = .ok (.isub, 1) := by decide +kernel
theorem dX1_savedCell_32 : decode cX1_savedCell 32 = .ok (.invokevirtual 41, 3) := by decide +kernel
theorem dX1_savedCell_35 : decode cX1_savedCell 35 = .ok (.goto 15, 3) := by decide +kernel
theorem dX1_savedCell_38 : decode cX1_savedCell 38 = .ok (.aload_n 0, 1) := by decide +kernel
theorem dX1_savedCell_39 : decode cX1_savedCell 39 = .ok (.getfield 20, 3) := by decide +kernel
theorem dX1_savedCell_42 : decode cX1_savedCell 42 = .ok (.iload_n 1, 1) := by decide +kernel
theorem dX1_savedCell_43 : decode cX1_savedCell 43 = .ok (.iconst 2, 1) := by decide +kernel
theorem dX1_savedCell_44 : decode cX1_savedCell 44 = .ok (.isub, 1) := by decide +kernel
theorem dX1_savedCell_45 : decode cX1_savedCell 45 = .ok (.iconst 4, 1) := by decide +kernel
theorem dX1_savedCell_46 : decode cX1_savedCell 46 = .ok (.isub, 1) := by decide +kernel
theorem dX1_savedCell_47 : decode cX1_savedCell 47 = .ok (.invokevirtual 41, 3) := by decide +kernel
theorem dX1_savedCell_50 : decode cX1_savedCell 50 = .ok (.ireturn, 1) := by decide +kernel
theorem dX1_setSavedCell_0 : decode cX1_setSavedCell 0 = .ok (.iload_n 1, 1) := by decide +kernel
theorem dX1_setSavedCell_1 : decode cX1_setSavedCell 1 = .ok (.ifCond .ne 11, 3) := by decide +kernel
theorem dX1_setSavedCell_4 : decode cX1_setSavedCell 4 = .ok (.aload_n 0, 1) := by decide +kernel
theorem dX1_setSavedCell_5 : decode cX1_setSavedCell 5 = .ok (.iload_n 2, 1) := by decide +kernel
theorem dX1_setSavedCell_6 : decode cX1_setSavedCell 6 = .ok (.putfield 26, 3) := by decide +kernel
theorem dX1_setSavedCell_9 : decode cX1_setSavedCell 9 = .ok (.goto 49, 3) := by decide +kernel
theorem dX1_setSavedCell_12 : decode cX1_setSavedCell 12 = .ok (.iload_n 1, 1) := by decide +kernel
theorem dX1_setSavedCell_13 : decode cX1_setSavedCell 13 = .ok (.iconst 1, 1) := by decide +kernel
theorem dX1_setSavedCell_14 : decode cX1_setSavedCell 14 = .ok (.if_icmp .ne 11, 3) := by decide +kernel
theorem dX1_setSavedCell_17 : decode cX1_setSavedCell 17 = .ok (.aload_n 0, 1) := by decide +kernel
theorem dX1_setSavedCell_18 : decode cX1_setSavedCell 18 = .ok (.iload_n 2, 1) := by decide +kernel
theorem dX1_setSavedCell_19 : decode cX1_setSavedCell 19 = .ok (.putfield 30, 3) := by decide +kernel
theorem dX1_setSavedCell_22 : decode cX1_setSavedCell 22 = .ok (.goto 36, 3) := by decide +kernel
theorem dX1_setSavedCell_25 : decode cX1_setSavedCell 25 = .ok (.iload_n 1, 1) := by decide +kernel
theorem dX1_setSavedCell_26 : decode cX1_setSavedCell 26 = .ok (.bipush 6, 2) := by decide +kernel
theorem dX1_setSavedCell_28 : decode cX1_setSavedCell 28 = .ok (.if_icmp .ge 17, 3) := by decide +kernel
theorem dX1_setSavedCell_31 : decode cX1_setSavedCell 31 = .ok (.aload_n 0, 1) := by decide +kernel
theorem dX1_setSavedCell_32 : decode cX1_setSavedCell 32 = .ok (.getfield 14, 3) := by decide +kernel
theorem dX1_setSavedCell_35 : decode cX1_setSavedCell 35 = .ok (.iload_n 1, 1) := by decide +kernel
theorem dX1_setSavedCell_36 : decode cX1_setSavedCell 36 = .ok (.iconst 2, 1) := by decide +kernel
theorem dX1_setSavedCell_37 : decode cX1_setSavedCell 37 = .ok (.isub, 1) := by decide +kernel
theorem dX1_setSavedCell_38 : decode cX1_setSavedCell 38 = .ok (.iload_n 2, 1) := by decide +kernel
theorem dX1_setSavedCell_39 : decode cX1_setSavedCell 39 = .ok (.invokevirtual 37, 3) := by decide +kernel
theorem dX1_setSavedCell_42 : decode cX1_setSavedCell 42 = .ok (.goto 16, 3) := by decide +kernel
theorem dX1_setSavedCell_45 : decode cX1_setSavedCell 45 = .ok (.aload_n 0, 1) := by decide +kernel
theorem dX1_setSavedCell_46 : decode cX1_setSavedCell 46 = .ok (.getfield 20, 3) := by decide +kernel
theorem dX1_setSavedCell_49 : decode cX1_setSavedCell 49 = .ok (.iload_n 1, 1) := by decide +kernel
theorem dX1_setSavedCell_50 : decode cX1_setSavedCell 50 = .ok (.iconst 2, 1) := by decide +kernel
theorem dX1_setSavedCell_51 : decode cX1_setSavedCell 51 = .ok (.isub, 1) := by decide +kernel
theorem dX1_setSavedCell_52 : decode cX1_setSavedCell 52 = .ok (.iconst 4, 1) := by decide +kernel
theorem dX1_setSavedCell_53 : decode cX1_setSavedCell 53 = .ok (.isub, 1) := by decide +kernel
theorem dX1_setSavedCell_54 : decode cX1_setSavedCell 54 = .ok (.iload_n 2, 1) := by decide +kernel
theorem dX1_setSavedCell_55 : decode cX1_setSavedCell 55 = .ok (.invokevirtual 37, 3) := by decide +kernel
theorem dX1_setSavedCell_58 : decode cX1_setSavedCell 58 = .ok (.return_, 1) := by decide +kernel
theorem dX2_init_0 : decode cX2_init 0 = .ok (.aload_n 0, 1) := by decide +kernel
theorem dX2_init_1 : decode cX2_init 1 = .ok (.invokespecial 3, 3) := by decide +kernel
theorem dX2_init_4 : decode cX2_init 4 = .ok (.aload_n 0, 1) := by decide +kernel
theorem dX2_init_5 : decode cX2_init 5 = .ok (.new 9, 3) := by decide +kernel
theorem dX2_init_8 : decode cX2_init 8 = .ok (.dup, 1) := by decide +kernel
theorem dX2_init_9 : decode cX2_init 9 = .ok (.bipush 112, 2) := by decide +kernel
theorem dX2_init_11 : decode cX2_init 11 = .ok (.invokespecial 13, 3) := by decide +kernel
theorem dX2_init_14 : decode cX2_init 14 = .ok (.putfield 16, 3) := by decide +kernel
theorem dX2_init_17 : decode cX2_init 17 = .ok (.return_, 1) := by decide +kernel
theorem dX2_size_0 : decode cX2_size 0 = .ok (.aload_n 0, 1) := by decide +kernel
theorem dX2_size_1 : decode cX2_size 1 = .ok (.getfield 20, 3) := by decide +kernel
theorem dX2_size_4 : decode cX2_size 4 = .ok (.ireturn, 1) := by decide +kernel
theorem dX2_keep_0 : decode cX2_keep 0 = .ok (.aload_n 0, 1) := by decide +kernel
theorem dX2_keep_1 : decode cX2_keep 1 = .ok (.getfield 20, 3) := by decide +kernel
theorem dX2_keep_4 : decode cX2_keep 4 = .ok (.iconst 4, 1) := by decide +kernel
theorem dX2_keep_5 : decode cX2_keep 5 = .ok (.if_icmp .lt 7, 3) := by decide +kernel
theorem dX2_keep_8 : decode cX2_keep 8 = .ok (.aload_n 0, 1) := by decide +kernel
theorem dX2_keep_9 : decode cX2_keep 9 = .ok (.invokevirtual 24, 3) := by decide +kernel
theorem dX2_keep_12 : decode cX2_keep 12 = .ok (.aload_n 0, 1) := by decide +kernel
theorem dX2_keep_13 : decode cX2_keep 13 = .ok (.getfield 20, 3) := by decide +kernel
theorem dX2_keep_16 : decode cX2_keep 16 = .ok (.bipush 28, 2) := by decide +kernel
theorem dX2_keep_18 : decode cX2_keep 18 = .ok (.imul, 1) := by decide +kernel
theorem dX2_keep_19 : decode cX2_keep 19 = .ok (.istore_n 3, 1) := by decide +kernel
theorem dX2_keep_20 : decode cX2_keep 20 = .ok (.iconst 0, 1) := by decide +kernel
theorem dX2_keep_21 : decode cX2_keep 21 = .ok (.istore 4, 2) := by decide +kernel
theorem dX2_keep_23 : decode cX2_keep 23 = .ok (.iload 4, 2) := by decide +kernel
theorem dX2_keep_25 : decode cX2_keep 25 = .ok (.bipush 14, 2) := by decide +kernel
theorem dX2_keep_27 : decode cX2_keep 27 = .ok (.if_icmp .ge 46, 3) := by decide +kernel
theorem dX2_keep_30 : decode cX2_keep 30 = .ok (.aload_n 0, 1) := by decide +kernel
theorem dX2_keep_31 : decode cX2_keep 31 = .ok (.getfield 16, 3) := by decide +kernel
theorem dX2_keep_34 : decode cX2_keep 34 = .ok (.iload_n 3, 1) := by decide +kernel
theorem dX2_keep_35 : decode cX2_keep 35 = .ok (.iload 4, 2) := by decide +kernel
theorem dX2_keep_37 : decode cX2_keep 37 = .ok (.iadd, 1) := by decide +kernel
theorem dX2_keep_38 : decode cX2_keep 38 = .ok (.aload_n 1, 1) := by decide +kernel
theorem dX2_keep_39 : decode cX2_keep 39 = .ok (.iload 4, 2) := by decide +kernel
theorem dX2_keep_41 : decode cX2_keep 41 = .ok (.invokevirtual 27, 3) := by decide +kernel
theorem dX2_keep_44 : decode cX2_keep 44 = .ok (.invokevirtual 31, 3) := by decide +kernel
theorem dX2_keep_47 : decode cX2_keep 47 = .ok (.aload_n 0, 1) := by decide +kernel
theorem dX2_keep_48 : decode cX2_keep 48 = .ok (.getfield 16, 3) := by decide +kernel
theorem dX2_keep_51 : decode cX2_keep 51 = .ok (.iload_n 3, 1) := by decide +kernel
theorem dX2_keep_52 : decode cX2_keep 52 = .ok (.bipush 14, 2) := by decide +kernel
theorem dX2_keep_54 : decode cX2_keep 54 = .ok (.iadd, 1) := by decide +kernel
theorem dX2_keep_55 : decode cX2_keep 55 = .ok (.iload 4, 2) := by decide +kernel
theorem dX2_keep_57 : decode cX2_keep 57 = .ok (.iadd, 1) := by decide +kernel
theorem dX2_keep_58 : decode cX2_keep 58 = .ok (.aload_n 2, 1) := by decide +kernel
theorem dX2_keep_59 : decode cX2_keep 59 = .ok (.iload 4, 2) := by decide +kernel
theorem dX2_keep_61 : decode cX2_keep 61 = .ok (.invokevirtual 27, 3) := by decide +kernel
theorem dX2_keep_64 : decode cX2_keep 64 = .ok (.invokevirtual 31, 3) := by decide +kernel
theorem dX2_keep_67 : decode cX2_keep 67 = .ok (.iinc 4 1, 3) := by decide +kernel
theorem dX2_keep_70 : decode cX2_keep 70 = .ok (.goto (-47), 3) := by decide +kernel
theorem dX2_keep_73 : decode cX2_keep 73 = .ok (.aload_n 0, 1) := by decide +kernel
theorem dX2_keep_74 : decode cX2_keep 74 = .ok (.dup, 1) := by decide +kernel
theorem dX2_keep_75 : decode cX2_keep 75 = .ok (.getfield 20, 3) := by decide +kernel
theorem dX2_keep_78 : decode cX2_keep 78 = .ok (.iconst 1, 1) := by decide +kernel
theorem dX2_keep_79 : decode cX2_keep 79 = .ok (.iadd, 1) := by decide +kernel
theorem dX2_keep_80 : decode cX2_keep 80 = .ok (.putfield 20, 3) := by decide +kernel
theorem dX2_keep_83 : decode cX2_keep 83 = .ok (.return_, 1) := by decide +kernel
theorem dX2_dropOldest_0 : decode cX2_dropOldest 0 = .ok (.iconst 0, 1) := by decide +kernel
theorem dX2_dropOldest_1 : decode cX2_dropOldest 1 = .ok (.istore_n 1, 1) := by decide +kernel
theorem dX2_dropOldest_2 : decode cX2_dropOldest 2 = .ok (.iload_n 1, 1) := by decide +kernel
theorem dX2_dropOldest_3 : decode cX2_dropOldest 3 = .ok (.bipush 84, 2) := by decide +kernel
theorem dX2_dropOldest_5 : decode cX2_dropOldest 5 = .ok (.if_icmp .ge 28, 3) := by decide +kernel
theorem dX2_dropOldest_8 : decode cX2_dropOldest 8 = .ok (.aload_n 0, 1) := by decide +kernel
theorem dX2_dropOldest_9 : decode cX2_dropOldest 9 = .ok (.getfield 16, 3) := by decide +kernel
theorem dX2_dropOldest_12 : decode cX2_dropOldest 12 = .ok (.iload_n 1, 1) := by decide +kernel
theorem dX2_dropOldest_13 : decode cX2_dropOldest 13 = .ok (.aload_n 0, 1) := by decide +kernel
theorem dX2_dropOldest_14 : decode cX2_dropOldest 14 = .ok (.getfield 16, 3) := by decide +kernel
theorem dX2_dropOldest_17 : decode cX2_dropOldest 17 = .ok (.iload_n 1, 1) := by decide +kernel
theorem dX2_dropOldest_18 : decode cX2_dropOldest 18 = .ok (.bipush 28, 2) := by decide +kernel
theorem dX2_dropOldest_20 : decode cX2_dropOldest 20 = .ok (.iadd, 1) := by decide +kernel
theorem dX2_dropOldest_21 : decode cX2_dropOldest 21 = .ok (.invokevirtual 35, 3) := by decide +kernel
theorem dX2_dropOldest_24 : decode cX2_dropOldest 24 = .ok (.invokevirtual 31, 3) := by decide +kernel
theorem dX2_dropOldest_27 : decode cX2_dropOldest 27 = .ok (.iinc 1 1, 3) := by decide +kernel
theorem dX2_dropOldest_30 : decode cX2_dropOldest 30 = .ok (.goto (-28), 3) := by decide +kernel
theorem dX2_dropOldest_33 : decode cX2_dropOldest 33 = .ok (.aload_n 0, 1) := by decide +kernel
theorem dX2_dropOldest_34 : decode cX2_dropOldest 34 = .ok (.dup, 1) := by decide +kernel
theorem dX2_dropOldest_35 : decode cX2_dropOldest 35 = .ok (.getfield 20, 3) := by decide +kernel
theorem dX2_dropOldest_38 : decode cX2_dropOldest 38 = .ok (.iconst 1, 1) := by decide +kernel
theorem dX2_dropOldest_39 : decode cX2_dropOldest 39 = .ok (.isub, 1) := by decide +kernel
theorem dX2_dropOldest_40 : decode cX2_dropOldest 40 = .ok (.putfield 20, 3) := by decide +kernel
theorem dX2_dropOldest_43 : decode cX2_dropOldest 43 = .ok (.return_, 1) := by decide +kernel
theorem dX2_giveBack_0 : decode cX2_giveBack 0 = .ok (.aload_n 0, 1) := by decide +kernel
theorem dX2_giveBack_1 : decode cX2_giveBack 1 = .ok (.getfield 20, 3) := by decide +kernel
theorem dX2_giveBack_4 : decode cX2_giveBack 4 = .ok (.ifCond .ne 4, 3) := by decide +kernel
theorem dX2_giveBack_7 : decode cX2_giveBack 7 = .ok (.return_, 1) := by decide +kernel
theorem dX2_giveBack_8 : decode cX2_giveBack 8 = .ok (.aload_n 0, 1) := by decide +kernel
theorem dX2_giveBack_9 : decode cX2_giveBack 9 = .ok (.dup, 1) := by decide +kernel
theorem dX2_giveBack_10 : decode cX2_giveBack 10 = .ok (.getfield 20, 3) := by decide +kernel
theorem dX2_giveBack_13 : decode cX2_giveBack 13 = .ok (.iconst 1, 1) := by decide +kernel
theorem dX2_giveBack_14 : decode cX2_giveBack 14 = .ok (.isub, 1) := by decide +kernel
theorem dX2_giveBack_15 : decode cX2_giveBack 15 = .ok (.putfield 20, 3) := by decide +kernel
theorem dX2_giveBack_18 : decode cX2_giveBack 18 = .ok (.aload_n 0, 1) := by decide +kernel
theorem dX2_giveBack_19 : decode cX2_giveBack 19 = .ok (.getfield 20, 3) := by decide +kernel
theorem dX2_giveBack_22 : decode cX2_giveBack 22 = .ok (.bipush 28, 2) := by decide +kernel
theorem dX2_giveBack_24 : decode cX2_giveBack 24 = .ok (.imul, 1) := by decide +kernel
theorem dX2_giveBack_25 : decode cX2_giveBack 25 = .ok (.istore_n 3, 1) := by decide +kernel
theorem dX2_giveBack_26 : decode cX2_giveBack 26 = .ok (.iconst 0, 1) := by decide +kernel
theorem dX2_giveBack_27 : decode cX2_giveBack 27 = .ok (.istore 4, 2) := by decide +kernel
theorem dX2_giveBack_29 : decode cX2_giveBack 29 = .ok (.iload 4, 2) := by decide +kernel
theorem dX2_giveBack_31 : decode cX2_giveBack 31 = .ok (.bipush 14, 2) := by decide +kernel
theorem dX2_giveBack_33 : decode cX2_giveBack 33 = .ok (.if_icmp .ge 46, 3) := by decide +kernel
theorem dX2_giveBack_36 : decode cX2_giveBack 36 = .ok (.aload_n 1, 1) := by decide +kernel
theorem dX2_giveBack_37 : decode cX2_giveBack 37 = .ok (.iload 4, 2) := by decide +kernel
theorem dX2_giveBack_39 : decode cX2_giveBack 39 = .ok (.aload_n 0, 1) := by decide +kernel
theorem dX2_giveBack_40 : decode cX2_giveBack 40 = .ok (.getfield 16, 3) := by decide +kernel
theorem dX2_giveBack_43 : decode cX2_giveBack 43 = .ok (.iload_n 3, 1) := by decide +kernel
theorem dX2_giveBack_44 : decode cX2_giveBack 44 = .ok (.iload 4, 2) := by decide +kernel
theorem dX2_giveBack_46 : decode cX2_giveBack 46 = .ok (.iadd, 1) := by decide +kernel
theorem dX2_giveBack_47 : decode cX2_giveBack 47 = .ok (.invokevirtual 35, 3) := by decide +kernel
theorem dX2_giveBack_50 : decode cX2_giveBack 50 = .ok (.invokevirtual 38, 3) := by decide +kernel
theorem dX2_giveBack_53 : decode cX2_giveBack 53 = .ok (.aload_n 2, 1) := by decide +kernel
theorem dX2_giveBack_54 : decode cX2_giveBack 54 = .ok (.iload 4, 2) := by decide +kernel
theorem dX2_giveBack_56 : decode cX2_giveBack 56 = .ok (.aload_n 0, 1) := by decide +kernel
theorem dX2_giveBack_57 : decode cX2_giveBack 57 = .ok (.getfield 16, 3) := by decide +kernel
theorem dX2_giveBack_60 : decode cX2_giveBack 60 = .ok (.iload_n 3, 1) := by decide +kernel
theorem dX2_giveBack_61 : decode cX2_giveBack 61 = .ok (.bipush 14, 2) := by decide +kernel
theorem dX2_giveBack_63 : decode cX2_giveBack 63 = .ok (.iadd, 1) := by decide +kernel
theorem dX2_giveBack_64 : decode cX2_giveBack 64 = .ok (.iload 4, 2) := by decide +kernel
theorem dX2_giveBack_66 : decode cX2_giveBack 66 = .ok (.iadd, 1) := by decide +kernel
theorem dX2_giveBack_67 : decode cX2_giveBack 67 = .ok (.invokevirtual 35, 3) := by decide +kernel
theorem dX2_giveBack_70 : decode cX2_giveBack 70 = .ok (.invokevirtual 38, 3) := by decide +kernel
theorem dX2_giveBack_73 : decode cX2_giveBack 73 = .ok (.iinc 4 1, 3) := by decide +kernel
theorem dX2_giveBack_76 : decode cX2_giveBack 76 = .ok (.goto (-47), 3) := by decide +kernel
theorem dX2_giveBack_79 : decode cX2_giveBack 79 = .ok (.return_, 1) := by decide +kernel
theorem dX3_init_0 : decode cX3_init 0 = .ok (.aload_n 0, 1) := by decide +kernel
theorem dX3_init_1 : decode cX3_init 1 = .ok (.invokespecial 3, 3) := by decide +kernel
theorem dX3_init_4 : decode cX3_init 4 = .ok (.aload_n 0, 1) := by decide +kernel
theorem dX3_init_5 : decode cX3_init 5 = .ok (.new 9, 3) := by decide +kernel
theorem dX3_init_8 : decode cX3_init 8 = .ok (.dup, 1) := by decide +kernel
theorem dX3_init_9 : decode cX3_init 9 = .ok (.sipush 8192, 3) := by decide +kernel
theorem dX3_init_12 : decode cX3_init 12 = .ok (.invokespecial 13, 3) := by decide +kernel
theorem dX3_init_15 : decode cX3_init 15 = .ok (.putfield 16, 3) := by decide +kernel
theorem dX3_init_18 : decode cX3_init 18 = .ok (.aload_n 0, 1) := by decide +kernel
theorem dX3_init_19 : decode cX3_init 19 = .ok (.new 9, 3) := by decide +kernel
theorem dX3_init_22 : decode cX3_init 22 = .ok (.dup, 1) := by decide +kernel
theorem dX3_init_23 : decode cX3_init 23 = .ok (.sipush 8192, 3) := by decide +kernel
theorem dX3_init_26 : decode cX3_init 26 = .ok (.invokespecial 13, 3) := by decide +kernel
theorem dX3_init_29 : decode cX3_init 29 = .ok (.putfield 20, 3) := by decide +kernel
theorem dX3_init_32 : decode cX3_init 32 = .ok (.return_, 1) := by decide +kernel
theorem dX3_isLateBy_0 : decode cX3_isLateBy 0 = .ok (.aload_n 0, 1) := by decide +kernel
theorem dX3_isLateBy_1 : decode cX3_isLateBy 1 = .ok (.iconst 0, 1) := by decide +kernel
theorem dX3_isLateBy_2 : decode cX3_isLateBy 2 = .ok (.putfield 23, 3) := by decide +kernel
theorem dX3_isLateBy_5 : decode cX3_isLateBy 5 = .ok (.aload_n 0, 1) := by decide +kernel
theorem dX3_isLateBy_6 : decode cX3_isLateBy 6 = .ok (.iconst 1, 1) := by decide +kernel
theorem dX3_isLateBy_7 : decode cX3_isLateBy 7 = .ok (.aload_n 2, 1) := by decide +kernel
theorem dX3_isLateBy_8 : decode cX3_isLateBy 8 = .ok (.invokevirtual 27, 3) := by decide +kernel
theorem dX3_isLateBy_11 : decode cX3_isLateBy 11 = .ok (.aload_n 3, 1) := by decide +kernel
theorem dX3_isLateBy_12 : decode cX3_isLateBy 12 = .ok (.invokevirtual 27, 3) := by decide +kernel
theorem dX3_isLateBy_15 : decode cX3_isLateBy 15 = .ok (.invokevirtual 33, 3) := by decide +kernel
theorem dX3_isLateBy_18 : decode cX3_isLateBy 18 = .ok (.iconst 1, 1) := by decide +kernel
theorem dX3_isLateBy_19 : decode cX3_isLateBy 19 = .ok (.istore 4, 2) := by decide +kernel
theorem dX3_isLateBy_21 : decode cX3_isLateBy 21 = .ok (.iconst 0, 1) := by decide +kernel
theorem dX3_isLateBy_22 : decode cX3_isLateBy 22 = .ok (.istore 5, 2) := by decide +kernel
theorem dX3_isLateBy_24 : decode cX3_isLateBy 24 = .ok (.iload 5, 2) := by decide +kernel
theorem dX3_isLateBy_26 : decode cX3_isLateBy 26 = .ok (.aload_n 0, 1) := by decide +kernel
theorem dX3_isLateBy_27 : decode cX3_isLateBy 27 = .ok (.getfield 23, 3) := by decide +kernel
theorem dX3_isLateBy_30 : decode cX3_isLateBy 30 = .ok (.if_icmp .ge 62, 3) := by decide +kernel
theorem dX3_isLateBy_33 : decode cX3_isLateBy 33 = .ok (.iload 5, 2) := by decide +kernel
theorem dX3_isLateBy_35 : decode cX3_isLateBy 35 = .ok (.sipush 8192, 3) := by decide +kernel
theorem dX3_isLateBy_38 : decode cX3_isLateBy 38 = .ok (.if_icmp .ge 54, 3) := by decide +kernel
theorem dX3_isLateBy_41 : decode cX3_isLateBy 41 = .ok (.iload 4, 2) := by decide +kernel
theorem dX3_isLateBy_43 : decode cX3_isLateBy 43 = .ok (.ifCond .eq 49, 3) := by decide +kernel
theorem dX3_isLateBy_46 : decode cX3_isLateBy 46 = .ok (.iconst 0, 1) := by decide +kernel
theorem dX3_isLateBy_47 : decode cX3_isLateBy 47 = .ok (.istore 6, 2) := by decide +kernel
theorem dX3_isLateBy_49 : decode cX3_isLateBy 49 = .ok (.iload 6, 2) := by decide +kernel
theorem dX3_isLateBy_51 : decode cX3_isLateBy 51 = .ok (.iconst 4, 1) := by decide +kernel
theorem dX3_isLateBy_52 : decode cX3_isLateBy 52 = .ok (.if_icmp .ge 34, 3) := by decide +kernel
theorem dX3_isLateBy_55 : decode cX3_isLateBy 55 = .ok (.iload 4, 2) := by decide +kernel
theorem dX3_isLateBy_57 : decode cX3_isLateBy 57 = .ok (.ifCond .eq 29, 3) := by decide +kernel
theorem dX3_isLateBy_60 : decode cX3_isLateBy 60 = .ok (.aload_n 0, 1) := by decide +kernel
theorem dX3_isLateBy_61 : decode cX3_isLateBy 61 = .ok (.aload_n 0, 1) := by decide +kernel
theorem dX3_isLateBy_62 : decode cX3_isLateBy 62 = .ok (.getfield 20, 3) := by decide +kernel
theorem dX3_isLateBy_65 : decode cX3_isLateBy 65 = .ok (.iload 5, 2) := by decide +kernel
theorem dX3_isLateBy_67 : decode cX3_isLateBy 67 = .ok (.invokevirtual 37, 3) := by decide +kernel
theorem dX3_isLateBy_70 : decode cX3_isLateBy 70 = .ok (.iload 6, 2) := by decide +kernel
theorem dX3_isLateBy_72 : decode cX3_isLateBy 72 = .ok (.iload_n 1, 1) := by decide +kernel
theorem dX3_isLateBy_73 : decode cX3_isLateBy 73 = .ok (.aload_n 2, 1) := by decide +kernel
theorem dX3_isLateBy_74 : decode cX3_isLateBy 74 = .ok (.aload_n 3, 1) := by decide +kernel
theorem dX3_isLateBy_75 : decode cX3_isLateBy 75 = .ok (.invokevirtual 41, 3) := by decide +kernel
theorem dX3_isLateBy_78 : decode cX3_isLateBy 78 = .ok (.istore 4, 2) := by decide +kernel
theorem dX3_isLateBy_80 : decode cX3_isLateBy 80 = .ok (.iinc 6 1, 3) := by decide +kernel
theorem dX3_isLateBy_83 : decode cX3_isLateBy 83 = .ok (.goto (-34), 3) := by decide +kernel
theorem dX3_isLateBy_86 : decode cX3_isLateBy 86 = .ok (.iinc 5 1, 3) := by decide +kernel
theorem dX3_isLateBy_89 : decode cX3_isLateBy 89 = .ok (.goto (-65), 3) := by decide +kernel
theorem dX3_isLateBy_92 : decode cX3_isLateBy 92 = .ok (.aload_n 0, 1) := by decide +kernel
theorem dX3_isLateBy_93 : decode cX3_isLateBy 93 = .ok (.invokevirtual 45, 3) := by decide +kernel
theorem dX3_isLateBy_96 : decode cX3_isLateBy 96 = .ok (.iload 4, 2) := by decide +kernel
theorem dX3_isLateBy_98 : decode cX3_isLateBy 98 = .ok (.ireturn, 1) := by decide +kernel
theorem dX3_step_0 : decode cX3_step 0 = .ok (.iload_n 1, 1) := by decide +kernel
theorem dX3_step_1 : decode cX3_step 1 = .ok (.bipush 16, 2) := by decide +kernel
theorem dX3_step_3 : decode cX3_step 3 = .ok (.idiv, 1) := by decide +kernel
theorem dX3_step_4 : decode cX3_step 4 = .ok (.bipush 16, 2) := by decide +kernel
theorem dX3_step_6 : decode cX3_step 6 = .ok (.irem, 1) := by decide +kernel
theorem dX3_step_7 : decode cX3_step 7 = .ok (.istore 6, 2) := by decide +kernel
theorem dX3_step_9 : decode cX3_step 9 = .ok (.iload_n 1, 1) := by decide +kernel
theorem dX3_step_10 : decode cX3_step 10 = .ok (.bipush 16, 2) := by decide +kernel
theorem dX3_step_12 : decode cX3_step 12 = .ok (.irem, 1) := by decide +kernel
theorem dX3_step_13 : decode cX3_step 13 = .ok (.istore 7, 2) := by decide +kernel
theorem dX3_step_15 : decode cX3_step 15 = .ok (.iload_n 1, 1) := by decide +kernel
theorem dX3_step_16 : decode cX3_step 16 = .ok (.sipush 256, 3) := by decide +kernel
theorem dX3_step_19 : decode cX3_step 19 = .ok (.idiv, 1) := by decide +kernel
theorem dX3_step_20 : decode cX3_step 20 = .ok (.iconst 2, 1) := by decide +kernel
theorem dX3_step_21 : decode cX3_step 21 = .ok (.imul, 1) := by decide +kernel
theorem dX3_step_22 : decode cX3_step 22 = .ok (.aload 4, 2) := by decide +kernel
theorem dX3_step_24 : decode cX3_step 24 = .ok (.iload 6, 2) := by decide +kernel
theorem dX3_step_26 : decode cX3_step 26 = .ok (.invokevirtual 48, 3) := by decide +kernel
theorem dX3_step_29 : decode cX3_step 29 = .ok (.iload_n 2, 1) := by decide +kernel
theorem dX3_step_30 : decode cX3_step 30 = .ok (.invokestatic 51, 3) := by decide +kernel
theorem dX3_step_33 : decode cX3_step 33 = .ok (.iadd, 1) := by decide +kernel
theorem dX3_step_34 : decode cX3_step 34 = .ok (.istore 8, 2) := by decide +kernel
theorem dX3_step_36 : decode cX3_step 36 = .ok (.iconst 2, 1) := by decide +kernel
theorem dX3_step_37 : decode cX3_step 37 = .ok (.iload_n 3, 1) := by decide +kernel
theorem dX3_step_38 : decode cX3_step 38 = .ok (.ishl, 1) := by decide +kernel
theorem dX3_step_39 : decode cX3_step 39 = .ok (.istore 9, 2) := by decide +kernel
theorem dX3_step_41 : decode cX3_step 41 = .ok (.iload 8, 2) := by decide +kernel
theorem dX3_step_43 : decode cX3_step 43 = .ok (.iload 9, 2) := by decide +kernel
theorem dX3_step_45 : decode cX3_step 45 = .ok (.if_icmp .lt 41, 3) := by decide +kernel
theorem dX3_step_48 : decode cX3_step 48 = .ok (.iload 8, 2) := by decide +kernel
theorem dX3_step_50 : decode cX3_step 50 = .ok (.iload_n 3, 1) := by decide +kernel
theorem dX3_step_51 : decode cX3_step 51 = .ok (.invokestatic 51, 3) := by decide +kernel
theorem dX3_step_54 : decode cX3_step 54 = .ok (.aload 5, 2) := by decide +kernel
theorem dX3_step_56 : decode cX3_step 56 = .ok (.iload 7, 2) := by decide +kernel
theorem dX3_step_58 : decode cX3_step 58 = .ok (.invokevirtual 48, 3) := by decide +kernel
theorem dX3_step_61 : decode cX3_step 61 = .ok (.iload_n 2, 1) := by decide +kernel
theorem dX3_step_62 : decode cX3_step 62 = .ok (.invokestatic 51, 3) := by decide +kernel
theorem dX3_step_65 : decode cX3_step 65 = .ok (.if_icmp .eq 5, 3) := by decide +kernel
theorem dX3_step_68 : decode cX3_step 68 = .ok (.iconst 0, 1) := by decide +kernel
theorem dX3_step_69 : decode cX3_step 69 = .ok (.ireturn, 1) := by decide +kernel
theorem dX3_step_70 : decode cX3_step 70 = .ok (.iload 8, 2) := by decide +kernel
theorem dX3_step_72 : decode cX3_step 72 = .ok (.iload 9, 2) := by decide +kernel
theorem dX3_step_74 : decode cX3_step 74 = .ok (.iconst 2, 1) := by decide +kernel
theorem dX3_step_75 : decode cX3_step 75 = .ok (.idiv, 1) := by decide +kernel
theorem dX3_step_76 : decode cX3_step 76 = .ok (.iconst 1, 1) := by decide +kernel
theorem dX3_step_77 : decode cX3_step 77 = .ok (.isub, 1) := by decide +kernel
theorem dX3_step_78 : decode cX3_step 78 = .ok (.iand, 1) := by decide +kernel
theorem dX3_step_79 : decode cX3_step 79 = .ok (.iload 9, 2) := by decide +kernel
theorem dX3_step_81 : decode cX3_step 81 = .ok (.iconst 2, 1) := by decide +kernel
theorem dX3_step_82 : decode cX3_step 82 = .ok (.idiv, 1) := by decide +kernel
theorem dX3_step_83 : decode cX3_step 83 = .ok (.ior, 1) := by decide +kernel
theorem dX3_step_84 : decode cX3_step 84 = .ok (.istore 8, 2) := by decide +kernel
theorem dX3_step_86 : decode cX3_step 86 = .ok (.aload_n 0, 1) := by decide +kernel
theorem dX3_step_87 : decode cX3_step 87 = .ok (.iload 8, 2) := by decide +kernel
theorem dX3_step_89 : decode cX3_step 89 = .ok (.aload 4, 2) := by decide +kernel
theorem dX3_step_91 : decode cX3_step 91 = .ok (.iload 6, 2) := by decide +kernel
theorem dX3_step_93 : decode cX3_step 93 = .ok (.iload_n 2, 1) := by decide +kernel
theorem dX3_step_94 : decode cX3_step 94 = .ok (.invokevirtual 55, 3) := by decide +kernel
theorem dX3_step_97 : decode cX3_step 97 = .ok (.aload 5, 2) := by decide +kernel
theorem dX3_step_99 : decode cX3_step 99 = .ok (.iload 7, 2) := by decide +kernel
theorem dX3_step_101 : decode cX3_step 101 = .ok (.iload_n 2, 1) := by decide +kernel
theorem dX3_step_102 : decode cX3_step 102 = .ok (.invokevirtual 55, 3) := by decide +kernel
theorem dX3_step_105 : decode cX3_step 105 = .ok (.invokevirtual 33, 3) := by decide +kernel
theorem dX3_step_108 : decode cX3_step 108 = .ok (.iconst 1, 1) := by decide +kernel
theorem dX3_step_109 : decode cX3_step 109 = .ok (.ireturn, 1) := by decide +kernel
theorem dX3_meet_0 : decode cX3_meet 0 = .ok (.iload_n 1, 1) := by decide +kernel
theorem dX3_meet_1 : decode cX3_meet 1 = .ok (.bipush 16, 2) := by decide +kernel
theorem dX3_meet_3 : decode cX3_meet 3 = .ok (.imul, 1) := by decide +kernel
theorem dX3_meet_4 : decode cX3_meet 4 = .ok (.iload_n 2, 1) := by decide +kernel
theorem dX3_meet_5 : decode cX3_meet 5 = .ok (.iadd, 1) := by decide +kernel
theorem dX3_meet_6 : decode cX3_meet 6 = .ok (.bipush 16, 2) := by decide +kernel
theorem dX3_meet_8 : decode cX3_meet 8 = .ok (.imul, 1) := by decide +kernel
theorem dX3_meet_9 : decode cX3_meet 9 = .ok (.iload_n 3, 1) := by decide +kernel
theorem dX3_meet_10 : decode cX3_meet 10 = .ok (.iadd, 1) := by decide +kernel
theorem dX3_meet_11 : decode cX3_meet 11 = .ok (.istore 4, 2) := by decide +kernel
theorem dX3_meet_13 : decode cX3_meet 13 = .ok (.aload_n 0, 1) := by decide +kernel
theorem dX3_meet_14 : decode cX3_meet 14 = .ok (.getfield 16, 3) := by decide +kernel
theorem dX3_meet_17 : decode cX3_meet 17 = .ok (.iload 4, 2) := by decide +kernel
theorem dX3_meet_19 : decode cX3_meet 19 = .ok (.invokevirtual 37, 3) := by decide +kernel
theorem dX3_meet_22 : decode cX3_meet 22 = .ok (.ifCond .ne 46, 3) := by decide +kernel
theorem dX3_meet_25 : decode cX3_meet 25 = .ok (.aload_n 0, 1) := by decide +kernel
theorem dX3_meet_26 : decode cX3_meet 26 = .ok (.getfield 23, 3) := by decide +kernel
theorem dX3_meet_29 : decode cX3_meet 29 = .ok (.sipush 8192, 3) := by decide +kernel
theorem dX3_meet_32 : decode cX3_meet 32 = .ok (.if_icmp .ge 36, 3) := by decide +kernel
theorem dX3_meet_35 : decode cX3_meet 35 = .ok (.aload_n 0, 1) := by decide +kernel
theorem dX3_meet_36 : decode cX3_meet 36 = .ok (.getfield 16, 3) := by decide +kernel
theorem dX3_meet_39 : decode cX3_meet 39 = .ok (.iload 4, 2) := by decide +kernel
theorem dX3_meet_41 : decode cX3_meet 41 = .ok (.iconst 1, 1) := by decide +kernel
theorem dX3_meet_42 : decode cX3_meet 42 = .ok (.invokevirtual 58, 3) := by decide +kernel
theorem dX3_meet_45 : decode cX3_meet 45 = .ok (.aload_n 0, 1) := by decide +kernel
theorem dX3_meet_46 : decode cX3_meet 46 = .ok (.getfield 20, 3) := by decide +kernel
theorem dX3_meet_49 : decode cX3_meet 49 = .ok (.aload_n 0, 1) := by decide +kernel
theorem dX3_meet_50 : decode cX3_meet 50 = .ok (.getfield 23, 3) := by decide +kernel
theorem dX3_meet_53 : decode cX3_meet 53 = .ok (.iload 4, 2) := by decide +kernel
theorem dX3_meet_55 : decode cX3_meet 55 = .ok (.invokevirtual 58, 3) := by decide +kernel
theorem dX3_meet_58 : decode cX3_meet 58 = .ok (.aload_n 0, 1) := by decide +kernel
theorem dX3_meet_59 : decode cX3_meet 59 = .ok (.dup, 1) := by decide +kernel
theorem dX3_meet_60 : decode cX3_meet 60 = .ok (.getfield 23, 3) := by decide +kernel
theorem dX3_meet_63 : decode cX3_meet 63 = .ok (.iconst 1, 1) := by decide +kernel
theorem dX3_meet_64 : decode cX3_meet 64 = .ok (.iadd, 1) := by decide +kernel
theorem dX3_meet_65 : decode cX3_meet 65 = .ok (.putfield 23, 3) := by decide +kernel
theorem dX3_meet_68 : decode cX3_meet 68 = .ok (.return_, 1) := by decide +kernel
theorem dX3_forgetAll_0 : decode cX3_forgetAll 0 = .ok (.iconst 0, 1) := by decide +kernel
theorem dX3_forgetAll_1 : decode cX3_forgetAll 1 = .ok (.istore_n 1, 1) := by decide +kernel
theorem dX3_forgetAll_2 : decode cX3_forgetAll 2 = .ok (.iload_n 1, 1) := by decide +kernel
theorem dX3_forgetAll_3 : decode cX3_forgetAll 3 = .ok (.aload_n 0, 1) := by decide +kernel
theorem dX3_forgetAll_4 : decode cX3_forgetAll 4 = .ok (.getfield 23, 3) := by decide +kernel
theorem dX3_forgetAll_7 : decode cX3_forgetAll 7 = .ok (.if_icmp .ge 32, 3) := by decide +kernel
theorem dX3_forgetAll_10 : decode cX3_forgetAll 10 = .ok (.iload_n 1, 1) := by decide +kernel
theorem dX3_forgetAll_11 : decode cX3_forgetAll 11 = .ok (.sipush 8192, 3) := by decide +kernel
theorem dX3_forgetAll_14 : decode cX3_forgetAll 14 = .ok (.if_icmp .ge 25, 3) := by decide +kernel
theorem dX3_forgetAll_17 : decode cX3_forgetAll 17 = .ok (.aload_n 0, 1) := by decide +kernel
theorem dX3_forgetAll_18 : decode cX3_forgetAll 18 = .ok (.getfield 16, 3) := by decide +kernel
theorem dX3_forgetAll_21 : decode cX3_forgetAll 21 = .ok (.aload_n 0, 1) := by decide +kernel
theorem dX3_forgetAll_22 : decode cX3_forgetAll 22 = .ok (.getfield 20, 3) := by decide +kernel
theorem dX3_forgetAll_25 : decode cX3_forgetAll 25 = .ok (.iload_n 1, 1) := by decide +kernel
theorem dX3_forgetAll_26 : decode cX3_forgetAll 26 = .ok (.invokevirtual 37, 3) := by decide +kernel
theorem dX3_forgetAll_29 : decode cX3_forgetAll 29 = .ok (.iconst 0, 1) := by decide +kernel
theorem dX3_forgetAll_30 : decode cX3_forgetAll 30 = .ok (.invokevirtual 58, 3) := by decide +kernel
theorem dX3_forgetAll_33 : decode cX3_forgetAll 33 = .ok (.iinc 1 1, 3) := by decide +kernel
theorem dX3_forgetAll_36 : decode cX3_forgetAll 36 = .ok (.goto (-34), 3) := by decide +kernel
theorem dX3_forgetAll_39 : decode cX3_forgetAll 39 = .ok (.return_, 1) := by decide +kernel
theorem dX4_init_0 : decode cX4_init 0 = .ok (.aload_n 0, 1) := by decide +kernel
theorem dX4_init_1 : decode cX4_init 1 = .ok (.invokespecial 3, 3) := by decide +kernel
theorem dX4_init_4 : decode cX4_init 4 = .ok (.aload_n 0, 1) := by decide +kernel
theorem dX4_init_5 : decode cX4_init 5 = .ok (.new 9, 3) := by decide +kernel
theorem dX4_init_8 : decode cX4_init 8 = .ok (.dup, 1) := by decide +kernel
theorem dX4_init_9 : decode cX4_init 9 = .ok (.sipush 256, 3) := by decide +kernel
theorem dX4_init_12 : decode cX4_init 12 = .ok (.invokespecial 11, 3) := by decide +kernel
theorem dX4_init_15 : decode cX4_init 15 = .ok (.putfield 14, 3) := by decide +kernel
theorem dX4_init_18 : decode cX4_init 18 = .ok (.aload_n 0, 1) := by decide +kernel
theorem dX4_init_19 : decode cX4_init 19 = .ok (.new 9, 3) := by decide +kernel
theorem dX4_init_22 : decode cX4_init 22 = .ok (.dup, 1) := by decide +kernel
theorem dX4_init_23 : decode cX4_init 23 = .ok (.sipush 256, 3) := by decide +kernel
theorem dX4_init_26 : decode cX4_init 26 = .ok (.invokespecial 11, 3) := by decide +kernel
theorem dX4_init_29 : decode cX4_init 29 = .ok (.putfield 20, 3) := by decide +kernel
theorem dX4_init_32 : decode cX4_init 32 = .ok (.aload_n 0, 1) := by decide +kernel
theorem dX4_init_33 : decode cX4_init 33 = .ok (.new 9, 3) := by decide +kernel
theorem dX4_init_36 : decode cX4_init 36 = .ok (.dup, 1) := by decide +kernel
theorem dX4_init_37 : decode cX4_init 37 = .ok (.sipush 256, 3) := by decide +kernel
theorem dX4_init_40 : decode cX4_init 40 = .ok (.invokespecial 11, 3) := by decide +kernel
theorem dX4_init_43 : decode cX4_init 43 = .ok (.putfield 23, 3) := by decide +kernel
theorem dX4_init_46 : decode cX4_init 46 = .ok (.aload_n 0, 1) := by decide +kernel
theorem dX4_init_47 : decode cX4_init 47 = .ok (.new 9, 3) := by decide +kernel
theorem dX4_init_50 : decode cX4_init 50 = .ok (.dup, 1) := by decide +kernel
theorem dX4_init_51 : decode cX4_init 51 = .ok (.sipush 256, 3) := by decide +kernel
theorem dX4_init_54 : decode cX4_init 54 = .ok (.invokespecial 11, 3) := by decide +kernel
theorem dX4_init_57 : decode cX4_init 57 = .ok (.putfield 26, 3) := by decide +kernel
theorem dX4_init_60 : decode cX4_init 60 = .ok (.aload_n 0, 1) := by decide +kernel
theorem dX4_init_61 : decode cX4_init 61 = .ok (.new 9, 3) := by decide +kernel
theorem dX4_init_64 : decode cX4_init 64 = .ok (.dup, 1) := by decide +kernel
theorem dX4_init_65 : decode cX4_init 65 = .ok (.sipush 256, 3) := by decide +kernel
theorem dX4_init_68 : decode cX4_init 68 = .ok (.invokespecial 11, 3) := by decide +kernel
theorem dX4_init_71 : decode cX4_init 71 = .ok (.putfield 29, 3) := by decide +kernel
theorem dX4_init_74 : decode cX4_init 74 = .ok (.aload_n 0, 1) := by decide +kernel
theorem dX4_init_75 : decode cX4_init 75 = .ok (.new 9, 3) := by decide +kernel
theorem dX4_init_78 : decode cX4_init 78 = .ok (.dup, 1) := by decide +kernel
theorem dX4_init_79 : decode cX4_init 79 = .ok (.sipush 256, 3) := by decide +kernel
theorem dX4_init_82 : decode cX4_init 82 = .ok (.invokespecial 11, 3) := by decide +kernel
theorem dX4_init_85 : decode cX4_init 85 = .ok (.putfield 32, 3) := by decide +kernel
theorem dX4_init_88 : decode cX4_init 88 = .ok (.return_, 1) := by decide +kernel
theorem dX4_walkFromFirst_0 : decode cX4_walkFromFirst 0 = .ok (.aload_n 0, 1) := by decide +kernel
theorem dX4_walkFromFirst_1 : decode cX4_walkFromFirst 1 = .ok (.getfield 14, 3) := by decide +kernel
theorem dX4_walkFromFirst_4 : decode cX4_walkFromFirst 4 = .ok (.invokevirtual 35, 3) := by decide +kernel
theorem dX4_walkFromFirst_7 : decode cX4_walkFromFirst 7 = .ok (.aload_n 0, 1) := by decide +kernel
theorem dX4_walkFromFirst_8 : decode cX4_walkFromFirst 8 = .ok (.iconst 0, 1) := by decide +kernel
theorem dX4_walkFromFirst_9 : decode cX4_walkFromFirst 9 = .ok (.putfield 38, 3) := by decide +kernel
theorem dX4_walkFromFirst_12 : decode cX4_walkFromFirst 12 = .ok (.aload_n 0, 1) := by decide +kernel
theorem dX4_walkFromFirst_13 : decode cX4_walkFromFirst 13 = .ok (.aload_n 1, 1) := by decide +kernel
theorem dX4_walkFromFirst_14 : decode cX4_walkFromFirst 14 = .ok (.invokevirtual 42, 3) := by decide +kernel
theorem dX4_walkFromFirst_17 : decode cX4_walkFromFirst 17 = .ok (.aload_n 2, 1) := by decide +kernel
theorem dX4_walkFromFirst_18 : decode cX4_walkFromFirst 18 = .ok (.invokevirtual 42, 3) := by decide +kernel
theorem dX4_walkFromFirst_21 : decode cX4_walkFromFirst 21 = .ok (.iconst (-1), 1) := by decide +kernel
theorem dX4_walkFromFirst_22 : decode cX4_walkFromFirst 22 = .ok (.iconst 0, 1) := by decide +kernel
theorem dX4_walkFromFirst_23 : decode cX4_walkFromFirst 23 = .ok (.invokevirtual 48, 3) := by decide +kernel
theorem dX4_walkFromFirst_26 : decode cX4_walkFromFirst 26 = .ok (.iconst 0, 1) := by decide +kernel
theorem dX4_walkFromFirst_27 : decode cX4_walkFromFirst 27 = .ok (.istore_n 3, 1) := by decide +kernel
theorem dX4_walkFromFirst_28 : decode cX4_walkFromFirst 28 = .ok (.iload_n 3, 1) := by decide +kernel
theorem dX4_walkFromFirst_29 : decode cX4_walkFromFirst 29 = .ok (.aload_n 0, 1) := by decide +kernel
theorem dX4_walkFromFirst_30 : decode cX4_walkFromFirst 30 = .ok (.getfield 38, 3) := by decide +kernel
theorem dX4_walkFromFirst_33 : decode cX4_walkFromFirst 33 = .ok (.if_icmp .ge 60, 3) := by decide +kernel
theorem dX4_walkFromFirst_36 : decode cX4_walkFromFirst 36 = .ok (.iload_n 3, 1) := by decide +kernel
theorem dX4_walkFromFirst_37 : decode cX4_walkFromFirst 37 = .ok (.sipush 256, 3) := by decide +kernel
theorem dX4_walkFromFirst_40 : decode cX4_walkFromFirst 40 = .ok (.if_icmp .ge 53, 3) := by decide +kernel
theorem dX4_walkFromFirst_43 : decode cX4_walkFromFirst 43 = .ok (.iconst 0, 1) := by decide +kernel
theorem dX4_walkFromFirst_44 : decode cX4_walkFromFirst 44 = .ok (.istore 4, 2) := by decide +kernel
theorem dX4_walkFromFirst_46 : decode cX4_walkFromFirst 46 = .ok (.iload 4, 2) := by decide +kernel
theorem dX4_walkFromFirst_48 : decode cX4_walkFromFirst 48 = .ok (.iconst 4, 1) := by decide +kernel
theorem dX4_walkFromFirst_49 : decode cX4_walkFromFirst 49 = .ok (.if_icmp .ge 38, 3) := by decide +kernel
theorem dX4_walkFromFirst_52 : decode cX4_walkFromFirst 52 = .ok (.aload_n 0, 1) := by decide +kernel
theorem dX4_walkFromFirst_53 : decode cX4_walkFromFirst 53 = .ok (.aload_n 1, 1) := by decide +kernel
theorem dX4_walkFromFirst_54 : decode cX4_walkFromFirst 54 = .ok (.aload_n 0, 1) := by decide +kernel
theorem dX4_walkFromFirst_55 : decode cX4_walkFromFirst 55 = .ok (.iload_n 3, 1) := by decide +kernel
theorem dX4_walkFromFirst_56 : decode cX4_walkFromFirst 56 = .ok (.invokevirtual 52, 3) := by decide +kernel
theorem dX4_walkFromFirst_59 : decode cX4_walkFromFirst 59 = .ok (.iload 4, 2) := by decide +kernel
theorem dX4_walkFromFirst_61 : decode cX4_walkFromFirst 61 = .ok (.invokevirtual 56, 3) := by decide +kernel
theorem dX4_walkFromFirst_64 : decode cX4_walkFromFirst 64 = .ok (.aload_n 2, 1) := by decide +kernel
theorem dX4_walkFromFirst_65 : decode cX4_walkFromFirst 65 = .ok (.aload_n 0, 1) := by decide +kernel
theorem dX4_walkFromFirst_66 : decode cX4_walkFromFirst 66 = .ok (.iload_n 3, 1) := by decide +kernel
theorem dX4_walkFromFirst_67 : decode cX4_walkFromFirst 67 = .ok (.invokevirtual 60, 3) := by decide +kernel
theorem dX4_walkFromFirst_70 : decode cX4_walkFromFirst 70 = .ok (.iload 4, 2) := by decide +kernel
theorem dX4_walkFromFirst_72 : decode cX4_walkFromFirst 72 = .ok (.invokevirtual 56, 3) := by decide +kernel
theorem dX4_walkFromFirst_75 : decode cX4_walkFromFirst 75 = .ok (.iload_n 3, 1) := by decide +kernel
theorem dX4_walkFromFirst_76 : decode cX4_walkFromFirst 76 = .ok (.iload 4, 2) := by decide +kernel
theorem dX4_walkFromFirst_78 : decode cX4_walkFromFirst 78 = .ok (.invokevirtual 48, 3) := by decide +kernel
theorem dX4_walkFromFirst_81 : decode cX4_walkFromFirst 81 = .ok (.iinc 4 1, 3) := by decide +kernel
theorem dX4_walkFromFirst_84 : decode cX4_walkFromFirst 84 = .ok (.goto (-38), 3) := by decide +kernel
theorem dX4_walkFromFirst_87 : decode cX4_walkFromFirst 87 = .ok (.iinc 3 1, 3) := by decide +kernel
theorem dX4_walkFromFirst_90 : decode cX4_walkFromFirst 90 = .ok (.goto (-62), 3) := by decide +kernel
theorem dX4_walkFromFirst_93 : decode cX4_walkFromFirst 93 = .ok (.return_, 1) := by decide +kernel
theorem dX4_meet_0 : decode cX4_meet 0 = .ok (.iload_n 1, 1) := by decide +kernel
theorem dX4_meet_1 : decode cX4_meet 1 = .ok (.bipush 16, 2) := by decide +kernel
theorem dX4_meet_3 : decode cX4_meet 3 = .ok (.imul, 1) := by decide +kernel
theorem dX4_meet_4 : decode cX4_meet 4 = .ok (.iload_n 2, 1) := by decide +kernel
theorem dX4_meet_5 : decode cX4_meet 5 = .ok (.iadd, 1) := by decide +kernel
theorem dX4_meet_6 : decode cX4_meet 6 = .ok (.istore 5, 2) := by decide +kernel
theorem dX4_meet_8 : decode cX4_meet 8 = .ok (.aload_n 0, 1) := by decide +kernel
theorem dX4_meet_9 : decode cX4_meet 9 = .ok (.getfield 14, 3) := by decide +kernel
theorem dX4_meet_12 : decode cX4_meet 12 = .ok (.iload 5, 2) := by decide +kernel
theorem dX4_meet_14 : decode cX4_meet 14 = .ok (.invokevirtual 63, 3) := by decide +kernel
theorem dX4_meet_17 : decode cX4_meet 17 = .ok (.iconst 1, 1) := by decide +kernel
theorem dX4_meet_18 : decode cX4_meet 18 = .ok (.if_icmp .eq 13, 3) := by decide +kernel
theorem dX4_meet_21 : decode cX4_meet 21 = .ok (.aload_n 0, 1) := by decide +kernel
theorem dX4_meet_22 : decode cX4_meet 22 = .ok (.getfield 38, 3) := by decide +kernel
theorem dX4_meet_25 : decode cX4_meet 25 = .ok (.sipush 256, 3) := by decide +kernel
theorem dX4_meet_28 : decode cX4_meet 28 = .ok (.if_icmp .lt 4, 3) := by decide +kernel
theorem dX4_meet_31 : decode cX4_meet 31 = .ok (.return_, 1) := by decide +kernel
theorem dX4_meet_32 : decode cX4_meet 32 = .ok (.aload_n 0, 1) := by decide +kernel
theorem dX4_meet_33 : decode cX4_meet 33 = .ok (.getfield 14, 3) := by decide +kernel
theorem dX4_meet_36 : decode cX4_meet 36 = .ok (.iload 5, 2) := by decide +kernel
theorem dX4_meet_38 : decode cX4_meet 38 = .ok (.iconst 1, 1) := by decide +kernel
theorem dX4_meet_39 : decode cX4_meet 39 = .ok (.invokevirtual 66, 3) := by decide +kernel
theorem dX4_meet_42 : decode cX4_meet 42 = .ok (.aload_n 0, 1) := by decide +kernel
theorem dX4_meet_43 : decode cX4_meet 43 = .ok (.getfield 20, 3) := by decide +kernel
theorem dX4_meet_46 : decode cX4_meet 46 = .ok (.aload_n 0, 1) := by decide +kernel
theorem dX4_meet_47 : decode cX4_meet 47 = .ok (.getfield 38, 3) := by decide +kernel
theorem dX4_meet_50 : decode cX4_meet 50 = .ok (.iload_n 1, 1) := by decide +kernel
theorem dX4_meet_51 : decode cX4_meet 51 = .ok (.invokevirtual 66, 3) := by decide +kernel
theorem dX4_meet_54 : decode cX4_meet 54 = .ok (.aload_n 0, 1) := by decide +kernel
theorem dX4_meet_55 : decode cX4_meet 55 = .ok (.getfield 23, 3) := by decide +kernel
theorem dX4_meet_58 : decode cX4_meet 58 = .ok (.aload_n 0, 1) := by decide +kernel
theorem dX4_meet_59 : decode cX4_meet 59 = .ok (.getfield 38, 3) := by decide +kernel
theorem dX4_meet_62 : decode cX4_meet 62 = .ok (.iload_n 2, 1) := by decide +kernel
theorem dX4_meet_63 : decode cX4_meet 63 = .ok (.invokevirtual 66, 3) := by decide +kernel
theorem dX4_meet_66 : decode cX4_meet 66 = .ok (.aload_n 0, 1) := by decide +kernel
theorem dX4_meet_67 : decode cX4_meet 67 = .ok (.getfield 26, 3) := by decide +kernel
theorem dX4_meet_70 : decode cX4_meet 70 = .ok (.aload_n 0, 1) := by decide +kernel
theorem dX4_meet_71 : decode cX4_meet 71 = .ok (.getfield 38, 3) := by decide +kernel
theorem dX4_meet_74 : decode cX4_meet 74 = .ok (.iload_n 3, 1) := by decide +kernel
theorem dX4_meet_75 : decode cX4_meet 75 = .ok (.ifCond .ge 7, 3) := by decide +kernel
theorem dX4_meet_78 : decode cX4_meet 78 = .ok (.iconst 0, 1) := by decide +kernel
theorem dX4_meet_79 : decode cX4_meet 79 = .ok (.goto 13, 3) := by decide +kernel
theorem dX4_meet_82 : decode cX4_meet 82 = .ok (.aload_n 0, 1) := by decide +kernel
theorem dX4_meet_83 : decode cX4_meet 83 = .ok (.getfield 26, 3) := by decide +kernel
theorem dX4_meet_86 : decode cX4_meet 86 = .ok (.iload_n 3, 1) := by decide +kernel
theorem dX4_meet_87 : decode cX4_meet 87 = .ok (.invokevirtual 63, 3) := by decide +kernel
theorem dX4_meet_90 : decode cX4_meet 90 = .ok (.iconst 1, 1) := by decide +kernel
theorem dX4_meet_91 : decode cX4_meet 91 = .ok (.iadd, 1) := by decide +kernel
theorem dX4_meet_92 : decode cX4_meet 92 = .ok (.invokevirtual 66, 3) := by decide +kernel
theorem dX4_meet_95 : decode cX4_meet 95 = .ok (.aload_n 0, 1) := by decide +kernel
theorem dX4_meet_96 : decode cX4_meet 96 = .ok (.getfield 29, 3) := by decide +kernel
theorem dX4_meet_99 : decode cX4_meet 99 = .ok (.aload_n 0, 1) := by decide +kernel
theorem dX4_meet_100 : decode cX4_meet 100 = .ok (.getfield 38, 3) := by decide +kernel
theorem dX4_meet_103 : decode cX4_meet 103 = .ok (.iload_n 3, 1) := by decide +kernel
theorem dX4_meet_104 : decode cX4_meet 104 = .ok (.invokevirtual 66, 3) := by decide +kernel
theorem dX4_meet_107 : decode cX4_meet 107 = .ok (.aload_n 0, 1) := by decide +kernel
theorem dX4_meet_108 : decode cX4_meet 108 = .ok (.getfield 32, 3) := by decide +kernel
theorem dX4_meet_111 : decode cX4_meet 111 = .ok (.aload_n 0, 1) := by decide +kernel
theorem dX4_meet_112 : decode cX4_meet 112 = .ok (.getfield 38, 3) := by decide +kernel
theorem dX4_meet_115 : decode cX4_meet 115 = .ok (.iload 4, 2) := by decide +kernel
theorem dX4_meet_117 : decode cX4_meet 117 = .ok (.invokevirtual 66, 3) := by decide +kernel
theorem dX4_meet_120 : decode cX4_meet 120 = .ok (.aload_n 0, 1) := by decide +kernel
theorem dX4_meet_121 : decode cX4_meet 121 = .ok (.dup, 1) := by decide +kernel
theorem dX4_meet_122 : decode cX4_meet 122 = .ok (.getfield 38, 3) := by decide +kernel
theorem dX4_meet_125 : decode cX4_meet 125 = .ok (.iconst 1, 1) := by decide +kernel
theorem dX4_meet_126 : decode cX4_meet 126 = .ok (.iadd, 1) := by decide +kernel
theorem dX4_meet_127 : decode cX4_meet 127 = .ok (.putfield 38, 3) := by decide +kernel
theorem dX4_meet_130 : decode cX4_meet 130 = .ok (.return_, 1) := by decide +kernel
theorem dX4_size_0 : decode cX4_size 0 = .ok (.aload_n 0, 1) := by decide +kernel
theorem dX4_size_1 : decode cX4_size 1 = .ok (.getfield 38, 3) := by decide +kernel
theorem dX4_size_4 : decode cX4_size 4 = .ok (.ireturn, 1) := by decide +kernel
theorem dX4_zeroState_0 : decode cX4_zeroState 0 = .ok (.aload_n 0, 1) := by decide +kernel
theorem dX4_zeroState_1 : decode cX4_zeroState 1 = .ok (.getfield 20, 3) := by decide +kernel
theorem dX4_zeroState_4 : decode cX4_zeroState 4 = .ok (.iload_n 1, 1) := by decide +kernel
theorem dX4_zeroState_5 : decode cX4_zeroState 5 = .ok (.invokevirtual 63, 3) := by decide +kernel
theorem dX4_zeroState_8 : decode cX4_zeroState 8 = .ok (.ireturn, 1) := by decide +kernel
theorem dX4_oneState_0 : decode cX4_oneState 0 = .ok (.aload_n 0, 1) := by decide +kernel
theorem dX4_oneState_1 : decode cX4_oneState 1 = .ok (.getfield 23, 3) := by decide +kernel
theorem dX4_oneState_4 : decode cX4_oneState 4 = .ok (.iload_n 1, 1) := by decide +kernel
theorem dX4_oneState_5 : decode cX4_oneState 5 = .ok (.invokevirtual 63, 3) := by decide +kernel
theorem dX4_oneState_8 : decode cX4_oneState 8 = .ok (.ireturn, 1) := by decide +kernel
theorem dX4_ticksTo_0 : decode cX4_ticksTo 0 = .ok (.aload_n 0, 1) := by decide +kernel
theorem dX4_ticksTo_1 : decode cX4_ticksTo 1 = .ok (.getfield 26, 3) := by decide +kernel
theorem dX4_ticksTo_4 : decode cX4_ticksTo 4 = .ok (.iload_n 1, 1) := by decide +kernel
theorem dX4_ticksTo_5 : decode cX4_ticksTo 5 = .ok (.invokevirtual 63, 3) := by decide +kernel
theorem dX4_ticksTo_8 : decode cX4_ticksTo 8 = .ok (.ireturn, 1) := by decide +kernel
theorem dX4_inputsOnWay_0 : decode cX4_inputsOnWay 0 = .ok (.iload_n 1, 1) := by decide +kernel
theorem dX4_inputsOnWay_1 : decode cX4_inputsOnWay 1 = .ok (.istore_n 3, 1) := by decide +kernel
theorem dX4_inputsOnWay_2 : decode cX4_inputsOnWay 2 = .ok (.aload_n 0, 1) := by decide +kernel
theorem dX4_inputsOnWay_3 : decode cX4_inputsOnWay 3 = .ok (.iload_n 1, 1) := by decide +kernel
theorem dX4_inputsOnWay_4 : decode cX4_inputsOnWay 4 = .ok (.invokevirtual 70, 3) := by decide +kernel
theorem dX4_inputsOnWay_7 : decode cX4_inputsOnWay 7 = .ok (.iconst 1, 1) := by decide +kernel
theorem dX4_inputsOnWay_8 : decode cX4_inputsOnWay 8 = .ok (.isub, 1) := by decide +kernel
theorem dX4_inputsOnWay_9 : decode cX4_inputsOnWay 9 = .ok (.iload_n 2, 1) := by decide +kernel
theorem dX4_inputsOnWay_10 : decode cX4_inputsOnWay 10 = .ok (.isub, 1) := by decide +kernel
theorem dX4_inputsOnWay_11 : decode cX4_inputsOnWay 11 = .ok (.istore 4, 2) := by decide +kernel
theorem dX4_inputsOnWay_13 : decode cX4_inputsOnWay 13 = .ok (.iload 4, 2) := by decide +kernel
theorem dX4_inputsOnWay_15 : decode cX4_inputsOnWay 15 = .ok (.ifCond .le 18, 3) := by decide +kernel
theorem dX4_inputsOnWay_18 : decode cX4_inputsOnWay 18 = .ok (.aload_n 0, 1) := by decide +kernel
theorem dX4_inputsOnWay_19 : decode cX4_inputsOnWay 19 = .ok (.getfield 29, 3) := by decide +kernel
theorem dX4_inputsOnWay_22 : decode cX4_inputsOnWay 22 = .ok (.iload_n 3, 1) := by decide +kernel
theorem dX4_inputsOnWay_23 : decode cX4_inputsOnWay 23 = .ok (.invokevirtual 63, 3) := by decide +kernel
theorem dX4_inputsOnWay_26 : decode cX4_inputsOnWay 26 = .ok (.istore_n 3, 1) := by decide +kernel
theorem dX4_inputsOnWay_27 : decode cX4_inputsOnWay 27 = .ok (.iinc 4 (-1), 3) := by decide +kernel
theorem dX4_inputsOnWay_30 : decode cX4_inputsOnWay 30 = .ok (.goto (-17), 3) := by decide +kernel
theorem dX4_inputsOnWay_33 : decode cX4_inputsOnWay 33 = .ok (.aload_n 0, 1) := by decide +kernel
theorem dX4_inputsOnWay_34 : decode cX4_inputsOnWay 34 = .ok (.getfield 32, 3) := by decide +kernel
theorem dX4_inputsOnWay_37 : decode cX4_inputsOnWay 37 = .ok (.iload_n 3, 1) := by decide +kernel
theorem dX4_inputsOnWay_38 : decode cX4_inputsOnWay 38 = .ok (.invokevirtual 63, 3) := by decide +kernel
theorem dX4_inputsOnWay_41 : decode cX4_inputsOnWay 41 = .ok (.ireturn, 1) := by decide +kernel
theorem dX5_init_0 : decode cX5_init 0 = .ok (.aload_n 0, 1) := by decide +kernel
theorem dX5_init_1 : decode cX5_init 1 = .ok (.invokespecial 3, 3) := by decide +kernel
theorem dX5_init_4 : decode cX5_init 4 = .ok (.aload_n 0, 1) := by decide +kernel
theorem dX5_init_5 : decode cX5_init 5 = .ok (.new 9, 3) := by decide +kernel
theorem dX5_init_8 : decode cX5_init 8 = .ok (.dup, 1) := by decide +kernel
theorem dX5_init_9 : decode cX5_init 9 = .ok (.invokespecial 11, 3) := by decide +kernel
theorem dX5_init_12 : decode cX5_init 12 = .ok (.putfield 12, 3) := by decide +kernel
theorem dX5_init_15 : decode cX5_init 15 = .ok (.return_, 1) := by decide +kernel
theorem dX5_circuitRead_0 : decode cX5_circuitRead 0 = .ok (.aload_n 0, 1) := by decide +kernel
theorem dX5_circuitRead_1 : decode cX5_circuitRead 1 = .ok (.getfield 12, 3) := by decide +kernel
theorem dX5_circuitRead_4 : decode cX5_circuitRead 4 = .ok (.areturn, 1) := by decide +kernel
theorem dX5_faultPosition_0 : decode cX5_faultPosition 0 = .ok (.aload_n 0, 1) := by decide +kernel
theorem dX5_faultPosition_1 : decode cX5_faultPosition 1 = .ok (.getfield 18, 3) := by decide +kernel
theorem dX5_faultPosition_4 : decode cX5_faultPosition 4 = .ok (.ireturn, 1) := by decide +kernel
theorem dX5_faultReason_0 : decode cX5_faultReason 0 = .ok (.aload_n 0, 1) := by decide +kernel
theorem dX5_faultReason_1 : decode cX5_faultReason 1 = .ok (.getfield 22, 3) := by decide +kernel
theorem dX5_faultReason_4 : decode cX5_faultReason 4 = .ok (.ireturn, 1) := by decide +kernel
theorem dX5_readWhole_0 : decode cX5_readWhole 0 = .ok (.aload_n 0, 1) := by decide +kernel
theorem dX5_readWhole_1 : decode cX5_readWhole 1 = .ok (.getfield 12, 3) := by decide +kernel
theorem dX5_readWhole_4 : decode cX5_readWhole 4 = .ok (.invokevirtual 25, 3) := by decide +kernel
theorem dX5_readWhole_7 : decode cX5_readWhole 7 = .ok (.aload_n 0, 1) := by decide +kernel
theorem dX5_readWhole_8 : decode cX5_readWhole 8 = .ok (.iconst 0, 1) := by decide +kernel
theorem dX5_readWhole_9 : decode cX5_readWhole 9 = .ok (.putfield 18, 3) := by decide +kernel
theorem dX5_readWhole_12 : decode cX5_readWhole 12 = .ok (.aload_n 0, 1) := by decide +kernel
theorem dX5_readWhole_13 : decode cX5_readWhole 13 = .ok (.iconst 0, 1) := by decide +kernel
theorem dX5_readWhole_14 : decode cX5_readWhole 14 = .ok (.putfield 22, 3) := by decide +kernel
theorem dX5_readWhole_17 : decode cX5_readWhole 17 = .ok (.aload_n 0, 1) := by decide +kernel
theorem dX5_readWhole_18 : decode cX5_readWhole 18 = .ok (.iconst 0, 1) := by decide +kernel
theorem dX5_readWhole_19 : decode cX5_readWhole 19 = .ok (.putfield 28, 3) := by decide +kernel
theorem dX5_readWhole_22 : decode cX5_readWhole 22 = .ok (.iconst 0, 1) := by decide +kernel
theorem dX5_readWhole_23 : decode cX5_readWhole 23 = .ok (.istore_n 2, 1) := by decide +kernel
theorem dX5_readWhole_24 : decode cX5_readWhole 24 = .ok (.iload_n 2, 1) := by decide +kernel
theorem dX5_readWhole_25 : decode cX5_readWhole 25 = .ok (.bipush 80, 2) := by decide +kernel
theorem dX5_readWhole_27 : decode cX5_readWhole 27 = .ok (.if_icmp .ge 32, 3) := by decide +kernel
theorem dX5_readWhole_30 : decode cX5_readWhole 30 = .ok (.aload_n 0, 1) := by decide +kernel
theorem dX5_readWhole_31 : decode cX5_readWhole 31 = .ok (.getfield 22, 3) := by decide +kernel
theorem dX5_readWhole_34 : decode cX5_readWhole 34 = .ok (.ifCond .ne 25, 3) := by decide +kernel
theorem dX5_readWhole_37 : decode cX5_readWhole 37 = .ok (.aload_n 0, 1) := by decide +kernel
theorem dX5_readWhole_38 : decode cX5_readWhole 38 = .ok (.getfield 18, 3) := by decide +kernel
theorem dX5_readWhole_41 : decode cX5_readWhole 41 = .ok (.aload_n 1, 1) := by decide +kernel
theorem dX5_readWhole_42 : decode cX5_readWhole 42 = .ok (.invokevirtual 33, 3) := by decide +kernel
theorem dX5_readWhole_45 : decode cX5_readWhole 45 = .ok (.if_icmp .ge 8, 3) := by decide +kernel
theorem dX5_readWhole_48 : decode cX5_readWhole 48 = .ok (.aload_n 0, 1) := by decide +kernel
theorem dX5_readWhole_49 : decode cX5_readWhole 49 = .ok (.aload_n 1, 1) := by decide +kernel
theorem dX5_readWhole_50 : decode cX5_readWhole 50 = .ok (.invokevirtual 37, 3) := by decide +kernel
theorem dX5_readWhole_53 : decode cX5_readWhole 53 = .ok (.iinc 2 1, 3) := by decide +kernel
theorem dX5_readWhole_56 : decode cX5_readWhole 56 = .ok (.goto (-32), 3) := by decide +kernel
theorem dX5_readWhole_59 : decode cX5_readWhole 59 = .ok (.return_, 1) := by decide +kernel
theorem dX5_readPart_0 : decode cX5_readPart 0 = .ok (.aload_n 1, 1) := by decide +kernel
theorem dX5_readPart_1 : decode cX5_readPart 1 = .ok (.aload_n 0, 1) := by decide +kernel
theorem dX5_readPart_2 : decode cX5_readPart 2 = .ok (.getfield 18, 3) := by decide +kernel
theorem dX5_readPart_5 : decode cX5_readPart 5 = .ok (.invokevirtual 41, 3) := by decide +kernel
theorem dX5_readPart_8 : decode cX5_readPart 8 = .ok (.istore_n 2, 1) := by decide +kernel
theorem dX5_readPart_9 : decode cX5_readPart 9 = .ok (.iload_n 2, 1) := by decide +kernel
theorem dX5_readPart_10 : decode cX5_readPart 10 = .ok (.bipush 114, 2) := by decide +kernel
theorem dX5_readPart_12 : decode cX5_readPart 12 = .ok (.if_icmp .ne 11, 3) := by decide +kernel
theorem dX5_readPart_15 : decode cX5_readPart 15 = .ok (.aload_n 0, 1) := by decide +kernel
theorem dX5_readPart_16 : decode cX5_readPart 16 = .ok (.aload_n 1, 1) := by decide +kernel
theorem dX5_readPart_17 : decode cX5_readPart 17 = .ok (.invokevirtual 45, 3) := by decide +kernel
theorem dX5_readPart_20 : decode cX5_readPart 20 = .ok (.goto 22, 3) := by decide +kernel
theorem dX5_readPart_23 : decode cX5_readPart 23 = .ok (.iload_n 2, 1) := by decide +kernel
theorem dX5_readPart_24 : decode cX5_readPart 24 = .ok (.bipush 111, 2) := by decide +kernel
theorem dX5_readPart_26 : decode cX5_readPart 26 = .ok (.if_icmp .ne 11, 3) := by decide +kernel
theorem dX5_readPart_29 : decode cX5_readPart 29 = .ok (.aload_n 0, 1) := by decide +kernel
theorem dX5_readPart_30 : decode cX5_readPart 30 = .ok (.aload_n 1, 1) := by decide +kernel
theorem dX5_readPart_31 : decode cX5_readPart 31 = .ok (.invokevirtual 48, 3) := by decide +kernel
theorem dX5_readPart_34 : decode cX5_readPart 34 = .ok (.goto 8, 3) := by decide +kernel
theorem dX5_readPart_37 : decode cX5_readPart 37 = .ok (.aload_n 0, 1) := by decide +kernel
theorem dX5_readPart_38 : decode cX5_readPart 38 = .ok (.aload_n 1, 1) := by decide +kernel
theorem dX5_readPart_39 : decode cX5_readPart 39 = .ok (.invokevirtual 51, 3) := by decide +kernel
theorem dX5_readPart_42 : decode cX5_readPart 42 = .ok (.return_, 1) := by decide +kernel
theorem dX5_readGate_0 : decode cX5_readGate 0 = .ok (.aload_n 0, 1) := by decide +kernel
theorem dX5_readGate_1 : decode cX5_readGate 1 = .ok (.aload_n 1, 1) := by decide +kernel
theorem dX5_readGate_2 : decode cX5_readGate 2 = .ok (.iconst 0, 1) := by decide +kernel
theorem dX5_readGate_3 : decode cX5_readGate 3 = .ok (.invokevirtual 54, 3) := by decide +kernel
theorem dX5_readGate_6 : decode cX5_readGate 6 = .ok (.istore_n 2, 1) := by decide +kernel
theorem dX5_readGate_7 : decode cX5_readGate 7 = .ok (.aload_n 0, 1) := by decide +kernel
theorem dX5_readGate_8 : decode cX5_readGate 8 = .ok (.aload_n 1, 1) := by decide +kernel
theorem dX5_readGate_9 : decode cX5_readGate 9 = .ok (.iconst 1, 1) := by decide +kernel
theorem dX5_readGate_10 : decode cX5_readGate 10 = .ok (.invokevirtual 54, 3) := by decide +kernel
theorem dX5_readGate_13 : decode cX5_readGate 13 = .ok (.istore_n 3, 1) := by decide +kernel
theorem dX5_readGate_14 : decode cX5_readGate 14 = .ok (.aload_n 0, 1) := by decide +kernel
theorem dX5_readGate_15 : decode cX5_readGate 15 = .ok (.aload_n 1, 1) := by decide +kernel
theorem dX5_readGate_16 : decode cX5_readGate 16 = .ok (.iconst 2, 1) := by decide +kernel
theorem dX5_readGate_17 : decode cX5_readGate 17 = .ok (.invokevirtual 54, 3) := by decide +kernel
theorem dX5_readGate_20 : decode cX5_readGate 20 = .ok (.istore 4, 2) := by decide +kernel
theorem dX5_readGate_22 : decode cX5_readGate 22 = .ok (.aload_n 0, 1) := by decide +kernel
theorem dX5_readGate_23 : decode cX5_readGate 23 = .ok (.getfield 12, 3) := by decide +kernel
theorem dX5_readGate_26 : decode cX5_readGate 26 = .ok (.invokevirtual 58, 3) := by decide +kernel
theorem dX5_readGate_29 : decode cX5_readGate 29 = .ok (.istore 5, 2) := by decide +kernel
theorem dX5_readGate_31 : decode cX5_readGate 31 = .ok (.iload_n 2, 1) := by decide +kernel
theorem dX5_readGate_32 : decode cX5_readGate 32 = .ok (.iconst 0, 1) := by decide +kernel
theorem dX5_readGate_33 : decode cX5_readGate 33 = .ok (.iconst 5, 1) := by decide +kernel
theorem dX5_readGate_34 : decode cX5_readGate 34 = .ok (.invokestatic 61, 3) := by decide +kernel
theorem dX5_readGate_37 : decode cX5_readGate 37 = .ok (.ifCond .eq 21, 3) := by decide +kernel
theorem dX5_readGate_40 : decode cX5_readGate 40 = .ok (.iload_n 3, 1) := by decide +kernel
theorem dX5_readGate_41 : decode cX5_readGate 41 = .ok (.ifCond .lt 17, 3) := by decide +kernel
theorem dX5_readGate_44 : decode cX5_readGate 44 = .ok (.iload 4, 2) := by decide +kernel
theorem dX5_readGate_46 : decode cX5_readGate 46 = .ok (.ifCond .lt 12, 3) := by decide +kernel
theorem dX5_readGate_49 : decode cX5_readGate 49 = .ok (.aload_n 0, 1) := by decide +kernel
theorem dX5_readGate_50 : decode cX5_readGate 50 = .ok (.aload_n 1, 1) := by decide +kernel
theorem dX5_readGate_51 : decode cX5_readGate 51 = .ok (.iconst 3, 1) := by decide +kernel
theorem dX5_readGate_52 : decode cX5_readGate 52 = .ok (.invokevirtual 65, 3) := by decide +kernel
theorem dX5_readGate_55 : decode cX5_readGate 55 = .ok (.ifCond .ne 11, 3) := by decide +kernel
theorem dX5_readGate_58 : decode cX5_readGate 58 = .ok (.aload_n 0, 1) := by decide +kernel
theorem dX5_readGate_59 : decode cX5_readGate 59 = .ok (.iconst 1, 1) := by decide +kernel
theorem dX5_readGate_60 : decode cX5_readGate 60 = .ok (.putfield 22, 3) := by decide +kernel
theorem dX5_readGate_63 : decode cX5_readGate 63 = .ok (.goto 68, 3) := by decide +kernel
theorem dX5_readGate_66 : decode cX5_readGate 66 = .ok (.iload 5, 2) := by decide +kernel
theorem dX5_readGate_68 : decode cX5_readGate 68 = .ok (.bipush 8, 2) := by decide +kernel
theorem dX5_readGate_70 : decode cX5_readGate 70 = .ok (.if_icmp .lt 11, 3) := by decide +kernel
theorem dX5_readGate_73 : decode cX5_readGate 73 = .ok (.aload_n 0, 1) := by decide +kernel
theorem dX5_readGate_74 : decode cX5_readGate 74 = .ok (.iconst 2, 1) := by decide +kernel
theorem dX5_readGate_75 : decode cX5_readGate 75 = .ok (.putfield 22, 3) := by decide +kernel
theorem dX5_readGate_78 : decode cX5_readGate 78 = .ok (.goto 53, 3) := by decide +kernel
theorem dX5_readGate_81 : decode cX5_readGate 81 = .ok (.iload 5, 2) := by decide +kernel
theorem dX5_readGate_83 : decode cX5_readGate 83 = .ok (.iload_n 3, 1) := by decide +kernel
theorem dX5_readGate_84 : decode cX5_readGate 84 = .ok (.invokestatic 69, 3) := by decide +kernel
theorem dX5_readGate_87 : decode cX5_readGate 87 = .ok (.ifCond .eq 13, 3) := by decide +kernel
theorem dX5_readGate_90 : decode cX5_readGate 90 = .ok (.iload 5, 2) := by decide +kernel
theorem dX5_readGate_92 : decode cX5_readGate 92 = .ok (.iload 4, 2) := by decide +kernel
theorem dX5_readGate_94 : decode cX5_readGate 94 = .ok (.invokestatic 69, 3) := by decide +kernel
theorem dX5_readGate_97 : decode cX5_readGate 97 = .ok (.ifCond .ne 11, 3) := by decide +kernel
theorem dX5_readGate_100 : decode cX5_readGate 100 = .ok (.aload_n 0, 1) := by decide +kernel
theorem dX5_readGate_101 : decode cX5_readGate 101 = .ok (.iconst 3, 1) := by decide +kernel
theorem dX5_readGate_102 : decode cX5_readGate 102 = .ok (.putfield 22, 3) := by decide +kernel
theorem dX5_readGate_105 : decode cX5_readGate 105 = .ok (.goto 26, 3) := by decide +kernel
theorem dX5_readGate_108 : decode cX5_readGate 108 = .ok (.aload_n 0, 1) := by decide +kernel
theorem dX5_readGate_109 : decode cX5_readGate 109 = .ok (.getfield 12, 3) := by decide +kernel
theorem dX5_readGate_112 : decode cX5_readGate 112 = .ok (.iload 5, 2) := by decide +kernel
theorem dX5_readGate_114 : decode cX5_readGate 114 = .ok (.iload_n 2, 1) := by decide +kernel
theorem dX5_readGate_115 : decode cX5_readGate 115 = .ok (.iload_n 3, 1) := by decide +kernel
theorem dX5_readGate_116 : decode cX5_readGate 116 = .ok (.iload 4, 2) := by decide +kernel
theorem dX5_readGate_118 : decode cX5_readGate 118 = .ok (.invokevirtual 73, 3) := by decide +kernel
theorem dX5_readGate_121 : decode cX5_readGate 121 = .ok (.aload_n 0, 1) := by decide +kernel
theorem dX5_readGate_122 : decode cX5_readGate 122 = .ok (.dup, 1) := by decide +kernel
theorem dX5_readGate_123 : decode cX5_readGate 123 = .ok (.getfield 18, 3) := by decide +kernel
theorem dX5_readGate_126 : decode cX5_readGate 126 = .ok (.iconst 4, 1) := by decide +kernel
theorem dX5_readGate_127 : decode cX5_readGate 127 = .ok (.iadd, 1) := by decide +kernel
theorem dX5_readGate_128 : decode cX5_readGate 128 = .ok (.putfield 18, 3) := by decide +kernel
theorem dX5_readGate_131 : decode cX5_readGate 131 = .ok (.return_, 1) := by decide +kernel
theorem dX5_readRegister_0 : decode cX5_readRegister 0 = .ok (.aload_n 0, 1) := by decide +kernel
theorem dX5_readRegister_1 : decode cX5_readRegister 1 = .ok (.aload_n 1, 1) := by decide +kernel
theorem dX5_readRegister_2 : decode cX5_readRegister 2 = .ok (.iconst 1, 1) := by decide +kernel
theorem dX5_readRegister_3 : decode cX5_readRegister 3 = .ok (.invokevirtual 54, 3) := by decide +kernel
theorem dX5_readRegister_6 : decode cX5_readRegister 6 = .ok (.istore_n 2, 1) := by decide +kernel
theorem dX5_readRegister_7 : decode cX5_readRegister 7 = .ok (.aload_n 0, 1) := by decide +kernel
theorem dX5_readRegister_8 : decode cX5_readRegister 8 = .ok (.aload_n 1, 1) := by decide +kernel
theorem dX5_readRegister_9 : decode cX5_readRegister 9 = .ok (.iconst 2, 1) := by decide +kernel
theorem dX5_readRegister_10 : decode cX5_readRegister 10 = .ok (.invokevirtual 54, 3) := by decide +kernel
theorem dX5_readRegister_13 : decode cX5_readRegister 13 = .ok (.istore_n 3, 1) := by decide +kernel
theorem dX5_readRegister_14 : decode cX5_readRegister 14 = .ok (.aload_n 0, 1) := by decide +kernel
theorem dX5_readRegister_15 : decode cX5_readRegister 15 = .ok (.aload_n 1, 1) := by decide +kernel
theorem dX5_readRegister_16 : decode cX5_readRegister 16 = .ok (.iconst 3, 1) := by decide +kernel
theorem dX5_readRegister_17 : decode cX5_readRegister 17 = .ok (.invokevirtual 54, 3) := by decide +kernel
theorem dX5_readRegister_20 : decode cX5_readRegister 20 = .ok (.istore 4, 2) := by decide +kernel
theorem dX5_readRegister_22 : decode cX5_readRegister 22 = .ok (.iload_n 2, 1) := by decide +kernel
theorem dX5_readRegister_23 : decode cX5_readRegister 23 = .ok (.invokestatic 77, 3) := by decide +kernel
theorem dX5_readRegister_26 : decode cX5_readRegister 26 = .ok (.ifCond .eq 26, 3) := by decide +kernel
theorem dX5_readRegister_29 : decode cX5_readRegister 29 = .ok (.iload_n 3, 1) := by decide +kernel
theorem dX5_readRegister_30 : decode cX5_readRegister 30 = .ok (.ifCond .lt 22, 3) := by decide +kernel
theorem dX5_readRegister_33 : decode cX5_readRegister 33 = .ok (.iload 4, 2) := by decide +kernel
theorem dX5_readRegister_35 : decode cX5_readRegister 35 = .ok (.iconst 0, 1) := by decide +kernel
theorem dX5_readRegister_36 : decode cX5_readRegister 36 = .ok (.iconst 1, 1) := by decide +kernel
theorem dX5_readRegister_37 : decode cX5_readRegister 37 = .ok (.invokestatic 61, 3) := by decide +kernel
theorem dX5_readRegister_40 : decode cX5_readRegister 40 = .ok (.ifCond .eq 12, 3) := by decide +kernel
theorem dX5_readRegister_43 : decode cX5_readRegister 43 = .ok (.aload_n 0, 1) := by decide +kernel
theorem dX5_readRegister_44 : decode cX5_readRegister 44 = .ok (.aload_n 1, 1) := by decide +kernel
theorem dX5_readRegister_45 : decode cX5_readRegister 45 = .ok (.iconst 4, 1) := by decide +kernel
theorem dX5_readRegister_46 : decode cX5_readRegister 46 = .ok (.invokevirtual 65, 3) := by decide +kernel
theorem dX5_readRegister_49 : decode cX5_readRegister 49 = .ok (.ifCond .ne 11, 3) := by decide +kernel
theorem dX5_readRegister_52 : decode cX5_readRegister 52 = .ok (.aload_n 0, 1) := by decide +kernel
theorem dX5_readRegister_53 : decode cX5_readRegister 53 = .ok (.iconst 1, 1) := by decide +kernel
theorem dX5_readRegister_54 : decode cX5_readRegister 54 = .ok (.putfield 22, 3) := by decide +kernel
theorem dX5_readRegister_57 : decode cX5_readRegister 57 = .ok (.goto 56, 3) := by decide +kernel
theorem dX5_readRegister_60 : decode cX5_readRegister 60 = .ok (.aload_n 0, 1) := by decide +kernel
theorem dX5_readRegister_61 : decode cX5_readRegister 61 = .ok (.getfield 28, 3) := by decide +kernel
theorem dX5_readRegister_64 : decode cX5_readRegister 64 = .ok (.iload_n 2, 1) := by decide +kernel
theorem dX5_readRegister_65 : decode cX5_readRegister 65 = .ok (.invokestatic 81, 3) := by decide +kernel
theorem dX5_readRegister_68 : decode cX5_readRegister 68 = .ok (.iconst 1, 1) := by decide +kernel
theorem dX5_readRegister_69 : decode cX5_readRegister 69 = .ok (.if_icmp .ne 11, 3) := by decide +kernel
theorem dX5_readRegister_72 : decode cX5_readRegister 72 = .ok (.aload_n 0, 1) := by decide +kernel
theorem dX5_readRegister_73 : decode cX5_readRegister 73 = .ok (.iconst 4, 1) := by decide +kernel
theorem dX5_readRegister_74 : decode cX5_readRegister 74 = .ok (.putfield 22, 3) := by decide +kernel
theorem dX5_readRegister_77 : decode cX5_readRegister 77 = .ok (.goto 36, 3) := by decide +kernel
theorem dX5_readRegister_80 : decode cX5_readRegister 80 = .ok (.aload_n 0, 1) := by decide +kernel
theorem dX5_readRegister_81 : decode cX5_readRegister 81 = .ok (.dup, 1) := by decide +kernel
theorem dX5_readRegister_82 : decode cX5_readRegister 82 = .ok (.getfield 28, 3) := by decide +kernel
theorem dX5_readRegister_85 : decode cX5_readRegister 85 = .ok (.iconst 1, 1) := by decide +kernel
theorem dX5_readRegister_86 : decode cX5_readRegister 86 = .ok (.iload_n 2, 1) := by decide +kernel
theorem dX5_readRegister_87 : decode cX5_readRegister 87 = .ok (.ishl, 1) := by decide +kernel
theorem dX5_readRegister_88 : decode cX5_readRegister 88 = .ok (.ior, 1) := by decide +kernel
theorem dX5_readRegister_89 : decode cX5_readRegister 89 = .ok (.putfield 28, 3) := by decide +kernel
theorem dX5_readRegister_92 : decode cX5_readRegister 92 = .ok (.aload_n 0, 1) := by decide +kernel
theorem dX5_readRegister_93 : decode cX5_readRegister 93 = .ok (.getfield 12, 3) := by decide +kernel
theorem dX5_readRegister_96 : decode cX5_readRegister 96 = .ok (.iload_n 2, 1) := by decide +kernel
theorem dX5_readRegister_97 : decode cX5_readRegister 97 = .ok (.iload_n 3, 1) := by decide +kernel
theorem dX5_readRegister_98 : decode cX5_readRegister 98 = .ok (.iload 4, 2) := by decide +kernel
theorem dX5_readRegister_100 : decode cX5_readRegister 100 = .ok (.invokevirtual 85, 3) := by decide +kernel
theorem dX5_readRegister_103 : decode cX5_readRegister 103 = .ok (.aload_n 0, 1) := by decide +kernel
theorem dX5_readRegister_104 : decode cX5_readRegister 104 = .ok (.dup, 1) := by decide +kernel
theorem dX5_readRegister_105 : decode cX5_readRegister 105 = .ok (.getfield 18, 3) := by decide +kernel
theorem dX5_readRegister_108 : decode cX5_readRegister 108 = .ok (.iconst 5, 1) := by decide +kernel
theorem dX5_readRegister_109 : decode cX5_readRegister 109 = .ok (.iadd, 1) := by decide +kernel
theorem dX5_readRegister_110 : decode cX5_readRegister 110 = .ok (.putfield 18, 3) := by decide +kernel
theorem dX5_readRegister_113 : decode cX5_readRegister 113 = .ok (.return_, 1) := by decide +kernel
theorem dX5_readOutput_0 : decode cX5_readOutput 0 = .ok (.aload_n 0, 1) := by decide +kernel
theorem dX5_readOutput_1 : decode cX5_readOutput 1 = .ok (.aload_n 1, 1) := by decide +kernel
theorem dX5_readOutput_2 : decode cX5_readOutput 2 = .ok (.iconst 1, 1) := by decide +kernel
theorem dX5_readOutput_3 : decode cX5_readOutput 3 = .ok (.invokevirtual 54, 3) := by decide +kernel
theorem dX5_readOutput_6 : decode cX5_readOutput 6 = .ok (.istore_n 2, 1) := by decide +kernel
theorem dX5_readOutput_7 : decode cX5_readOutput 7 = .ok (.iload_n 2, 1) := by decide +kernel
theorem dX5_readOutput_8 : decode cX5_readOutput 8 = .ok (.ifCond .lt 12, 3) := by decide +kernel
theorem dX5_readOutput_11 : decode cX5_readOutput 11 = .ok (.aload_n 0, 1) := by decide +kernel
theorem dX5_readOutput_12 : decode cX5_readOutput 12 = .ok (.aload_n 1, 1) := by decide +kernel
theorem dX5_readOutput_13 : decode cX5_readOutput 13 = .ok (.iconst 2, 1) := by decide +kernel
theorem dX5_readOutput_14 : decode cX5_readOutput 14 = .ok (.invokevirtual 65, 3) := by decide +kernel
theorem dX5_readOutput_17 : decode cX5_readOutput 17 = .ok (.ifCond .ne 11, 3) := by decide +kernel
theorem dX5_readOutput_20 : decode cX5_readOutput 20 = .ok (.aload_n 0, 1) := by decide +kernel
theorem dX5_readOutput_21 : decode cX5_readOutput 21 = .ok (.iconst 1, 1) := by decide +kernel
theorem dX5_readOutput_22 : decode cX5_readOutput 22 = .ok (.putfield 22, 3) := by decide +kernel
theorem dX5_readOutput_25 : decode cX5_readOutput 25 = .ok (.goto 52, 3) := by decide +kernel
theorem dX5_readOutput_28 : decode cX5_readOutput 28 = .ok (.aload_n 0, 1) := by decide +kernel
theorem dX5_readOutput_29 : decode cX5_readOutput 29 = .ok (.getfield 28, 3) := by decide +kernel
theorem dX5_readOutput_32 : decode cX5_readOutput 32 = .ok (.iconst 4, 1) := by decide +kernel
theorem dX5_readOutput_33 : decode cX5_readOutput 33 = .ok (.invokestatic 81, 3) := by decide +kernel
theorem dX5_readOutput_36 : decode cX5_readOutput 36 = .ok (.iconst 1, 1) := by decide +kernel
theorem dX5_readOutput_37 : decode cX5_readOutput 37 = .ok (.if_icmp .ne 11, 3) := by decide +kernel
theorem dX5_readOutput_40 : decode cX5_readOutput 40 = .ok (.aload_n 0, 1) := by decide +kernel
theorem dX5_readOutput_41 : decode cX5_readOutput 41 = .ok (.iconst 4, 1) := by decide +kernel
theorem dX5_readOutput_42 : decode cX5_readOutput 42 = .ok (.putfield 22, 3) := by decide +kernel
theorem dX5_readOutput_45 : decode cX5_readOutput 45 = .ok (.goto 32, 3) := by decide +kernel
theorem dX5_readOutput_48 : decode cX5_readOutput 48 = .ok (.aload_n 0, 1) := by decide +kernel
theorem dX5_readOutput_49 : decode cX5_readOutput 49 = .ok (.dup, 1) := by decide +kernel
theorem dX5_readOutput_50 : decode cX5_readOutput 50 = .ok (.getfield 28, 3) := by decide +kernel
theorem dX5_readOutput_53 : decode cX5_readOutput 53 = .ok (.bipush 16, 2) := by decide +kernel
theorem dX5_readOutput_55 : decode cX5_readOutput 55 = .ok (.ior, 1) := by decide +kernel
theorem dX5_readOutput_56 : decode cX5_readOutput 56 = .ok (.putfield 28, 3) := by decide +kernel
theorem dX5_readOutput_59 : decode cX5_readOutput 59 = .ok (.aload_n 0, 1) := by decide +kernel
theorem dX5_readOutput_60 : decode cX5_readOutput 60 = .ok (.getfield 12, 3) := by decide +kernel
theorem dX5_readOutput_63 : decode cX5_readOutput 63 = .ok (.iload_n 2, 1) := by decide +kernel
theorem dX5_readOutput_64 : decode cX5_readOutput 64 = .ok (.invokevirtual 89, 3) := by decide +kernel
theorem dX5_readOutput_67 : decode cX5_readOutput 67 = .ok (.aload_n 0, 1) := by decide +kernel
theorem dX5_readOutput_68 : decode cX5_readOutput 68 = .ok (.dup, 1) := by decide +kernel
theorem dX5_readOutput_69 : decode cX5_readOutput 69 = .ok (.getfield 18, 3) := by decide +kernel
theorem dX5_readOutput_72 : decode cX5_readOutput 72 = .ok (.iconst 3, 1) := by decide +kernel
theorem dX5_readOutput_73 : decode cX5_readOutput 73 = .ok (.iadd, 1) := by decide +kernel
theorem dX5_readOutput_74 : decode cX5_readOutput 74 = .ok (.putfield 18, 3) := by decide +kernel
theorem dX5_readOutput_77 : decode cX5_readOutput 77 = .ok (.return_, 1) := by decide +kernel
theorem dX5_partEndsAt_0 : decode cX5_partEndsAt 0 = .ok (.aload_n 1, 1) := by decide +kernel
theorem dX5_partEndsAt_1 : decode cX5_partEndsAt 1 = .ok (.aload_n 0, 1) := by decide +kernel
theorem dX5_partEndsAt_2 : decode cX5_partEndsAt 2 = .ok (.getfield 18, 3) := by decide +kernel
theorem dX5_partEndsAt_5 : decode cX5_partEndsAt 5 = .ok (.iload_n 2, 1) := by decide +kernel
theorem dX5_partEndsAt_6 : decode cX5_partEndsAt 6 = .ok (.iadd, 1) := by decide +kernel
theorem dX5_partEndsAt_7 : decode cX5_partEndsAt 7 = .ok (.invokevirtual 41, 3) := by decide +kernel
theorem dX5_partEndsAt_10 : decode cX5_partEndsAt 10 = .ok (.bipush 59, 2) := by decide +kernel
theorem dX5_partEndsAt_12 : decode cX5_partEndsAt 12 = .ok (.if_icmp .ne 7, 3) := by decide +kernel
theorem dX5_partEndsAt_15 : decode cX5_partEndsAt 15 = .ok (.iconst 1, 1) := by decide +kernel
theorem dX5_partEndsAt_16 : decode cX5_partEndsAt 16 = .ok (.goto 4, 3) := by decide +kernel
theorem dX5_partEndsAt_19 : decode cX5_partEndsAt 19 = .ok (.iconst 0, 1) := by decide +kernel
theorem dX5_partEndsAt_20 : decode cX5_partEndsAt 20 = .ok (.ireturn, 1) := by decide +kernel
theorem dX5_digitAt_0 : decode cX5_digitAt 0 = .ok (.aload_n 1, 1) := by decide +kernel
theorem dX5_digitAt_1 : decode cX5_digitAt 1 = .ok (.aload_n 0, 1) := by decide +kernel
theorem dX5_digitAt_2 : decode cX5_digitAt 2 = .ok (.getfield 18, 3) := by decide +kernel
theorem dX5_digitAt_5 : decode cX5_digitAt 5 = .ok (.iload_n 2, 1) := by decide +kernel
theorem dX5_digitAt_6 : decode cX5_digitAt 6 = .ok (.iadd, 1) := by decide +kernel
theorem dX5_digitAt_7 : decode cX5_digitAt 7 = .ok (.invokevirtual 41, 3) := by decide +kernel
theorem dX5_digitAt_10 : decode cX5_digitAt 10 = .ok (.istore_n 3, 1) := by decide +kernel
theorem dX5_digitAt_11 : decode cX5_digitAt 11 = .ok (.iload_n 3, 1) := by decide +kernel
theorem dX5_digitAt_12 : decode cX5_digitAt 12 = .ok (.bipush 48, 2) := by decide +kernel
theorem dX5_digitAt_14 : decode cX5_digitAt 14 = .ok (.bipush 57, 2) := by decide +kernel
theorem dX5_digitAt_16 : decode cX5_digitAt 16 = .ok (.invokestatic 61, 3) := by decide +kernel
theorem dX5_digitAt_19 : decode cX5_digitAt 19 = .ok (.ifCond .eq 8, 3) := by decide +kernel
theorem dX5_digitAt_22 : decode cX5_digitAt 22 = .ok (.iload_n 3, 1) := by decide +kernel
theorem dX5_digitAt_23 : decode cX5_digitAt 23 = .ok (.bipush 48, 2) := by decide +kernel
theorem dX5_digitAt_25 : decode cX5_digitAt 25 = .ok (.isub, 1) := by decide +kernel
theorem dX5_digitAt_26 : decode cX5_digitAt 26 = .ok (.ireturn, 1) := by decide +kernel
theorem dX5_digitAt_27 : decode cX5_digitAt 27 = .ok (.iload_n 3, 1) := by decide +kernel
theorem dX5_digitAt_28 : decode cX5_digitAt 28 = .ok (.bipush 97, 2) := by decide +kernel
theorem dX5_digitAt_30 : decode cX5_digitAt 30 = .ok (.bipush 102, 2) := by decide +kernel
theorem dX5_digitAt_32 : decode cX5_digitAt 32 = .ok (.invokestatic 61, 3) := by decide +kernel
theorem dX5_digitAt_35 : decode cX5_digitAt 35 = .ok (.ifCond .eq 13, 3) := by decide +kernel
theorem dX5_digitAt_38 : decode cX5_digitAt 38 = .ok (.iload_n 3, 1) := by decide +kernel
theorem dX5_digitAt_39 : decode cX5_digitAt 39 = .ok (.bipush 97, 2) := by decide +kernel
theorem dX5_digitAt_41 : decode cX5_digitAt 41 = .ok (.isub, 1) := by decide +kernel
theorem dX5_digitAt_42 : decode cX5_digitAt 42 = .ok (.bipush 10, 2) := by decide +kernel
theorem dX5_digitAt_44 : decode cX5_digitAt 44 = .ok (.iadd, 1) := by decide +kernel
theorem dX5_digitAt_45 : decode cX5_digitAt 45 = .ok (.goto 4, 3) := by decide +kernel
theorem dX5_digitAt_48 : decode cX5_digitAt 48 = .ok (.iconst (-1), 1) := by decide +kernel
theorem dX5_digitAt_49 : decode cX5_digitAt 49 = .ok (.ireturn, 1) := by decide +kernel
theorem dX6_init_0 : decode cX6_init 0 = .ok (.aload_n 0, 1) := by decide +kernel
theorem dX6_init_1 : decode cX6_init 1 = .ok (.invokespecial 1, 3) := by decide +kernel
theorem dX6_init_4 : decode cX6_init 4 = .ok (.aload_n 0, 1) := by decide +kernel
theorem dX6_init_5 : decode cX6_init 5 = .ok (.iload_n 1, 1) := by decide +kernel
theorem dX6_init_6 : decode cX6_init 6 = .ok (.ifCond .ge 7, 3) := by decide +kernel
theorem dX6_init_9 : decode cX6_init 9 = .ok (.iconst 0, 1) := by decide +kernel
theorem dX6_init_10 : decode cX6_init 10 = .ok (.goto 4, 3) := by decide +kernel
theorem dX6_init_13 : decode cX6_init 13 = .ok (.iload_n 1, 1) := by decide +kernel
theorem dX6_init_14 : decode cX6_init 14 = .ok (.newarray .int, 2) := by decide +kernel
theorem dX6_init_16 : decode cX6_init 16 = .ok (.putfield 7, 3) := by decide +kernel
theorem dX6_init_19 : decode cX6_init 19 = .ok (.return_, 1) := by decide +kernel
theorem dX6_get_0 : decode cX6_get 0 = .ok (.iload_n 1, 1) := by decide +kernel
theorem dX6_get_1 : decode cX6_get 1 = .ok (.ifCond .lt 21, 3) := by decide +kernel
theorem dX6_get_4 : decode cX6_get 4 = .ok (.iload_n 1, 1) := by decide +kernel
theorem dX6_get_5 : decode cX6_get 5 = .ok (.aload_n 0, 1) := by decide +kernel
theorem dX6_get_6 : decode cX6_get 6 = .ok (.getfield 7, 3) := by decide +kernel
theorem dX6_get_9 : decode cX6_get 9 = .ok (.arraylength, 1) := by decide +kernel
theorem dX6_get_10 : decode cX6_get 10 = .ok (.if_icmp .ge 12, 3) := by decide +kernel
theorem dX6_get_13 : decode cX6_get 13 = .ok (.aload_n 0, 1) := by decide +kernel
theorem dX6_get_14 : decode cX6_get 14 = .ok (.getfield 7, 3) := by decide +kernel
theorem dX6_get_17 : decode cX6_get 17 = .ok (.iload_n 1, 1) := by decide +kernel
theorem dX6_get_18 : decode cX6_get 18 = .ok (.iaload, 1) := by decide +kernel
theorem dX6_get_19 : decode cX6_get 19 = .ok (.goto 4, 3) := by decide +kernel
theorem dX6_get_22 : decode cX6_get 22 = .ok (.iconst 0, 1) := by decide +kernel
theorem dX6_get_23 : decode cX6_get 23 = .ok (.ireturn, 1) := by decide +kernel
theorem dX6_set_0 : decode cX6_set 0 = .ok (.iload_n 1, 1) := by decide +kernel
theorem dX6_set_1 : decode cX6_set 1 = .ok (.ifCond .lt 19, 3) := by decide +kernel
theorem dX6_set_4 : decode cX6_set 4 = .ok (.iload_n 1, 1) := by decide +kernel
theorem dX6_set_5 : decode cX6_set 5 = .ok (.aload_n 0, 1) := by decide +kernel
theorem dX6_set_6 : decode cX6_set 6 = .ok (.getfield 7, 3) := by decide +kernel
theorem dX6_set_9 : decode cX6_set 9 = .ok (.arraylength, 1) := by decide +kernel
theorem dX6_set_10 : decode cX6_set 10 = .ok (.if_icmp .ge 10, 3) := by decide +kernel
theorem dX6_set_13 : decode cX6_set 13 = .ok (.aload_n 0, 1) := by decide +kernel
theorem dX6_set_14 : decode cX6_set 14 = .ok (.getfield 7, 3) := by decide +kernel
theorem dX6_set_17 : decode cX6_set 17 = .ok (.iload_n 1, 1) := by decide +kernel
theorem dX6_set_18 : decode cX6_set 18 = .ok (.iload_n 2, 1) := by decide +kernel
theorem dX6_set_19 : decode cX6_set 19 = .ok (.iastore, 1) := by decide +kernel
theorem dX6_set_20 : decode cX6_set 20 = .ok (.return_, 1) := by decide +kernel
theorem dX6_clear_0 : decode cX6_clear 0 = .ok (.aload_n 0, 1) := by decide +kernel
theorem dX6_clear_1 : decode cX6_clear 1 = .ok (.getfield 7, 3) := by decide +kernel
theorem dX6_clear_4 : decode cX6_clear 4 = .ok (.iconst 0, 1) := by decide +kernel
theorem dX6_clear_5 : decode cX6_clear 5 = .ok (.invokestatic 13, 3) := by decide +kernel
theorem dX6_clear_8 : decode cX6_clear 8 = .ok (.return_, 1) := by decide +kernel
theorem dX7_init_0 : decode cX7_init 0 = .ok (.aload_n 0, 1) := by decide +kernel
theorem dX7_init_1 : decode cX7_init 1 = .ok (.invokespecial 3, 3) := by decide +kernel
theorem dX7_init_4 : decode cX7_init 4 = .ok (.aload_n 0, 1) := by decide +kernel
theorem dX7_init_5 : decode cX7_init 5 = .ok (.new 9, 3) := by decide +kernel
theorem dX7_init_8 : decode cX7_init 8 = .ok (.dup, 1) := by decide +kernel
theorem dX7_init_9 : decode cX7_init 9 = .ok (.bipush 64, 2) := by decide +kernel
theorem dX7_init_11 : decode cX7_init 11 = .ok (.invokespecial 11, 3) := by decide +kernel
theorem dX7_init_14 : decode cX7_init 14 = .ok (.putfield 14, 3) := by decide +kernel
theorem dX7_init_17 : decode cX7_init 17 = .ok (.aload_n 0, 1) := by decide +kernel
theorem dX7_init_18 : decode cX7_init 18 = .ok (.new 9, 3) := by decide +kernel
theorem dX7_init_21 : decode cX7_init 21 = .ok (.dup, 1) := by decide +kernel
theorem dX7_init_22 : decode cX7_init 22 = .ok (.bipush 16, 2) := by decide +kernel
theorem dX7_init_24 : decode cX7_init 24 = .ok (.invokespecial 11, 3) := by decide +kernel
theorem dX7_init_27 : decode cX7_init 27 = .ok (.putfield 20, 3) := by decide +kernel
theorem dX7_init_30 : decode cX7_init 30 = .ok (.return_, 1) := by decide +kernel
theorem dX7_fillFrom_0 : decode cX7_fillFrom 0 = .ok (.aload_n 0, 1) := by decide +kernel
theorem dX7_fillFrom_1 : decode cX7_fillFrom 1 = .ok (.aload_n 1, 1) := by decide +kernel
theorem dX7_fillFrom_2 : decode cX7_fillFrom 2 = .ok (.invokevirtual 23, 3) := by decide +kernel
theorem dX7_fillFrom_5 : decode cX7_fillFrom 5 = .ok (.putfield 29, 3) := by decide +kernel
theorem dX7_fillFrom_8 : decode cX7_fillFrom 8 = .ok (.iconst 0, 1) := by decide +kernel
theorem dX7_fillFrom_9 : decode cX7_fillFrom 9 = .ok (.istore_n 2, 1) := by decide +kernel
theorem dX7_fillFrom_10 : decode cX7_fillFrom 10 = .ok (.iload_n 2, 1) := by decide +kernel
theorem dX7_fillFrom_11 : decode cX7_fillFrom 11 = .ok (.bipush 16, 2) := by decide +kernel
theorem dX7_fillFrom_13 : decode cX7_fillFrom 13 = .ok (.if_icmp .ge 78, 3) := by decide +kernel
theorem dX7_fillFrom_16 : decode cX7_fillFrom 16 = .ok (.iconst 0, 1) := by decide +kernel
theorem dX7_fillFrom_17 : decode cX7_fillFrom 17 = .ok (.istore_n 3, 1) := by decide +kernel
theorem dX7_fillFrom_18 : decode cX7_fillFrom 18 = .ok (.iconst 0, 1) := by decide +kernel
theorem dX7_fillFrom_19 : decode cX7_fillFrom 19 = .ok (.istore 4, 2) := by decide +kernel
theorem dX7_fillFrom_21 : decode cX7_fillFrom 21 = .ok (.iload 4, 2) := by decide +kernel
theorem dX7_fillFrom_23 : decode cX7_fillFrom 23 = .ok (.iconst 4, 1) := by decide +kernel
theorem dX7_fillFrom_24 : decode cX7_fillFrom 24 = .ok (.if_icmp .ge 52, 3) := by decide +kernel
theorem dX7_fillFrom_27 : decode cX7_fillFrom 27 = .ok (.aload_n 1, 1) := by decide +kernel
theorem dX7_fillFrom_28 : decode cX7_fillFrom 28 = .ok (.iload_n 2, 1) := by decide +kernel
theorem dX7_fillFrom_29 : decode cX7_fillFrom 29 = .ok (.iload 4, 2) := by decide +kernel
theorem dX7_fillFrom_31 : decode cX7_fillFrom 31 = .ok (.invokevirtual 32, 3) := by decide +kernel
theorem dX7_fillFrom_34 : decode cX7_fillFrom 34 = .ok (.istore 5, 2) := by decide +kernel
theorem dX7_fillFrom_36 : decode cX7_fillFrom 36 = .ok (.iload_n 3, 1) := by decide +kernel
theorem dX7_fillFrom_37 : decode cX7_fillFrom 37 = .ok (.iload 5, 2) := by decide +kernel
theorem dX7_fillFrom_39 : decode cX7_fillFrom 39 = .ok (.aload_n 1, 1) := by decide +kernel
theorem dX7_fillFrom_40 : decode cX7_fillFrom 40 = .ok (.invokevirtual 36, 3) := by decide +kernel
theorem dX7_fillFrom_43 : decode cX7_fillFrom 43 = .ok (.invokestatic 39, 3) := by decide +kernel
theorem dX7_fillFrom_46 : decode cX7_fillFrom 46 = .ok (.iload 4, 2) := by decide +kernel
theorem dX7_fillFrom_48 : decode cX7_fillFrom 48 = .ok (.ishl, 1) := by decide +kernel
theorem dX7_fillFrom_49 : decode cX7_fillFrom 49 = .ok (.ior, 1) := by decide +kernel
theorem dX7_fillFrom_50 : decode cX7_fillFrom 50 = .ok (.istore_n 3, 1) := by decide +kernel
theorem dX7_fillFrom_51 : decode cX7_fillFrom 51 = .ok (.aload_n 0, 1) := by decide +kernel
theorem dX7_fillFrom_52 : decode cX7_fillFrom 52 = .ok (.getfield 14, 3) := by decide +kernel
theorem dX7_fillFrom_55 : decode cX7_fillFrom 55 = .ok (.iload_n 2, 1) := by decide +kernel
theorem dX7_fillFrom_56 : decode cX7_fillFrom 56 = .ok (.iconst 4, 1) := by decide +kernel
theorem dX7_fillFrom_57 : decode cX7_fillFrom 57 = .ok (.imul, 1) := by decide +kernel
theorem dX7_fillFrom_58 : decode cX7_fillFrom 58 = .ok (.iload 4, 2) := by decide +kernel
theorem dX7_fillFrom_60 : decode cX7_fillFrom 60 = .ok (.iadd, 1) := by decide +kernel
theorem dX7_fillFrom_61 : decode cX7_fillFrom 61 = .ok (.aload_n 1, 1) := by decide +kernel
theorem dX7_fillFrom_62 : decode cX7_fillFrom 62 = .ok (.iload 5, 2) := by decide +kernel
theorem dX7_fillFrom_64 : decode cX7_fillFrom 64 = .ok (.invokevirtual 42, 3) := by decide +kernel
theorem dX7_fillFrom_67 : decode cX7_fillFrom 67 = .ok (.invokevirtual 46, 3) := by decide +kernel
theorem dX7_fillFrom_70 : decode cX7_fillFrom 70 = .ok (.iinc 4 1, 3) := by decide +kernel
theorem dX7_fillFrom_73 : decode cX7_fillFrom 73 = .ok (.goto (-52), 3) := by decide +kernel
theorem dX7_fillFrom_76 : decode cX7_fillFrom 76 = .ok (.aload_n 0, 1) := by decide +kernel
theorem dX7_fillFrom_77 : decode cX7_fillFrom 77 = .ok (.getfield 20, 3) := by decide +kernel
theorem dX7_fillFrom_80 : decode cX7_fillFrom 80 = .ok (.iload_n 2, 1) := by decide +kernel
theorem dX7_fillFrom_81 : decode cX7_fillFrom 81 = .ok (.iload_n 3, 1) := by decide +kernel
theorem dX7_fillFrom_82 : decode cX7_fillFrom 82 = .ok (.invokevirtual 46, 3) := by decide +kernel
theorem dX7_fillFrom_85 : decode cX7_fillFrom 85 = .ok (.iinc 2 1, 3) := by decide +kernel
theorem dX7_fillFrom_88 : decode cX7_fillFrom 88 = .ok (.goto (-78), 3) := by decide +kernel
theorem dX7_fillFrom_91 : decode cX7_fillFrom 91 = .ok (.return_, 1) := by decide +kernel
theorem dX7_firstState_0 : decode cX7_firstState 0 = .ok (.aload_n 0, 1) := by decide +kernel
theorem dX7_firstState_1 : decode cX7_firstState 1 = .ok (.getfield 29, 3) := by decide +kernel
theorem dX7_firstState_4 : decode cX7_firstState 4 = .ok (.ireturn, 1) := by decide +kernel
theorem dX7_stateBehind_0 : decode cX7_stateBehind 0 = .ok (.aload_n 0, 1) := by decide +kernel
theorem dX7_stateBehind_1 : decode cX7_stateBehind 1 = .ok (.getfield 14, 3) := by decide +kernel
theorem dX7_stateBehind_4 : decode cX7_stateBehind 4 = .ok (.iload_n 1, 1) := by decide +kernel
theorem dX7_stateBehind_5 : decode cX7_stateBehind 5 = .ok (.iconst 4, 1) := by decide +kernel
theorem dX7_stateBehind_6 : decode cX7_stateBehind 6 = .ok (.imul, 1) := by decide +kernel
theorem dX7_stateBehind_7 : decode cX7_stateBehind 7 = .ok (.iload_n 2, 1) := by decide +kernel
theorem dX7_stateBehind_8 : decode cX7_stateBehind 8 = .ok (.iadd, 1) := by decide +kernel
theorem dX7_stateBehind_9 : decode cX7_stateBehind 9 = .ok (.invokevirtual 50, 3) := by decide +kernel
theorem dX7_stateBehind_12 : decode cX7_stateBehind 12 = .ok (.ireturn, 1) := by decide +kernel
theorem dX7_outputSet_0 : decode cX7_outputSet 0 = .ok (.aload_n 0, 1) := by decide +kernel
theorem dX7_outputSet_1 : decode cX7_outputSet 1 = .ok (.getfield 20, 3) := by decide +kernel
theorem dX7_outputSet_4 : decode cX7_outputSet 4 = .ok (.iload_n 1, 1) := by decide +kernel
theorem dX7_outputSet_5 : decode cX7_outputSet 5 = .ok (.invokevirtual 50, 3) := by decide +kernel
theorem dX7_outputSet_8 : decode cX7_outputSet 8 = .ok (.ireturn, 1) := by decide +kernel
theorem dX7_statesComeTo_0 : decode cX7_statesComeTo 0 = .ok (.iconst 1, 1) := by decide +kernel
theorem dX7_statesComeTo_1 : decode cX7_statesComeTo 1 = .ok (.aload_n 0, 1) := by decide +kernel
theorem dX7_statesComeTo_2 : decode cX7_statesComeTo 2 = .ok (.getfield 29, 3) := by decide +kernel
theorem dX7_statesComeTo_5 : decode cX7_statesComeTo 5 = .ok (.ishl, 1) := by decide +kernel
theorem dX7_statesComeTo_6 : decode cX7_statesComeTo 6 = .ok (.istore_n 1, 1) := by decide +kernel
theorem dX7_statesComeTo_7 : decode cX7_statesComeTo 7 = .ok (.iconst 0, 1) := by decide +kernel
theorem dX7_statesComeTo_8 : decode cX7_statesComeTo 8 = .ok (.istore_n 2, 1) := by decide +kernel
theorem dX7_statesComeTo_9 : decode cX7_statesComeTo 9 = .ok (.iload_n 2, 1) := by decide +kernel
theorem dX7_statesComeTo_10 : decode cX7_statesComeTo 10 = .ok (.bipush 16, 2) := by decide +kernel
theorem dX7_statesComeTo_12 : decode cX7_statesComeTo 12 = .ok (.if_icmp .ge 17, 3) := by decide +kernel
theorem dX7_statesComeTo_15 : decode cX7_statesComeTo 15 = .ok (.iload_n 1, 1) := by decide +kernel
theorem dX7_statesComeTo_16 : decode cX7_statesComeTo 16 = .ok (.aload_n 0, 1) := by decide +kernel
theorem dX7_statesComeTo_17 : decode cX7_statesComeTo 17 = .ok (.iload_n 1, 1) := by decide +kernel
theorem dX7_statesComeTo_18 : decode cX7_statesComeTo 18 = .ok (.invokevirtual 53, 3) := by decide +kernel
theorem dX7_statesComeTo_21 : decode cX7_statesComeTo 21 = .ok (.ior, 1) := by decide +kernel
theorem dX7_statesComeTo_22 : decode cX7_statesComeTo 22 = .ok (.istore_n 1, 1) := by decide +kernel
theorem dX7_statesComeTo_23 : decode cX7_statesComeTo 23 = .ok (.iinc 2 1, 3) := by decide +kernel
theorem dX7_statesComeTo_26 : decode cX7_statesComeTo 26 = .ok (.goto (-17), 3) := by decide +kernel
theorem dX7_statesComeTo_29 : decode cX7_statesComeTo 29 = .ok (.iload_n 1, 1) := by decide +kernel
theorem dX7_statesComeTo_30 : decode cX7_statesComeTo 30 = .ok (.ireturn, 1) := by decide +kernel
theorem dX7_statesBehindAny_0 : decode cX7_statesBehindAny 0 = .ok (.iconst 0, 1) := by decide +kernel
theorem dX7_statesBehindAny_1 : decode cX7_statesBehindAny 1 = .ok (.istore_n 2, 1) := by decide +kernel
theorem dX7_statesBehindAny_2 : decode cX7_statesBehindAny 2 = .ok (.iconst 0, 1) := by decide +kernel
theorem dX7_statesBehindAny_3 : decode cX7_statesBehindAny 3 = .ok (.istore_n 3, 1) := by decide +kernel
theorem dX7_statesBehindAny_4 : decode cX7_statesBehindAny 4 = .ok (.iload_n 3, 1) := by decide +kernel
theorem dX7_statesBehindAny_5 : decode cX7_statesBehindAny 5 = .ok (.bipush 16, 2) := by decide +kernel
theorem dX7_statesBehindAny_7 : decode cX7_statesBehindAny 7 = .ok (.if_icmp .ge 45, 3) := by decide +kernel
theorem dX7_statesBehindAny_10 : decode cX7_statesBehindAny 10 = .ok (.iconst 0, 1) := by decide +kernel
theorem dX7_statesBehindAny_11 : decode cX7_statesBehindAny 11 = .ok (.istore 4, 2) := by decide +kernel
theorem dX7_statesBehindAny_13 : decode cX7_statesBehindAny 13 = .ok (.iload 4, 2) := by decide +kernel
theorem dX7_statesBehindAny_15 : decode cX7_statesBehindAny 15 = .ok (.iconst 4, 1) := by decide +kernel
theorem dX7_statesBehindAny_16 : decode cX7_statesBehindAny 16 = .ok (.if_icmp .ge 30, 3) := by decide +kernel
theorem dX7_statesBehindAny_19 : decode cX7_statesBehindAny 19 = .ok (.iload_n 1, 1) := by decide +kernel
theorem dX7_statesBehindAny_20 : decode cX7_statesBehindAny 20 = .ok (.iload_n 3, 1) := by decide +kernel
theorem dX7_statesBehindAny_21 : decode cX7_statesBehindAny 21 = .ok (.invokestatic 39, 3) := by decide +kernel
theorem dX7_statesBehindAny_24 : decode cX7_statesBehindAny 24 = .ok (.iconst 1, 1) := by decide +kernel
theorem dX7_statesBehindAny_25 : decode cX7_statesBehindAny 25 = .ok (.if_icmp .ne 21, 3) := by decide +kernel
theorem dX7_statesBehindAny_28 : decode cX7_statesBehindAny 28 = .ok (.iload_n 2, 1) := by decide +kernel
theorem dX7_statesBehindAny_29 : decode cX7_statesBehindAny 29 = .ok (.iconst 1, 1) := by decide +kernel
theorem dX7_statesBehindAny_30 : decode cX7_statesBehindAny 30 = .ok (.aload_n 0, 1) := by decide +kernel
theorem dX7_statesBehindAny_31 : decode cX7_statesBehindAny 31 = .ok (.iload_n 3, 1) := by decide +kernel
theorem dX7_statesBehindAny_32 : decode cX7_statesBehindAny 32 = .ok (.iload 4, 2) := by decide +kernel
theorem dX7_statesBehindAny_34 : decode cX7_statesBehindAny 34 = .ok (.invokevirtual 56, 3) := by decide +kernel
theorem dX7_statesBehindAny_37 : decode cX7_statesBehindAny 37 = .ok (.ishl, 1) := by decide +kernel
theorem dX7_statesBehindAny_38 : decode cX7_statesBehindAny 38 = .ok (.ior, 1) := by decide +kernel
theorem dX7_statesBehindAny_39 : decode cX7_statesBehindAny 39 = .ok (.istore_n 2, 1) := by decide +kernel
theorem dX7_statesBehindAny_40 : decode cX7_statesBehindAny 40 = .ok (.iinc 4 1, 3) := by decide +kernel
theorem dX7_statesBehindAny_43 : decode cX7_statesBehindAny 43 = .ok (.goto (-30), 3) := by decide +kernel
theorem dX7_statesBehindAny_46 : decode cX7_statesBehindAny 46 = .ok (.iinc 3 1, 3) := by decide +kernel
theorem dX7_statesBehindAny_49 : decode cX7_statesBehindAny 49 = .ok (.goto (-45), 3) := by decide +kernel
theorem dX7_statesBehindAny_52 : decode cX7_statesBehindAny 52 = .ok (.iload_n 2, 1) := by decide +kernel
theorem dX7_statesBehindAny_53 : decode cX7_statesBehindAny 53 = .ok (.ireturn, 1) := by decide +kernel
theorem dX7_steadyRegisters_0 : decode cX7_steadyRegisters 0 = .ok (.iconst 0, 1) := by decide +kernel
theorem dX7_steadyRegisters_1 : decode cX7_steadyRegisters 1 = .ok (.istore_n 2, 1) := by decide +kernel
theorem dX7_steadyRegisters_2 : decode cX7_steadyRegisters 2 = .ok (.iconst 0, 1) := by decide +kernel
theorem dX7_steadyRegisters_3 : decode cX7_steadyRegisters 3 = .ok (.istore_n 3, 1) := by decide +kernel
theorem dX7_steadyRegisters_4 : decode cX7_steadyRegisters 4 = .ok (.iload_n 3, 1) := by decide +kernel
theorem dX7_steadyRegisters_5 : decode cX7_steadyRegisters 5 = .ok (.bipush 16, 2) := by decide +kernel
theorem dX7_steadyRegisters_7 : decode cX7_steadyRegisters 7 = .ok (.if_icmp .ge 27, 3) := by decide +kernel
theorem dX7_steadyRegisters_10 : decode cX7_steadyRegisters 10 = .ok (.iload_n 1, 1) := by decide +kernel
theorem dX7_steadyRegisters_11 : decode cX7_steadyRegisters 11 = .ok (.iload_n 3, 1) := by decide +kernel
theorem dX7_steadyRegisters_12 : decode cX7_steadyRegisters 12 = .ok (.invokestatic 39, 3) := by decide +kernel
theorem dX7_steadyRegisters_15 : decode cX7_steadyRegisters 15 = .ok (.iconst 1, 1) := by decide +kernel
theorem dX7_steadyRegisters_16 : decode cX7_steadyRegisters 16 = .ok (.if_icmp .ne 12, 3) := by decide +kernel
theorem dX7_steadyRegisters_19 : decode cX7_steadyRegisters 19 = .ok (.iload_n 2, 1) := by decide +kernel
theorem dX7_steadyRegisters_20 : decode cX7_steadyRegisters 20 = .ok (.iload_n 3, 1) := by decide +kernel
theorem dX7_steadyRegisters_21 : decode cX7_steadyRegisters 21 = .ok (.aload_n 0, 1) := by decide +kernel
theorem dX7_steadyRegisters_22 : decode cX7_steadyRegisters 22 = .ok (.getfield 29, 3) := by decide +kernel
theorem dX7_steadyRegisters_25 : decode cX7_steadyRegisters 25 = .ok (.ixor, 1) := by decide +kernel
theorem dX7_steadyRegisters_26 : decode cX7_steadyRegisters 26 = .ok (.ior, 1) := by decide +kernel
theorem dX7_steadyRegisters_27 : decode cX7_steadyRegisters 27 = .ok (.istore_n 2, 1) := by decide +kernel
theorem dX7_steadyRegisters_28 : decode cX7_steadyRegisters 28 = .ok (.iinc 3 1, 3) := by decide +kernel
theorem dX7_steadyRegisters_31 : decode cX7_steadyRegisters 31 = .ok (.goto (-27), 3) := by decide +kernel
theorem dX7_steadyRegisters_34 : decode cX7_steadyRegisters 34 = .ok (.bipush 15, 2) := by decide +kernel
theorem dX7_steadyRegisters_36 : decode cX7_steadyRegisters 36 = .ok (.iload_n 2, 1) := by decide +kernel
theorem dX7_steadyRegisters_37 : decode cX7_steadyRegisters 37 = .ok (.iconst (-1), 1) := by decide +kernel
theorem dX7_steadyRegisters_38 : decode cX7_steadyRegisters 38 = .ok (.ixor, 1) := by decide +kernel
theorem dX7_steadyRegisters_39 : decode cX7_steadyRegisters 39 = .ok (.iand, 1) := by decide +kernel
theorem dX7_steadyRegisters_40 : decode cX7_steadyRegisters 40 = .ok (.ireturn, 1) := by decide +kernel
theorem dX8_init_0 : decode cX8_init 0 = .ok (.aload_n 0, 1) := by decide +kernel
theorem dX8_init_1 : decode cX8_init 1 = .ok (.invokespecial 1, 3) := by decide +kernel
theorem dX8_init_4 : decode cX8_init 4 = .ok (.aload_n 0, 1) := by decide +kernel
theorem dX8_init_5 : decode cX8_init 5 = .ok (.new 7, 3) := by decide +kernel
theorem dX8_init_8 : decode cX8_init 8 = .ok (.dup, 1) := by decide +kernel
theorem dX8_init_9 : decode cX8_init 9 = .ok (.bipush 80, 2) := by decide +kernel
theorem dX8_init_11 : decode cX8_init 11 = .ok (.invokespecial 11, 3) := by decide +kernel
theorem dX8_init_14 : decode cX8_init 14 = .ok (.putfield 14, 3) := by decide +kernel
theorem dX8_init_17 : decode cX8_init 17 = .ok (.return_, 1) := by decide +kernel
theorem dX8_length_0 : decode cX8_length 0 = .ok (.aload_n 0, 1) := by decide +kernel
theorem dX8_length_1 : decode cX8_length 1 = .ok (.getfield 18, 3) := by decide +kernel
theorem dX8_length_4 : decode cX8_length 4 = .ok (.ireturn, 1) := by decide +kernel
theorem dX8_append_0 : decode cX8_append 0 = .ok (.aload_n 0, 1) := by decide +kernel
theorem dX8_append_1 : decode cX8_append 1 = .ok (.getfield 18, 3) := by decide +kernel
theorem dX8_append_4 : decode cX8_append 4 = .ok (.bipush 80, 2) := by decide +kernel
theorem dX8_append_6 : decode cX8_append 6 = .ok (.if_icmp .ge 25, 3) := by decide +kernel
theorem dX8_append_9 : decode cX8_append 9 = .ok (.aload_n 0, 1) := by decide +kernel
theorem dX8_append_10 : decode cX8_append 10 = .ok (.getfield 14, 3) := by decide +kernel
theorem dX8_append_13 : decode cX8_append 13 = .ok (.aload_n 0, 1) := by decide +kernel
theorem dX8_append_14 : decode cX8_append 14 = .ok (.getfield 18, 3) := by decide +kernel
theorem dX8_append_17 : decode cX8_append 17 = .ok (.iload_n 1, 1) := by decide +kernel
theorem dX8_append_18 : decode cX8_append 18 = .ok (.invokevirtual 22, 3) := by decide +kernel
theorem dX8_append_21 : decode cX8_append 21 = .ok (.aload_n 0, 1) := by decide +kernel
theorem dX8_append_22 : decode cX8_append 22 = .ok (.dup, 1) := by decide +kernel
theorem dX8_append_23 : decode cX8_append 23 = .ok (.getfield 18, 3) := by decide +kernel
theorem dX8_append_26 : decode cX8_append 26 = .ok (.iconst 1, 1) := by decide +kernel
theorem dX8_append_27 : decode cX8_append 27 = .ok (.iadd, 1) := by decide +kernel
theorem dX8_append_28 : decode cX8_append 28 = .ok (.putfield 18, 3) := by decide +kernel
theorem dX8_append_31 : decode cX8_append 31 = .ok (.return_, 1) := by decide +kernel
theorem dX8_empty_0 : decode cX8_empty 0 = .ok (.aload_n 0, 1) := by decide +kernel
theorem dX8_empty_1 : decode cX8_empty 1 = .ok (.iconst 0, 1) := by decide +kernel
theorem dX8_empty_2 : decode cX8_empty 2 = .ok (.putfield 18, 3) := by decide +kernel
theorem dX8_empty_5 : decode cX8_empty 5 = .ok (.return_, 1) := by decide +kernel
theorem dX8_characterAt_0 : decode cX8_characterAt 0 = .ok (.iload_n 1, 1) := by decide +kernel
theorem dX8_characterAt_1 : decode cX8_characterAt 1 = .ok (.aload_n 0, 1) := by decide +kernel
theorem dX8_characterAt_2 : decode cX8_characterAt 2 = .ok (.getfield 18, 3) := by decide +kernel
theorem dX8_characterAt_5 : decode cX8_characterAt 5 = .ok (.if_icmp .ge 14, 3) := by decide +kernel
theorem dX8_characterAt_8 : decode cX8_characterAt 8 = .ok (.aload_n 0, 1) := by decide +kernel
theorem dX8_characterAt_9 : decode cX8_characterAt 9 = .ok (.getfield 14, 3) := by decide +kernel
theorem dX8_characterAt_12 : decode cX8_characterAt 12 = .ok (.iload_n 1, 1) := by decide +kernel
theorem dX8_characterAt_13 : decode cX8_characterAt 13 = .ok (.invokevirtual 26, 3) := by decide +kernel
theorem dX8_characterAt_16 : decode cX8_characterAt 16 = .ok (.goto 4, 3) := by decide +kernel
theorem dX8_characterAt_19 : decode cX8_characterAt 19 = .ok (.iconst 0, 1) := by decide +kernel
theorem dX8_characterAt_20 : decode cX8_characterAt 20 = .ok (.ireturn, 1) := by decide +kernel
theorem dX9_init_0 : decode cX9_init 0 = .ok (.aload_n 0, 1) := by decide +kernel
theorem dX9_init_1 : decode cX9_init 1 = .ok (.invokespecial 3, 3) := by decide +kernel
theorem dX9_init_4 : decode cX9_init 4 = .ok (.aload_n 0, 1) := by decide +kernel
theorem dX9_init_5 : decode cX9_init 5 = .ok (.new 9, 3) := by decide +kernel
theorem dX9_init_8 : decode cX9_init 8 = .ok (.dup, 1) := by decide +kernel
theorem dX9_init_9 : decode cX9_init 9 = .ok (.invokespecial 11, 3) := by decide +kernel
theorem dX9_init_12 : decode cX9_init 12 = .ok (.putfield 12, 3) := by decide +kernel
theorem dX9_init_15 : decode cX9_init 15 = .ok (.aload_n 0, 1) := by decide +kernel
theorem dX9_init_16 : decode cX9_init 16 = .ok (.new 9, 3) := by decide +kernel
theorem dX9_init_19 : decode cX9_init 19 = .ok (.dup, 1) := by decide +kernel
theorem dX9_init_20 : decode cX9_init 20 = .ok (.invokespecial 11, 3) := by decide +kernel
theorem dX9_init_23 : decode cX9_init 23 = .ok (.putfield 16, 3) := by decide +kernel
theorem dX9_init_26 : decode cX9_init 26 = .ok (.aload_n 0, 1) := by decide +kernel
theorem dX9_init_27 : decode cX9_init 27 = .ok (.new 9, 3) := by decide +kernel
theorem dX9_init_30 : decode cX9_init 30 = .ok (.dup, 1) := by decide +kernel
theorem dX9_init_31 : decode cX9_init 31 = .ok (.invokespecial 11, 3) := by decide +kernel
theorem dX9_init_34 : decode cX9_init 34 = .ok (.putfield 19, 3) := by decide +kernel
theorem dX9_init_37 : decode cX9_init 37 = .ok (.aload_n 0, 1) := by decide +kernel
theorem dX9_init_38 : decode cX9_init 38 = .ok (.new 22, 3) := by decide +kernel
theorem dX9_init_41 : decode cX9_init 41 = .ok (.dup, 1) := by decide +kernel
theorem dX9_init_42 : decode cX9_init 42 = .ok (.invokespecial 24, 3) := by decide +kernel
theorem dX9_init_45 : decode cX9_init 45 = .ok (.putfield 25, 3) := by decide +kernel
theorem dX9_init_48 : decode cX9_init 48 = .ok (.aload_n 0, 1) := by decide +kernel
theorem dX9_init_49 : decode cX9_init 49 = .ok (.new 22, 3) := by decide +kernel
theorem dX9_init_52 : decode cX9_init 52 = .ok (.dup, 1) := by decide +kernel
theorem dX9_init_53 : decode cX9_init 53 = .ok (.invokespecial 24, 3) := by decide +kernel
theorem dX9_init_56 : decode cX9_init 56 = .ok (.putfield 29, 3) := by decide +kernel
theorem dX9_init_59 : decode cX9_init 59 = .ok (.aload_n 0, 1) := by decide +kernel
theorem dX9_init_60 : decode cX9_init 60 = .ok (.new 22, 3) := by decide +kernel
theorem dX9_init_63 : decode cX9_init 63 = .ok (.dup, 1) := by decide +kernel
theorem dX9_init_64 : decode cX9_init 64 = .ok (.invokespecial 24, 3) := by decide +kernel
theorem dX9_init_67 : decode cX9_init 67 = .ok (.putfield 32, 3) := by decide +kernel
theorem dX9_init_70 : decode cX9_init 70 = .ok (.aload_n 0, 1) := by decide +kernel
theorem dX9_init_71 : decode cX9_init 71 = .ok (.new 35, 3) := by decide +kernel
theorem dX9_init_74 : decode cX9_init 74 = .ok (.dup, 1) := by decide +kernel
theorem dX9_init_75 : decode cX9_init 75 = .ok (.invokespecial 37, 3) := by decide +kernel
theorem dX9_init_78 : decode cX9_init 78 = .ok (.putfield 38, 3) := by decide +kernel
theorem dX9_init_81 : decode cX9_init 81 = .ok (.aload_n 0, 1) := by decide +kernel
theorem dX9_init_82 : decode cX9_init 82 = .ok (.new 42, 3) := by decide +kernel
theorem dX9_init_85 : decode cX9_init 85 = .ok (.dup, 1) := by decide +kernel
theorem dX9_init_86 : decode cX9_init 86 = .ok (.invokespecial 44, 3) := by decide +kernel
theorem dX9_init_89 : decode cX9_init 89 = .ok (.putfield 45, 3) := by decide +kernel
theorem dX9_init_92 : decode cX9_init 92 = .ok (.aload_n 0, 1) := by decide +kernel
theorem dX9_init_93 : decode cX9_init 93 = .ok (.new 49, 3) := by decide +kernel
theorem dX9_init_96 : decode cX9_init 96 = .ok (.dup, 1) := by decide +kernel
theorem dX9_init_97 : decode cX9_init 97 = .ok (.invokespecial 51, 3) := by decide +kernel
theorem dX9_init_100 : decode cX9_init 100 = .ok (.putfield 52, 3) := by decide +kernel
theorem dX9_init_103 : decode cX9_init 103 = .ok (.aload_n 0, 1) := by decide +kernel
theorem dX9_init_104 : decode cX9_init 104 = .ok (.new 56, 3) := by decide +kernel
theorem dX9_init_107 : decode cX9_init 107 = .ok (.dup, 1) := by decide +kernel
theorem dX9_init_108 : decode cX9_init 108 = .ok (.invokespecial 58, 3) := by decide +kernel
theorem dX9_init_111 : decode cX9_init 111 = .ok (.putfield 59, 3) := by decide +kernel
theorem dX9_init_114 : decode cX9_init 114 = .ok (.aload_n 0, 1) := by decide +kernel
theorem dX9_init_115 : decode cX9_init 115 = .ok (.new 63, 3) := by decide +kernel
theorem dX9_init_118 : decode cX9_init 118 = .ok (.dup, 1) := by decide +kernel
theorem dX9_init_119 : decode cX9_init 119 = .ok (.invokespecial 65, 3) := by decide +kernel
theorem dX9_init_122 : decode cX9_init 122 = .ok (.putfield 66, 3) := by decide +kernel
theorem dX9_init_125 : decode cX9_init 125 = .ok (.aload_n 0, 1) := by decide +kernel
theorem dX9_init_126 : decode cX9_init 126 = .ok (.new 70, 3) := by decide +kernel
theorem dX9_init_129 : decode cX9_init 129 = .ok (.dup, 1) := by decide +kernel
theorem dX9_init_130 : decode cX9_init 130 = .ok (.invokespecial 72, 3) := by decide +kernel
theorem dX9_init_133 : decode cX9_init 133 = .ok (.putfield 73, 3) := by decide +kernel
theorem dX9_init_136 : decode cX9_init 136 = .ok (.return_, 1) := by decide +kernel
theorem dX9_gate_0 : decode cX9_gate 0 = .ok (.iload_n 1, 1) := by decide +kernel
theorem dX9_gate_1 : decode cX9_gate 1 = .ok (.invokestatic 77, 3) := by decide +kernel
theorem dX9_gate_4 : decode cX9_gate 4 = .ok (.ifCond .eq 12, 3) := by decide +kernel
theorem dX9_gate_7 : decode cX9_gate 7 = .ok (.iload_n 3, 1) := by decide +kernel
theorem dX9_gate_8 : decode cX9_gate 8 = .ok (.iconst 0, 1) := by decide +kernel
theorem dX9_gate_9 : decode cX9_gate 9 = .ok (.iconst 5, 1) := by decide +kernel
theorem dX9_gate_10 : decode cX9_gate 10 = .ok (.invokestatic 81, 3) := by decide +kernel
theorem dX9_gate_13 : decode cX9_gate 13 = .ok (.ifCond .ne 6, 3) := by decide +kernel
theorem dX9_gate_16 : decode cX9_gate 16 = .ok (.ldc 85, 2) := by decide +kernel
theorem dX9_gate_18 : decode cX9_gate 18 = .ok (.ireturn, 1) := by decide +kernel
theorem dX9_gate_19 : decode cX9_gate 19 = .ok (.aload_n 0, 1) := by decide +kernel
theorem dX9_gate_20 : decode cX9_gate 20 = .ok (.iload_n 1, 1) := by decide +kernel
theorem dX9_gate_21 : decode cX9_gate 21 = .ok (.invokevirtual 86, 3) := by decide +kernel
theorem dX9_gate_24 : decode cX9_gate 24 = .ok (.astore 6, 2) := by decide +kernel
theorem dX9_gate_26 : decode cX9_gate 26 = .ok (.iload_n 2, 1) := by decide +kernel
theorem dX9_gate_27 : decode cX9_gate 27 = .ok (.iconst 0, 1) := by decide +kernel
theorem dX9_gate_28 : decode cX9_gate 28 = .ok (.aload 6, 2) := by decide +kernel
theorem dX9_gate_30 : decode cX9_gate 30 = .ok (.invokevirtual 90, 3) := by decide +kernel
theorem dX9_gate_33 : decode cX9_gate 33 = .ok (.invokestatic 81, 3) := by decide +kernel
theorem dX9_gate_36 : decode cX9_gate 36 = .ok (.ifCond .eq 21, 3) := by decide +kernel
theorem dX9_gate_39 : decode cX9_gate 39 = .ok (.iload_n 2, 1) := by decide +kernel
theorem dX9_gate_40 : decode cX9_gate 40 = .ok (.iload 4, 2) := by decide +kernel
theorem dX9_gate_42 : decode cX9_gate 42 = .ok (.invokestatic 94, 3) := by decide +kernel
theorem dX9_gate_45 : decode cX9_gate 45 = .ok (.ifCond .eq 12, 3) := by decide +kernel
theorem dX9_gate_48 : decode cX9_gate 48 = .ok (.iload_n 2, 1) := by decide +kernel
theorem dX9_gate_49 : decode cX9_gate 49 = .ok (.iload 5, 2) := by decide +kernel
theorem dX9_gate_51 : decode cX9_gate 51 = .ok (.invokestatic 94, 3) := by decide +kernel
theorem dX9_gate_54 : decode cX9_gate 54 = .ok (.ifCond .ne 6, 3) := by decide +kernel
theorem dX9_gate_57 : decode cX9_gate 57 = .ok (.ldc 85, 2) := by decide +kernel
theorem dX9_gate_59 : decode cX9_gate 59 = .ok (.ireturn, 1) := by decide +kernel
theorem dX9_gate_60 : decode cX9_gate 60 = .ok (.iload_n 2, 1) := by decide +kernel
theorem dX9_gate_61 : decode cX9_gate 61 = .ok (.bipush 8, 2) := by decide +kernel
theorem dX9_gate_63 : decode cX9_gate 63 = .ok (.if_icmp .lt 6, 3) := by decide +kernel
theorem dX9_gate_66 : decode cX9_gate 66 = .ok (.ldc 98, 2) := by decide +kernel
theorem dX9_gate_68 : decode cX9_gate 68 = .ok (.ireturn, 1) := by decide +kernel
theorem dX9_gate_69 : decode cX9_gate 69 = .ok (.aload_n 0, 1) := by decide +kernel
theorem dX9_gate_70 : decode cX9_gate 70 = .ok (.getfield 59, 3) := by decide +kernel
theorem dX9_gate_73 : decode cX9_gate 73 = .ok (.aload_n 0, 1) := by decide +kernel
theorem dX9_gate_74 : decode cX9_gate 74 = .ok (.getfield 12, 3) := by decide +kernel
theorem dX9_gate_77 : decode cX9_gate 77 = .ok (.aload_n 0, 1) := by decide +kernel
theorem dX9_gate_78 : decode cX9_gate 78 = .ok (.getfield 16, 3) := by decide +kernel
theorem dX9_gate_81 : decode cX9_gate 81 = .ok (.invokevirtual 99, 3) := by decide +kernel
theorem dX9_gate_84 : decode cX9_gate 84 = .ok (.aload 6, 2) := by decide +kernel
theorem dX9_gate_86 : decode cX9_gate 86 = .ok (.iload_n 2, 1) := by decide +kernel
theorem dX9_gate_87 : decode cX9_gate 87 = .ok (.iload_n 3, 1) := by decide +kernel
theorem dX9_gate_88 : decode cX9_gate 88 = .ok (.iload 4, 2) := by decide +kernel
theorem dX9_gate_90 : decode cX9_gate 90 = .ok (.iload 5, 2) := by decide +kernel
theorem dX9_gate_92 : decode cX9_gate 92 = .ok (.invokevirtual 103, 3) := by decide +kernel
theorem dX9_gate_95 : decode cX9_gate 95 = .ok (.aload 6, 2) := by decide +kernel
theorem dX9_gate_97 : decode cX9_gate 97 = .ok (.invokevirtual 90, 3) := by decide +kernel
theorem dX9_gate_100 : decode cX9_gate 100 = .ok (.ireturn, 1) := by decide +kernel
theorem dX9_dropGate_0 : decode cX9_dropGate 0 = .ok (.iload_n 1, 1) := by decide +kernel
theorem dX9_dropGate_1 : decode cX9_dropGate 1 = .ok (.invokestatic 77, 3) := by decide +kernel
theorem dX9_dropGate_4 : decode cX9_dropGate 4 = .ok (.ifCond .ne 6, 3) := by decide +kernel
theorem dX9_dropGate_7 : decode cX9_dropGate 7 = .ok (.ldc 85, 2) := by decide +kernel
theorem dX9_dropGate_9 : decode cX9_dropGate 9 = .ok (.ireturn, 1) := by decide +kernel
theorem dX9_dropGate_10 : decode cX9_dropGate 10 = .ok (.aload_n 0, 1) := by decide +kernel
theorem dX9_dropGate_11 : decode cX9_dropGate 11 = .ok (.iload_n 1, 1) := by decide +kernel
theorem dX9_dropGate_12 : decode cX9_dropGate 12 = .ok (.invokevirtual 86, 3) := by decide +kernel
theorem dX9_dropGate_15 : decode cX9_dropGate 15 = .ok (.astore_n 2, 1) := by decide +kernel
theorem dX9_dropGate_16 : decode cX9_dropGate 16 = .ok (.aload_n 2, 1) := by decide +kernel
theorem dX9_dropGate_17 : decode cX9_dropGate 17 = .ok (.invokevirtual 90, 3) := by decide +kernel
theorem dX9_dropGate_20 : decode cX9_dropGate 20 = .ok (.ifCond .ne 6, 3) := by decide +kernel
theorem dX9_dropGate_23 : decode cX9_dropGate 23 = .ok (.ldc 107, 2) := by decide +kernel
theorem dX9_dropGate_25 : decode cX9_dropGate 25 = .ok (.ireturn, 1) := by decide +kernel
theorem dX9_dropGate_26 : decode cX9_dropGate 26 = .ok (.aload_n 0, 1) := by decide +kernel
theorem dX9_dropGate_27 : decode cX9_dropGate 27 = .ok (.getfield 59, 3) := by decide +kernel
theorem dX9_dropGate_30 : decode cX9_dropGate 30 = .ok (.aload_n 0, 1) := by decide +kernel
theorem dX9_dropGate_31 : decode cX9_dropGate 31 = .ok (.getfield 12, 3) := by decide +kernel
theorem dX9_dropGate_34 : decode cX9_dropGate 34 = .ok (.aload_n 0, 1) := by decide +kernel
theorem dX9_dropGate_35 : decode cX9_dropGate 35 = .ok (.getfield 16, 3) := by decide +kernel
theorem dX9_dropGate_38 : decode cX9_dropGate 38 = .ok (.invokevirtual 99, 3) := by decide +kernel
theorem dX9_dropGate_41 : decode cX9_dropGate 41 = .ok (.aload_n 2, 1) := by decide +kernel
theorem dX9_dropGate_42 : decode cX9_dropGate 42 = .ok (.invokevirtual 108, 3) := by decide +kernel
theorem dX9_dropGate_45 : decode cX9_dropGate 45 = .ok (.aload_n 2, 1) := by decide +kernel
theorem dX9_dropGate_46 : decode cX9_dropGate 46 = .ok (.invokevirtual 90, 3) := by decide +kernel
theorem dX9_dropGate_49 : decode cX9_dropGate 49 = .ok (.ireturn, 1) := by decide +kernel
theorem dX9_register_0 : decode cX9_register 0 = .ok (.iload_n 1, 1) := by decide +kernel
theorem dX9_register_1 : decode cX9_register 1 = .ok (.invokestatic 77, 3) := by decide +kernel
theorem dX9_register_4 : decode cX9_register 4 = .ok (.ifCond .eq 27, 3) := by decide +kernel
theorem dX9_register_7 : decode cX9_register 7 = .ok (.iload_n 2, 1) := by decide +kernel
theorem dX9_register_8 : decode cX9_register 8 = .ok (.invokestatic 111, 3) := by decide +kernel
theorem dX9_register_11 : decode cX9_register 11 = .ok (.ifCond .eq 20, 3) := by decide +kernel
theorem dX9_register_14 : decode cX9_register 14 = .ok (.iload_n 3, 1) := by decide +kernel
theorem dX9_register_15 : decode cX9_register 15 = .ok (.invokestatic 114, 3) := by decide +kernel
theorem dX9_register_18 : decode cX9_register 18 = .ok (.ifCond .eq 13, 3) := by decide +kernel
theorem dX9_register_21 : decode cX9_register 21 = .ok (.iload 4, 2) := by decide +kernel
theorem dX9_register_23 : decode cX9_register 23 = .ok (.iconst 0, 1) := by decide +kernel
theorem dX9_register_24 : decode cX9_register 24 = .ok (.iconst 1, 1) := by decide +kernel
theorem dX9_register_25 : decode cX9_register 25 = .ok (.invokestatic 81, 3) := by decide +kernel
theorem dX9_register_28 : decode cX9_register 28 = .ok (.ifCond .ne 6, 3) := by decide +kernel
theorem dX9_register_31 : decode cX9_register 31 = .ok (.ldc 85, 2) := by decide +kernel
theorem dX9_register_33 : decode cX9_register 33 = .ok (.ireturn, 1) := by decide +kernel
theorem dX9_register_34 : decode cX9_register 34 = .ok (.aload_n 0, 1) := by decide +kernel
theorem dX9_register_35 : decode cX9_register 35 = .ok (.iload_n 1, 1) := by decide +kernel
theorem dX9_register_36 : decode cX9_register 36 = .ok (.invokevirtual 86, 3) := by decide +kernel
theorem dX9_register_39 : decode cX9_register 39 = .ok (.astore 5, 2) := by decide +kernel
theorem dX9_register_41 : decode cX9_register 41 = .ok (.iconst 2, 1) := by decide +kernel
theorem dX9_register_42 : decode cX9_register 42 = .ok (.aload 5, 2) := by decide +kernel
theorem dX9_register_44 : decode cX9_register 44 = .ok (.iload_n 2, 1) := by decide +kernel
theorem dX9_register_45 : decode cX9_register 45 = .ok (.invokevirtual 117, 3) := by decide +kernel
theorem dX9_register_48 : decode cX9_register 48 = .ok (.imul, 1) := by decide +kernel
theorem dX9_register_49 : decode cX9_register 49 = .ok (.aload 5, 2) := by decide +kernel
theorem dX9_register_51 : decode cX9_register 51 = .ok (.iload_n 2, 1) := by decide +kernel
theorem dX9_register_52 : decode cX9_register 52 = .ok (.invokevirtual 121, 3) := by decide +kernel
theorem dX9_register_55 : decode cX9_register 55 = .ok (.iadd, 1) := by decide +kernel
theorem dX9_register_56 : decode cX9_register 56 = .ok (.istore 6, 2) := by decide +kernel
theorem dX9_register_58 : decode cX9_register 58 = .ok (.aload_n 0, 1) := by decide +kernel
theorem dX9_register_59 : decode cX9_register 59 = .ok (.getfield 59, 3) := by decide +kernel
theorem dX9_register_62 : decode cX9_register 62 = .ok (.aload_n 0, 1) := by decide +kernel
theorem dX9_register_63 : decode cX9_register 63 = .ok (.getfield 12, 3) := by decide +kernel
theorem dX9_register_66 : decode cX9_register 66 = .ok (.aload_n 0, 1) := by decide +kernel
theorem dX9_register_67 : decode cX9_register 67 = .ok (.getfield 16, 3) := by decide +kernel
theorem dX9_register_70 : decode cX9_register 70 = .ok (.invokevirtual 99, 3) := by decide +kernel
theorem dX9_register_73 : decode cX9_register 73 = .ok (.aload 5, 2) := by decide +kernel
theorem dX9_register_75 : decode cX9_register 75 = .ok (.iload_n 2, 1) := by decide +kernel
theorem dX9_register_76 : decode cX9_register 76 = .ok (.iload_n 3, 1) := by decide +kernel
theorem dX9_register_77 : decode cX9_register 77 = .ok (.iload 4, 2) := by decide +kernel
theorem dX9_register_79 : decode cX9_register 79 = .ok (.invokevirtual 124, 3) := by decide +kernel
theorem dX9_register_82 : decode cX9_register 82 = .ok (.iload 6, 2) := by decide +kernel
theorem dX9_register_84 : decode cX9_register 84 = .ok (.ireturn, 1) := by decide +kernel
theorem dX9_output_0 : decode cX9_output 0 = .ok (.iload_n 1, 1) := by decide +kernel
theorem dX9_output_1 : decode cX9_output 1 = .ok (.invokestatic 77, 3) := by decide +kernel
theorem dX9_output_4 : decode cX9_output 4 = .ok (.ifCond .eq 10, 3) := by decide +kernel
theorem dX9_output_7 : decode cX9_output 7 = .ok (.iload_n 2, 1) := by decide +kernel
theorem dX9_output_8 : decode cX9_output 8 = .ok (.invokestatic 114, 3) := by decide +kernel
theorem dX9_output_11 : decode cX9_output 11 = .ok (.ifCond .ne 6, 3) := by decide +kernel
theorem dX9_output_14 : decode cX9_output 14 = .ok (.ldc 85, 2) := by decide +kernel
theorem dX9_output_16 : decode cX9_output 16 = .ok (.ireturn, 1) := by decide +kernel
theorem dX9_output_17 : decode cX9_output 17 = .ok (.aload_n 0, 1) := by decide +kernel
theorem dX9_output_18 : decode cX9_output 18 = .ok (.iload_n 1, 1) := by decide +kernel
theorem dX9_output_19 : decode cX9_output 19 = .ok (.invokevirtual 86, 3) := by decide +kernel
theorem dX9_output_22 : decode cX9_output 22 = .ok (.astore_n 3, 1) := by decide +kernel
theorem dX9_output_23 : decode cX9_output 23 = .ok (.aload_n 3, 1) := by decide +kernel
theorem dX9_output_24 : decode cX9_output 24 = .ok (.invokevirtual 128, 3) := by decide +kernel
theorem dX9_output_27 : decode cX9_output 27 = .ok (.istore 4, 2) := by decide +kernel
theorem dX9_output_29 : decode cX9_output 29 = .ok (.aload_n 0, 1) := by decide +kernel
theorem dX9_output_30 : decode cX9_output 30 = .ok (.getfield 59, 3) := by decide +kernel
theorem dX9_output_33 : decode cX9_output 33 = .ok (.aload_n 0, 1) := by decide +kernel
theorem dX9_output_34 : decode cX9_output 34 = .ok (.getfield 12, 3) := by decide +kernel
theorem dX9_output_37 : decode cX9_output 37 = .ok (.aload_n 0, 1) := by decide +kernel
theorem dX9_output_38 : decode cX9_output 38 = .ok (.getfield 16, 3) := by decide +kernel
theorem dX9_output_41 : decode cX9_output 41 = .ok (.invokevirtual 99, 3) := by decide +kernel
theorem dX9_output_44 : decode cX9_output 44 = .ok (.aload_n 3, 1) := by decide +kernel
theorem dX9_output_45 : decode cX9_output 45 = .ok (.iload_n 2, 1) := by decide +kernel
theorem dX9_output_46 : decode cX9_output 46 = .ok (.invokevirtual 131, 3) := by decide +kernel
theorem dX9_output_49 : decode cX9_output 49 = .ok (.iload 4, 2) := by decide +kernel
theorem dX9_output_51 : decode cX9_output 51 = .ok (.ireturn, 1) := by decide +kernel
theorem dX9_copy_0 : decode cX9_copy 0 = .ok (.iload_n 1, 1) := by decide +kernel
theorem dX9_copy_1 : decode cX9_copy 1 = .ok (.invokestatic 77, 3) := by decide +kernel
theorem dX9_copy_4 : decode cX9_copy 4 = .ok (.ifCond .ne 6, 3) := by decide +kernel
theorem dX9_copy_7 : decode cX9_copy 7 = .ok (.ldc 85, 2) := by decide +kernel
theorem dX9_copy_9 : decode cX9_copy 9 = .ok (.ireturn, 1) := by decide +kernel
theorem dX9_copy_10 : decode cX9_copy 10 = .ok (.aload_n 0, 1) := by decide +kernel
theorem dX9_copy_11 : decode cX9_copy 11 = .ok (.iload_n 1, 1) := by decide +kernel
theorem dX9_copy_12 : decode cX9_copy 12 = .ok (.invokevirtual 86, 3) := by decide +kernel
theorem dX9_copy_15 : decode cX9_copy 15 = .ok (.astore_n 2, 1) := by decide +kernel
theorem dX9_copy_16 : decode cX9_copy 16 = .ok (.aload_n 0, 1) := by decide +kernel
theorem dX9_copy_17 : decode cX9_copy 17 = .ok (.getfield 59, 3) := by decide +kernel
theorem dX9_copy_20 : decode cX9_copy 20 = .ok (.aload_n 0, 1) := by decide +kernel
theorem dX9_copy_21 : decode cX9_copy 21 = .ok (.getfield 12, 3) := by decide +kernel
theorem dX9_copy_24 : decode cX9_copy 24 = .ok (.aload_n 0, 1) := by decide +kernel
theorem dX9_copy_25 : decode cX9_copy 25 = .ok (.getfield 16, 3) := by decide +kernel
theorem dX9_copy_28 : decode cX9_copy 28 = .ok (.invokevirtual 99, 3) := by decide +kernel
theorem dX9_copy_31 : decode cX9_copy 31 = .ok (.aload_n 0, 1) := by decide +kernel
theorem dX9_copy_32 : decode cX9_copy 32 = .ok (.iconst 1, 1) := by decide +kernel
theorem dX9_copy_33 : decode cX9_copy 33 = .ok (.iload_n 1, 1) := by decide +kernel
theorem dX9_copy_34 : decode cX9_copy 34 = .ok (.isub, 1) := by decide +kernel
theorem dX9_copy_35 : decode cX9_copy 35 = .ok (.invokevirtual 86, 3) := by decide +kernel
theorem dX9_copy_38 : decode cX9_copy 38 = .ok (.aload_n 2, 1) := by decide +kernel
theorem dX9_copy_39 : decode cX9_copy 39 = .ok (.invokevirtual 135, 3) := by decide +kernel
theorem dX9_copy_42 : decode cX9_copy 42 = .ok (.aload_n 2, 1) := by decide +kernel
theorem dX9_copy_43 : decode cX9_copy 43 = .ok (.invokevirtual 90, 3) := by decide +kernel
theorem dX9_copy_46 : decode cX9_copy 46 = .ok (.ireturn, 1) := by decide +kernel
theorem dX9_circuitOf_0 : decode cX9_circuitOf 0 = .ok (.iload_n 1, 1) := by decide +kernel
theorem dX9_circuitOf_1 : decode cX9_circuitOf 1 = .ok (.invokestatic 77, 3) := by decide +kernel
theorem dX9_circuitOf_4 : decode cX9_circuitOf 4 = .ok (.ifCond .ne 6, 3) := by decide +kernel
theorem dX9_circuitOf_7 : decode cX9_circuitOf 7 = .ok (.ldc 85, 2) := by decide +kernel
theorem dX9_circuitOf_9 : decode cX9_circuitOf 9 = .ok (.ireturn, 1) := by decide +kernel
theorem dX9_circuitOf_10 : decode cX9_circuitOf 10 = .ok (.aload_n 0, 1) := by decide +kernel
theorem dX9_circuitOf_11 : decode cX9_circuitOf 11 = .ok (.iload_n 1, 1) := by decide +kernel
theorem dX9_circuitOf_12 : decode cX9_circuitOf 12 = .ok (.invokevirtual 86, 3) := by decide +kernel
theorem dX9_circuitOf_15 : decode cX9_circuitOf 15 = .ok (.astore_n 3, 1) := by decide +kernel
theorem dX9_circuitOf_16 : decode cX9_circuitOf 16 = .ok (.iload_n 2, 1) := by decide +kernel
theorem dX9_circuitOf_17 : decode cX9_circuitOf 17 = .ok (.iconst 3, 1) := by decide +kernel
theorem dX9_circuitOf_18 : decode cX9_circuitOf 18 = .ok (.iconst 5, 1) := by decide +kernel
theorem dX9_circuitOf_19 : decode cX9_circuitOf 19 = .ok (.invokestatic 81, 3) := by decide +kernel
theorem dX9_circuitOf_22 : decode cX9_circuitOf 22 = .ok (.ifCond .eq 10, 3) := by decide +kernel
theorem dX9_circuitOf_25 : decode cX9_circuitOf 25 = .ok (.aload_n 0, 1) := by decide +kernel
theorem dX9_circuitOf_26 : decode cX9_circuitOf 26 = .ok (.aload_n 3, 1) := by decide +kernel
theorem dX9_circuitOf_27 : decode cX9_circuitOf 27 = .ok (.iload_n 2, 1) := by decide +kernel
theorem dX9_circuitOf_28 : decode cX9_circuitOf 28 = .ok (.invokevirtual 139, 3) := by decide +kernel
theorem dX9_circuitOf_31 : decode cX9_circuitOf 31 = .ok (.ireturn, 1) := by decide +kernel
theorem dX9_circuitOf_32 : decode cX9_circuitOf 32 = .ok (.iload_n 2, 1) := by decide +kernel
theorem dX9_circuitOf_33 : decode cX9_circuitOf 33 = .ok (.iconst 0, 1) := by decide +kernel
theorem dX9_circuitOf_34 : decode cX9_circuitOf 34 = .ok (.bipush 6, 2) := by decide +kernel
theorem dX9_circuitOf_36 : decode cX9_circuitOf 36 = .ok (.invokestatic 81, 3) := by decide +kernel
theorem dX9_circuitOf_39 : decode cX9_circuitOf 39 = .ok (.ifCond .eq 9, 3) := by decide +kernel
theorem dX9_circuitOf_42 : decode cX9_circuitOf 42 = .ok (.aload_n 3, 1) := by decide +kernel
theorem dX9_circuitOf_43 : decode cX9_circuitOf 43 = .ok (.iload_n 2, 1) := by decide +kernel
theorem dX9_circuitOf_44 : decode cX9_circuitOf 44 = .ok (.invokestatic 143, 3) := by decide +kernel
theorem dX9_circuitOf_47 : decode cX9_circuitOf 47 = .ok (.ireturn, 1) := by decide +kernel
theorem dX9_circuitOf_48 : decode cX9_circuitOf 48 = .ok (.iload_n 2, 1) := by decide +kernel
theorem dX9_circuitOf_49 : decode cX9_circuitOf 49 = .ok (.bipush 10, 2) := by decide +kernel
theorem dX9_circuitOf_51 : decode cX9_circuitOf 51 = .ok (.bipush 17, 2) := by decide +kernel
theorem dX9_circuitOf_53 : decode cX9_circuitOf 53 = .ok (.invokestatic 81, 3) := by decide +kernel
theorem dX9_circuitOf_56 : decode cX9_circuitOf 56 = .ok (.ifCond .ne 25, 3) := by decide +kernel
theorem dX9_circuitOf_59 : decode cX9_circuitOf 59 = .ok (.iload_n 2, 1) := by decide +kernel
theorem dX9_circuitOf_60 : decode cX9_circuitOf 60 = .ok (.bipush 20, 2) := by decide +kernel
theorem dX9_circuitOf_62 : decode cX9_circuitOf 62 = .ok (.bipush 27, 2) := by decide +kernel
theorem dX9_circuitOf_64 : decode cX9_circuitOf 64 = .ok (.invokestatic 81, 3) := by decide +kernel
theorem dX9_circuitOf_67 : decode cX9_circuitOf 67 = .ok (.ifCond .ne 14, 3) := by decide +kernel
theorem dX9_circuitOf_70 : decode cX9_circuitOf 70 = .ok (.iload_n 2, 1) := by decide +kernel
theorem dX9_circuitOf_71 : decode cX9_circuitOf 71 = .ok (.bipush 30, 2) := by decide +kernel
theorem dX9_circuitOf_73 : decode cX9_circuitOf 73 = .ok (.bipush 37, 2) := by decide +kernel
theorem dX9_circuitOf_75 : decode cX9_circuitOf 75 = .ok (.invokestatic 81, 3) := by decide +kernel
theorem dX9_circuitOf_78 : decode cX9_circuitOf 78 = .ok (.ifCond .eq 16, 3) := by decide +kernel
theorem dX9_circuitOf_81 : decode cX9_circuitOf 81 = .ok (.aload_n 3, 1) := by decide +kernel
theorem dX9_circuitOf_82 : decode cX9_circuitOf 82 = .ok (.iload_n 2, 1) := by decide +kernel
theorem dX9_circuitOf_83 : decode cX9_circuitOf 83 = .ok (.bipush 10, 2) := by decide +kernel
theorem dX9_circuitOf_85 : decode cX9_circuitOf 85 = .ok (.irem, 1) := by decide +kernel
theorem dX9_circuitOf_86 : decode cX9_circuitOf 86 = .ok (.iload_n 2, 1) := by decide +kernel
theorem dX9_circuitOf_87 : decode cX9_circuitOf 87 = .ok (.bipush 10, 2) := by decide +kernel
theorem dX9_circuitOf_89 : decode cX9_circuitOf 89 = .ok (.idiv, 1) := by decide +kernel
theorem dX9_circuitOf_90 : decode cX9_circuitOf 90 = .ok (.invokestatic 146, 3) := by decide +kernel
theorem dX9_circuitOf_93 : decode cX9_circuitOf 93 = .ok (.ireturn, 1) := by decide +kernel
theorem dX9_circuitOf_94 : decode cX9_circuitOf 94 = .ok (.ldc 85, 2) := by decide +kernel
theorem dX9_circuitOf_96 : decode cX9_circuitOf 96 = .ok (.ireturn, 1) := by decide +kernel
theorem dX9_bit_0 : decode cX9_bit 0 = .ok (.iload_n 1, 1) := by decide +kernel
theorem dX9_bit_1 : decode cX9_bit 1 = .ok (.invokestatic 77, 3) := by decide +kernel
theorem dX9_bit_4 : decode cX9_bit 4 = .ok (.ifCond .eq 25, 3) := by decide +kernel
theorem dX9_bit_7 : decode cX9_bit 7 = .ok (.iload_n 2, 1) := by decide +kernel
theorem dX9_bit_8 : decode cX9_bit 8 = .ok (.invokestatic 150, 3) := by decide +kernel
theorem dX9_bit_11 : decode cX9_bit 11 = .ok (.ifCond .eq 18, 3) := by decide +kernel
theorem dX9_bit_14 : decode cX9_bit 14 = .ok (.iload_n 3, 1) := by decide +kernel
theorem dX9_bit_15 : decode cX9_bit 15 = .ok (.invokestatic 153, 3) := by decide +kernel
theorem dX9_bit_18 : decode cX9_bit 18 = .ok (.ifCond .eq 11, 3) := by decide +kernel
theorem dX9_bit_21 : decode cX9_bit 21 = .ok (.iload 4, 2) := by decide +kernel
theorem dX9_bit_23 : decode cX9_bit 23 = .ok (.invokestatic 114, 3) := by decide +kernel
theorem dX9_bit_26 : decode cX9_bit 26 = .ok (.ifCond .ne 6, 3) := by decide +kernel
theorem dX9_bit_29 : decode cX9_bit 29 = .ok (.ldc 85, 2) := by decide +kernel
theorem dX9_bit_31 : decode cX9_bit 31 = .ok (.ireturn, 1) := by decide +kernel
theorem dX9_bit_32 : decode cX9_bit 32 = .ok (.aload_n 0, 1) := by decide +kernel
theorem dX9_bit_33 : decode cX9_bit 33 = .ok (.iload_n 1, 1) := by decide +kernel
theorem dX9_bit_34 : decode cX9_bit 34 = .ok (.invokevirtual 86, 3) := by decide +kernel
theorem dX9_bit_37 : decode cX9_bit 37 = .ok (.iload_n 2, 1) := by decide +kernel
theorem dX9_bit_38 : decode cX9_bit 38 = .ok (.iload_n 3, 1) := by decide +kernel
theorem dX9_bit_39 : decode cX9_bit 39 = .ok (.invokevirtual 156, 3) := by decide +kernel
theorem dX9_bit_42 : decode cX9_bit 42 = .ok (.iload 4, 2) := by decide +kernel
theorem dX9_bit_44 : decode cX9_bit 44 = .ok (.invokestatic 160, 3) := by decide +kernel
theorem dX9_bit_47 : decode cX9_bit 47 = .ok (.ireturn, 1) := by decide +kernel
theorem dX9_behind_0 : decode cX9_behind 0 = .ok (.iload_n 1, 1) := by decide +kernel
theorem dX9_behind_1 : decode cX9_behind 1 = .ok (.invokestatic 77, 3) := by decide +kernel
theorem dX9_behind_4 : decode cX9_behind 4 = .ok (.ifCond .eq 17, 3) := by decide +kernel
theorem dX9_behind_7 : decode cX9_behind 7 = .ok (.iload_n 2, 1) := by decide +kernel
theorem dX9_behind_8 : decode cX9_behind 8 = .ok (.invokestatic 150, 3) := by decide +kernel
theorem dX9_behind_11 : decode cX9_behind 11 = .ok (.ifCond .eq 10, 3) := by decide +kernel
theorem dX9_behind_14 : decode cX9_behind 14 = .ok (.iload_n 3, 1) := by decide +kernel
theorem dX9_behind_15 : decode cX9_behind 15 = .ok (.invokestatic 153, 3) := by decide +kernel
theorem dX9_behind_18 : decode cX9_behind 18 = .ok (.ifCond .ne 6, 3) := by decide +kernel
theorem dX9_behind_21 : decode cX9_behind 21 = .ok (.ldc 85, 2) := by decide +kernel
theorem dX9_behind_23 : decode cX9_behind 23 = .ok (.ireturn, 1) := by decide +kernel
theorem dX9_behind_24 : decode cX9_behind 24 = .ok (.aload_n 0, 1) := by decide +kernel
theorem dX9_behind_25 : decode cX9_behind 25 = .ok (.iload_n 1, 1) := by decide +kernel
theorem dX9_behind_26 : decode cX9_behind 26 = .ok (.invokevirtual 86, 3) := by decide +kernel
theorem dX9_behind_29 : decode cX9_behind 29 = .ok (.astore 4, 2) := by decide +kernel
theorem dX9_behind_31 : decode cX9_behind 31 = .ok (.aload 4, 2) := by decide +kernel
theorem dX9_behind_33 : decode cX9_behind 33 = .ok (.aload 4, 2) := by decide +kernel
theorem dX9_behind_35 : decode cX9_behind 35 = .ok (.iload_n 2, 1) := by decide +kernel
theorem dX9_behind_36 : decode cX9_behind 36 = .ok (.iload_n 3, 1) := by decide +kernel
theorem dX9_behind_37 : decode cX9_behind 37 = .ok (.invokevirtual 156, 3) := by decide +kernel
theorem dX9_behind_40 : decode cX9_behind 40 = .ok (.invokevirtual 163, 3) := by decide +kernel
theorem dX9_behind_43 : decode cX9_behind 43 = .ok (.ireturn, 1) := by decide +kernel
theorem dX9_run_0 : decode cX9_run 0 = .ok (.iload_n 1, 1) := by decide +kernel
theorem dX9_run_1 : decode cX9_run 1 = .ok (.invokestatic 77, 3) := by decide +kernel
theorem dX9_run_4 : decode cX9_run 4 = .ok (.ifCond .eq 23, 3) := by decide +kernel
theorem dX9_run_7 : decode cX9_run 7 = .ok (.iload_n 3, 1) := by decide +kernel
theorem dX9_run_8 : decode cX9_run 8 = .ok (.iconst 0, 1) := by decide +kernel
theorem dX9_run_9 : decode cX9_run 9 = .ok (.bipush 16, 2) := by decide +kernel
theorem dX9_run_11 : decode cX9_run 11 = .ok (.invokestatic 81, 3) := by decide +kernel
theorem dX9_run_14 : decode cX9_run 14 = .ok (.ifCond .eq 13, 3) := by decide +kernel
theorem dX9_run_17 : decode cX9_run 17 = .ok (.iload 4, 2) := by decide +kernel
theorem dX9_run_19 : decode cX9_run 19 = .ok (.iconst 0, 1) := by decide +kernel
theorem dX9_run_20 : decode cX9_run 20 = .ok (.iconst 1, 1) := by decide +kernel
theorem dX9_run_21 : decode cX9_run 21 = .ok (.invokestatic 81, 3) := by decide +kernel
theorem dX9_run_24 : decode cX9_run 24 = .ok (.ifCond .ne 6, 3) := by decide +kernel
theorem dX9_run_27 : decode cX9_run 27 = .ok (.ldc 85, 2) := by decide +kernel
theorem dX9_run_29 : decode cX9_run 29 = .ok (.ireturn, 1) := by decide +kernel
theorem dX9_run_30 : decode cX9_run 30 = .ok (.aload_n 0, 1) := by decide +kernel
theorem dX9_run_31 : decode cX9_run 31 = .ok (.iload_n 1, 1) := by decide +kernel
theorem dX9_run_32 : decode cX9_run 32 = .ok (.invokevirtual 86, 3) := by decide +kernel
theorem dX9_run_35 : decode cX9_run 35 = .ok (.astore 5, 2) := by decide +kernel
theorem dX9_run_37 : decode cX9_run 37 = .ok (.aload 5, 2) := by decide +kernel
theorem dX9_run_39 : decode cX9_run 39 = .ok (.invokevirtual 166, 3) := by decide +kernel
theorem dX9_run_42 : decode cX9_run 42 = .ok (.istore 6, 2) := by decide +kernel
theorem dX9_run_44 : decode cX9_run 44 = .ok (.iconst 0, 1) := by decide +kernel
theorem dX9_run_45 : decode cX9_run 45 = .ok (.istore 7, 2) := by decide +kernel
theorem dX9_run_47 : decode cX9_run 47 = .ok (.iconst 0, 1) := by decide +kernel
theorem dX9_run_48 : decode cX9_run 48 = .ok (.istore 8, 2) := by decide +kernel
theorem dX9_run_50 : decode cX9_run 50 = .ok (.iload 8, 2) := by decide +kernel
theorem dX9_run_52 : decode cX9_run 52 = .ok (.iload_n 3, 1) := by decide +kernel
theorem dX9_run_53 : decode cX9_run 53 = .ok (.if_icmp .ge 53, 3) := by decide +kernel
theorem dX9_run_56 : decode cX9_run 56 = .ok (.aload 5, 2) := by decide +kernel
theorem dX9_run_58 : decode cX9_run 58 = .ok (.iload 6, 2) := by decide +kernel
theorem dX9_run_60 : decode cX9_run 60 = .ok (.iload_n 2, 1) := by decide +kernel
theorem dX9_run_61 : decode cX9_run 61 = .ok (.iconst 2, 1) := by decide +kernel
theorem dX9_run_62 : decode cX9_run 62 = .ok (.iload 8, 2) := by decide +kernel
theorem dX9_run_64 : decode cX9_run 64 = .ok (.imul, 1) := by decide +kernel
theorem dX9_run_65 : decode cX9_run 65 = .ok (.iushr, 1) := by decide +kernel
theorem dX9_run_66 : decode cX9_run 66 = .ok (.iconst 3, 1) := by decide +kernel
theorem dX9_run_67 : decode cX9_run 67 = .ok (.iand, 1) := by decide +kernel
theorem dX9_run_68 : decode cX9_run 68 = .ok (.invokevirtual 156, 3) := by decide +kernel
theorem dX9_run_71 : decode cX9_run 71 = .ok (.istore 9, 2) := by decide +kernel
theorem dX9_run_73 : decode cX9_run 73 = .ok (.iload 7, 2) := by decide +kernel
theorem dX9_run_75 : decode cX9_run 75 = .ok (.iload 9, 2) := by decide +kernel
theorem dX9_run_77 : decode cX9_run 77 = .ok (.aload 5, 2) := by decide +kernel
theorem dX9_run_79 : decode cX9_run 79 = .ok (.invokevirtual 128, 3) := by decide +kernel
theorem dX9_run_82 : decode cX9_run 82 = .ok (.invokestatic 160, 3) := by decide +kernel
theorem dX9_run_85 : decode cX9_run 85 = .ok (.iload 8, 2) := by decide +kernel
theorem dX9_run_87 : decode cX9_run 87 = .ok (.ishl, 1) := by decide +kernel
theorem dX9_run_88 : decode cX9_run 88 = .ok (.ior, 1) := by decide +kernel
theorem dX9_run_89 : decode cX9_run 89 = .ok (.istore 7, 2) := by decide +kernel
theorem dX9_run_91 : decode cX9_run 91 = .ok (.aload 5, 2) := by decide +kernel
theorem dX9_run_93 : decode cX9_run 93 = .ok (.iload 9, 2) := by decide +kernel
theorem dX9_run_95 : decode cX9_run 95 = .ok (.invokevirtual 163, 3) := by decide +kernel
theorem dX9_run_98 : decode cX9_run 98 = .ok (.istore 6, 2) := by decide +kernel
theorem dX9_run_100 : decode cX9_run 100 = .ok (.iinc 8 1, 3) := by decide +kernel
theorem dX9_run_103 : decode cX9_run 103 = .ok (.goto (-53), 3) := by decide +kernel
theorem dX9_run_106 : decode cX9_run 106 = .ok (.iload 4, 2) := by decide +kernel
theorem dX9_run_108 : decode cX9_run 108 = .ok (.ifCond .ne 8, 3) := by decide +kernel
theorem dX9_run_111 : decode cX9_run 111 = .ok (.iload 6, 2) := by decide +kernel
theorem dX9_run_113 : decode cX9_run 113 = .ok (.goto 5, 3) := by decide +kernel
theorem dX9_run_116 : decode cX9_run 116 = .ok (.iload 7, 2) := by decide +kernel
theorem dX9_run_118 : decode cX9_run 118 = .ok (.ireturn, 1) := by decide +kernel
theorem dX9_share_0 : decode cX9_share 0 = .ok (.iload_n 1, 1) := by decide +kernel
theorem dX9_share_1 : decode cX9_share 1 = .ok (.invokestatic 77, 3) := by decide +kernel
theorem dX9_share_4 : decode cX9_share 4 = .ok (.ifCond .eq 10, 3) := by decide +kernel
theorem dX9_share_7 : decode cX9_share 7 = .ok (.iload_n 2, 1) := by decide +kernel
theorem dX9_share_8 : decode cX9_share 8 = .ok (.invokestatic 153, 3) := by decide +kernel
theorem dX9_share_11 : decode cX9_share 11 = .ok (.ifCond .ne 6, 3) := by decide +kernel
theorem dX9_share_14 : decode cX9_share 14 = .ok (.ldc 85, 2) := by decide +kernel
theorem dX9_share_16 : decode cX9_share 16 = .ok (.ireturn, 1) := by decide +kernel
theorem dX9_share_17 : decode cX9_share 17 = .ok (.aload_n 0, 1) := by decide +kernel
theorem dX9_share_18 : decode cX9_share 18 = .ok (.iload_n 1, 1) := by decide +kernel
theorem dX9_share_19 : decode cX9_share 19 = .ok (.invokevirtual 86, 3) := by decide +kernel
theorem dX9_share_22 : decode cX9_share 22 = .ok (.astore_n 3, 1) := by decide +kernel
theorem dX9_share_23 : decode cX9_share 23 = .ok (.iconst 0, 1) := by decide +kernel
theorem dX9_share_24 : decode cX9_share 24 = .ok (.istore 4, 2) := by decide +kernel
theorem dX9_share_26 : decode cX9_share 26 = .ok (.iconst 0, 1) := by decide +kernel
theorem dX9_share_27 : decode cX9_share 27 = .ok (.istore 5, 2) := by decide +kernel
theorem dX9_share_29 : decode cX9_share 29 = .ok (.iload 5, 2) := by decide +kernel
theorem dX9_share_31 : decode cX9_share 31 = .ok (.bipush 16, 2) := by decide +kernel
theorem dX9_share_33 : decode cX9_share 33 = .ok (.if_icmp .ge 28, 3) := by decide +kernel
theorem dX9_share_36 : decode cX9_share 36 = .ok (.iload 4, 2) := by decide +kernel
theorem dX9_share_38 : decode cX9_share 38 = .ok (.aload_n 3, 1) := by decide +kernel
theorem dX9_share_39 : decode cX9_share 39 = .ok (.iload 5, 2) := by decide +kernel
theorem dX9_share_41 : decode cX9_share 41 = .ok (.iload_n 2, 1) := by decide +kernel
theorem dX9_share_42 : decode cX9_share 42 = .ok (.invokevirtual 156, 3) := by decide +kernel
theorem dX9_share_45 : decode cX9_share 45 = .ok (.aload_n 3, 1) := by decide +kernel
theorem dX9_share_46 : decode cX9_share 46 = .ok (.invokevirtual 128, 3) := by decide +kernel
theorem dX9_share_49 : decode cX9_share 49 = .ok (.invokestatic 160, 3) := by decide +kernel
theorem dX9_share_52 : decode cX9_share 52 = .ok (.iadd, 1) := by decide +kernel
theorem dX9_share_53 : decode cX9_share 53 = .ok (.istore 4, 2) := by decide +kernel
theorem dX9_share_55 : decode cX9_share 55 = .ok (.iinc 5 1, 3) := by decide +kernel
theorem dX9_share_58 : decode cX9_share 58 = .ok (.goto (-29), 3) := by decide +kernel
theorem dX9_share_61 : decode cX9_share 61 = .ok (.iload 4, 2) := by decide +kernel
theorem dX9_share_63 : decode cX9_share 63 = .ok (.invokestatic 169, 3) := by decide +kernel
theorem dX9_share_66 : decode cX9_share 66 = .ok (.ireturn, 1) := by decide +kernel
theorem dX9_pairOf_0 : decode cX9_pairOf 0 = .ok (.iload_n 1, 1) := by decide +kernel
theorem dX9_pairOf_1 : decode cX9_pairOf 1 = .ok (.ifCond .lt 24, 3) := by decide +kernel
theorem dX9_pairOf_4 : decode cX9_pairOf 4 = .ok (.iload_n 2, 1) := by decide +kernel
theorem dX9_pairOf_5 : decode cX9_pairOf 5 = .ok (.iconst 0, 1) := by decide +kernel
theorem dX9_pairOf_6 : decode cX9_pairOf 6 = .ok (.iconst 3, 1) := by decide +kernel
theorem dX9_pairOf_7 : decode cX9_pairOf 7 = .ok (.invokestatic 81, 3) := by decide +kernel
theorem dX9_pairOf_10 : decode cX9_pairOf 10 = .ok (.ifCond .ne 18, 3) := by decide +kernel
theorem dX9_pairOf_13 : decode cX9_pairOf 13 = .ok (.iload_n 2, 1) := by decide +kernel
theorem dX9_pairOf_14 : decode cX9_pairOf 14 = .ok (.bipush 10, 2) := by decide +kernel
theorem dX9_pairOf_16 : decode cX9_pairOf 16 = .ok (.sipush 265, 3) := by decide +kernel
theorem dX9_pairOf_19 : decode cX9_pairOf 19 = .ok (.invokestatic 81, 3) := by decide +kernel
theorem dX9_pairOf_22 : decode cX9_pairOf 22 = .ok (.ifCond .ne 6, 3) := by decide +kernel
theorem dX9_pairOf_25 : decode cX9_pairOf 25 = .ok (.ldc 85, 2) := by decide +kernel
theorem dX9_pairOf_27 : decode cX9_pairOf 27 = .ok (.ireturn, 1) := by decide +kernel
theorem dX9_pairOf_28 : decode cX9_pairOf 28 = .ok (.aload_n 0, 1) := by decide +kernel
theorem dX9_pairOf_29 : decode cX9_pairOf 29 = .ok (.aload_n 0, 1) := by decide +kernel
theorem dX9_pairOf_30 : decode cX9_pairOf 30 = .ok (.getfield 12, 3) := by decide +kernel
theorem dX9_pairOf_33 : decode cX9_pairOf 33 = .ok (.invokevirtual 172, 3) := by decide +kernel
theorem dX9_pairOf_36 : decode cX9_pairOf 36 = .ok (.iload_n 1, 1) := by decide +kernel
theorem dX9_pairOf_37 : decode cX9_pairOf 37 = .ok (.aload_n 0, 1) := by decide +kernel
theorem dX9_pairOf_38 : decode cX9_pairOf 38 = .ok (.getfield 38, 3) := by decide +kernel
theorem dX9_pairOf_41 : decode cX9_pairOf 41 = .ok (.invokevirtual 175, 3) := by decide +kernel
theorem dX9_pairOf_44 : decode cX9_pairOf 44 = .ok (.if_icmp .lt 6, 3) := by decide +kernel
theorem dX9_pairOf_47 : decode cX9_pairOf 47 = .ok (.ldc 178, 2) := by decide +kernel
theorem dX9_pairOf_49 : decode cX9_pairOf 49 = .ok (.ireturn, 1) := by decide +kernel
theorem dX9_pairOf_50 : decode cX9_pairOf 50 = .ok (.iload_n 2, 1) := by decide +kernel
theorem dX9_pairOf_51 : decode cX9_pairOf 51 = .ok (.tableswitch 62 0 3 #[29, 38, 47, 56], 29) := by decide +kernel
theorem dX9_pairOf_80 : decode cX9_pairOf 80 = .ok (.aload_n 0, 1) := by decide +kernel
theorem dX9_pairOf_81 : decode cX9_pairOf 81 = .ok (.getfield 38, 3) := by decide +kernel
theorem dX9_pairOf_84 : decode cX9_pairOf 84 = .ok (.iload_n 1, 1) := by decide +kernel
theorem dX9_pairOf_85 : decode cX9_pairOf 85 = .ok (.invokevirtual 179, 3) := by decide +kernel
theorem dX9_pairOf_88 : decode cX9_pairOf 88 = .ok (.ireturn, 1) := by decide +kernel
theorem dX9_pairOf_89 : decode cX9_pairOf 89 = .ok (.aload_n 0, 1) := by decide +kernel
theorem dX9_pairOf_90 : decode cX9_pairOf 90 = .ok (.getfield 38, 3) := by decide +kernel
theorem dX9_pairOf_93 : decode cX9_pairOf 93 = .ok (.iload_n 1, 1) := by decide +kernel
theorem dX9_pairOf_94 : decode cX9_pairOf 94 = .ok (.invokevirtual 182, 3) := by decide +kernel
theorem dX9_pairOf_97 : decode cX9_pairOf 97 = .ok (.ireturn, 1) := by decide +kernel
theorem dX9_pairOf_98 : decode cX9_pairOf 98 = .ok (.aload_n 0, 1) := by decide +kernel
theorem dX9_pairOf_99 : decode cX9_pairOf 99 = .ok (.getfield 38, 3) := by decide +kernel
theorem dX9_pairOf_102 : decode cX9_pairOf 102 = .ok (.iload_n 1, 1) := by decide +kernel
theorem dX9_pairOf_103 : decode cX9_pairOf 103 = .ok (.invokevirtual 185, 3) := by decide +kernel
theorem dX9_pairOf_106 : decode cX9_pairOf 106 = .ok (.ireturn, 1) := by decide +kernel
theorem dX9_pairOf_107 : decode cX9_pairOf 107 = .ok (.aload_n 0, 1) := by decide +kernel
theorem dX9_pairOf_108 : decode cX9_pairOf 108 = .ok (.iload_n 1, 1) := by decide +kernel
theorem dX9_pairOf_109 : decode cX9_pairOf 109 = .ok (.invokevirtual 188, 3) := by decide +kernel
theorem dX9_pairOf_112 : decode cX9_pairOf 112 = .ok (.ireturn, 1) := by decide +kernel
theorem dX9_pairOf_113 : decode cX9_pairOf 113 = .ok (.iload_n 2, 1) := by decide +kernel
theorem dX9_pairOf_114 : decode cX9_pairOf 114 = .ok (.bipush 10, 2) := by decide +kernel
theorem dX9_pairOf_116 : decode cX9_pairOf 116 = .ok (.isub, 1) := by decide +kernel
theorem dX9_pairOf_117 : decode cX9_pairOf 117 = .ok (.aload_n 0, 1) := by decide +kernel
theorem dX9_pairOf_118 : decode cX9_pairOf 118 = .ok (.getfield 38, 3) := by decide +kernel
theorem dX9_pairOf_121 : decode cX9_pairOf 121 = .ok (.iload_n 1, 1) := by decide +kernel
theorem dX9_pairOf_122 : decode cX9_pairOf 122 = .ok (.invokevirtual 185, 3) := by decide +kernel
theorem dX9_pairOf_125 : decode cX9_pairOf 125 = .ok (.if_icmp .ge 18, 3) := by decide +kernel
theorem dX9_pairOf_128 : decode cX9_pairOf 128 = .ok (.aload_n 0, 1) := by decide +kernel
theorem dX9_pairOf_129 : decode cX9_pairOf 129 = .ok (.getfield 38, 3) := by decide +kernel
theorem dX9_pairOf_132 : decode cX9_pairOf 132 = .ok (.iload_n 1, 1) := by decide +kernel
theorem dX9_pairOf_133 : decode cX9_pairOf 133 = .ok (.iload_n 2, 1) := by decide +kernel
theorem dX9_pairOf_134 : decode cX9_pairOf 134 = .ok (.bipush 10, 2) := by decide +kernel
theorem dX9_pairOf_136 : decode cX9_pairOf 136 = .ok (.isub, 1) := by decide +kernel
theorem dX9_pairOf_137 : decode cX9_pairOf 137 = .ok (.invokevirtual 191, 3) := by decide +kernel
theorem dX9_pairOf_140 : decode cX9_pairOf 140 = .ok (.goto 5, 3) := by decide +kernel
theorem dX9_pairOf_143 : decode cX9_pairOf 143 = .ok (.ldc 178, 2) := by decide +kernel
theorem dX9_pairOf_145 : decode cX9_pairOf 145 = .ok (.ireturn, 1) := by decide +kernel
theorem dX9_pairs_0 : decode cX9_pairs 0 = .ok (.aload_n 0, 1) := by decide +kernel
theorem dX9_pairs_1 : decode cX9_pairs 1 = .ok (.aload_n 0, 1) := by decide +kernel
theorem dX9_pairs_2 : decode cX9_pairs 2 = .ok (.getfield 12, 3) := by decide +kernel
theorem dX9_pairs_5 : decode cX9_pairs 5 = .ok (.invokevirtual 172, 3) := by decide +kernel
theorem dX9_pairs_8 : decode cX9_pairs 8 = .ok (.aload_n 0, 1) := by decide +kernel
theorem dX9_pairs_9 : decode cX9_pairs 9 = .ok (.getfield 38, 3) := by decide +kernel
theorem dX9_pairs_12 : decode cX9_pairs 12 = .ok (.invokevirtual 175, 3) := by decide +kernel
theorem dX9_pairs_15 : decode cX9_pairs 15 = .ok (.ireturn, 1) := by decide +kernel
theorem dX9_apart_0 : decode cX9_apart 0 = .ok (.iload_n 1, 1) := by decide +kernel
theorem dX9_apart_1 : decode cX9_apart 1 = .ok (.iconst (-1), 1) := by decide +kernel
theorem dX9_apart_2 : decode cX9_apart 2 = .ok (.if_icmp .ge 6, 3) := by decide +kernel
theorem dX9_apart_5 : decode cX9_apart 5 = .ok (.ldc 85, 2) := by decide +kernel
theorem dX9_apart_7 : decode cX9_apart 7 = .ok (.ireturn, 1) := by decide +kernel
theorem dX9_apart_8 : decode cX9_apart 8 = .ok (.aload_n 0, 1) := by decide +kernel
theorem dX9_apart_9 : decode cX9_apart 9 = .ok (.aload_n 0, 1) := by decide +kernel
theorem dX9_apart_10 : decode cX9_apart 10 = .ok (.getfield 12, 3) := by decide +kernel
theorem dX9_apart_13 : decode cX9_apart 13 = .ok (.invokevirtual 172, 3) := by decide +kernel
theorem dX9_apart_16 : decode cX9_apart 16 = .ok (.aload_n 0, 1) := by decide +kernel
theorem dX9_apart_17 : decode cX9_apart 17 = .ok (.invokevirtual 194, 3) := by decide +kernel
theorem dX9_apart_20 : decode cX9_apart 20 = .ok (.istore_n 2, 1) := by decide +kernel
theorem dX9_apart_21 : decode cX9_apart 21 = .ok (.iload_n 2, 1) := by decide +kernel
theorem dX9_apart_22 : decode cX9_apart 22 = .ok (.aload_n 0, 1) := by decide +kernel
theorem dX9_apart_23 : decode cX9_apart 23 = .ok (.getfield 38, 3) := by decide +kernel
theorem dX9_apart_26 : decode cX9_apart 26 = .ok (.invokevirtual 175, 3) := by decide +kernel
theorem dX9_apart_29 : decode cX9_apart 29 = .ok (.if_icmp .lt 6, 3) := by decide +kernel
theorem dX9_apart_32 : decode cX9_apart 32 = .ok (.ldc 178, 2) := by decide +kernel
theorem dX9_apart_34 : decode cX9_apart 34 = .ok (.ireturn, 1) := by decide +kernel
theorem dX9_apart_35 : decode cX9_apart 35 = .ok (.aload_n 0, 1) := by decide +kernel
theorem dX9_apart_36 : decode cX9_apart 36 = .ok (.getfield 38, 3) := by decide +kernel
theorem dX9_apart_39 : decode cX9_apart 39 = .ok (.iload_n 2, 1) := by decide +kernel
theorem dX9_apart_40 : decode cX9_apart 40 = .ok (.invokevirtual 185, 3) := by decide +kernel
theorem dX9_apart_43 : decode cX9_apart 43 = .ok (.istore_n 3, 1) := by decide +kernel
theorem dX9_apart_44 : decode cX9_apart 44 = .ok (.iload_n 1, 1) := by decide +kernel
theorem dX9_apart_45 : decode cX9_apart 45 = .ok (.iconst (-1), 1) := by decide +kernel
theorem dX9_apart_46 : decode cX9_apart 46 = .ok (.if_icmp .ne 7, 3) := by decide +kernel
theorem dX9_apart_49 : decode cX9_apart 49 = .ok (.iload_n 3, 1) := by decide +kernel
theorem dX9_apart_50 : decode cX9_apart 50 = .ok (.iconst 1, 1) := by decide +kernel
theorem dX9_apart_51 : decode cX9_apart 51 = .ok (.iadd, 1) := by decide +kernel
theorem dX9_apart_52 : decode cX9_apart 52 = .ok (.ireturn, 1) := by decide +kernel
theorem dX9_apart_53 : decode cX9_apart 53 = .ok (.iload_n 1, 1) := by decide +kernel
theorem dX9_apart_54 : decode cX9_apart 54 = .ok (.iload_n 3, 1) := by decide +kernel
theorem dX9_apart_55 : decode cX9_apart 55 = .ok (.if_icmp .le 6, 3) := by decide +kernel
theorem dX9_apart_58 : decode cX9_apart 58 = .ok (.ldc 178, 2) := by decide +kernel
theorem dX9_apart_60 : decode cX9_apart 60 = .ok (.ireturn, 1) := by decide +kernel
theorem dX9_apart_61 : decode cX9_apart 61 = .ok (.iload_n 1, 1) := by decide +kernel
theorem dX9_apart_62 : decode cX9_apart 62 = .ok (.iload_n 3, 1) := by decide +kernel
theorem dX9_apart_63 : decode cX9_apart 63 = .ok (.if_icmp .ne 14, 3) := by decide +kernel
theorem dX9_apart_66 : decode cX9_apart 66 = .ok (.aload_n 0, 1) := by decide +kernel
theorem dX9_apart_67 : decode cX9_apart 67 = .ok (.iload_n 2, 1) := by decide +kernel
theorem dX9_apart_68 : decode cX9_apart 68 = .ok (.invokevirtual 188, 3) := by decide +kernel
theorem dX9_apart_71 : decode cX9_apart 71 = .ok (.invokestatic 197, 3) := by decide +kernel
theorem dX9_apart_74 : decode cX9_apart 74 = .ok (.goto 12, 3) := by decide +kernel
theorem dX9_apart_77 : decode cX9_apart 77 = .ok (.aload_n 0, 1) := by decide +kernel
theorem dX9_apart_78 : decode cX9_apart 78 = .ok (.getfield 38, 3) := by decide +kernel
theorem dX9_apart_81 : decode cX9_apart 81 = .ok (.iload_n 2, 1) := by decide +kernel
theorem dX9_apart_82 : decode cX9_apart 82 = .ok (.iload_n 1, 1) := by decide +kernel
theorem dX9_apart_83 : decode cX9_apart 83 = .ok (.invokevirtual 191, 3) := by decide +kernel
theorem dX9_apart_86 : decode cX9_apart 86 = .ok (.ireturn, 1) := by decide +kernel
theorem dX9_late_0 : decode cX9_late 0 = .ok (.aload_n 0, 1) := by decide +kernel
theorem dX9_late_1 : decode cX9_late 1 = .ok (.getfield 25, 3) := by decide +kernel
theorem dX9_late_4 : decode cX9_late 4 = .ok (.aload_n 0, 1) := by decide +kernel
theorem dX9_late_5 : decode cX9_late 5 = .ok (.getfield 12, 3) := by decide +kernel
theorem dX9_late_8 : decode cX9_late 8 = .ok (.invokevirtual 200, 3) := by decide +kernel
theorem dX9_late_11 : decode cX9_late 11 = .ok (.aload_n 0, 1) := by decide +kernel
theorem dX9_late_12 : decode cX9_late 12 = .ok (.getfield 29, 3) := by decide +kernel
theorem dX9_late_15 : decode cX9_late 15 = .ok (.aload_n 0, 1) := by decide +kernel
theorem dX9_late_16 : decode cX9_late 16 = .ok (.getfield 16, 3) := by decide +kernel
theorem dX9_late_19 : decode cX9_late 19 = .ok (.invokevirtual 200, 3) := by decide +kernel
theorem dX9_late_22 : decode cX9_late 22 = .ok (.iconst 0, 1) := by decide +kernel
theorem dX9_late_23 : decode cX9_late 23 = .ok (.istore_n 1, 1) := by decide +kernel
theorem dX9_late_24 : decode cX9_late 24 = .ok (.iload_n 1, 1) := by decide +kernel
theorem dX9_late_25 : decode cX9_late 25 = .ok (.iconst 4, 1) := by decide +kernel
theorem dX9_late_26 : decode cX9_late 26 = .ok (.if_icmp .gt 30, 3) := by decide +kernel
theorem dX9_late_29 : decode cX9_late 29 = .ok (.aload_n 0, 1) := by decide +kernel
theorem dX9_late_30 : decode cX9_late 30 = .ok (.getfield 45, 3) := by decide +kernel
theorem dX9_late_33 : decode cX9_late 33 = .ok (.iload_n 1, 1) := by decide +kernel
theorem dX9_late_34 : decode cX9_late 34 = .ok (.aload_n 0, 1) := by decide +kernel
theorem dX9_late_35 : decode cX9_late 35 = .ok (.getfield 25, 3) := by decide +kernel
theorem dX9_late_38 : decode cX9_late 38 = .ok (.aload_n 0, 1) := by decide +kernel
theorem dX9_late_39 : decode cX9_late 39 = .ok (.getfield 29, 3) := by decide +kernel
theorem dX9_late_42 : decode cX9_late 42 = .ok (.invokevirtual 203, 3) := by decide +kernel
theorem dX9_late_45 : decode cX9_late 45 = .ok (.ifCond .eq 5, 3) := by decide +kernel
theorem dX9_late_48 : decode cX9_late 48 = .ok (.iload_n 1, 1) := by decide +kernel
theorem dX9_late_49 : decode cX9_late 49 = .ok (.ireturn, 1) := by decide +kernel
theorem dX9_late_50 : decode cX9_late 50 = .ok (.iinc 1 1, 3) := by decide +kernel
theorem dX9_late_53 : decode cX9_late 53 = .ok (.goto (-29), 3) := by decide +kernel
theorem dX9_late_56 : decode cX9_late 56 = .ok (.ldc 178, 2) := by decide +kernel
theorem dX9_late_58 : decode cX9_late 58 = .ok (.ireturn, 1) := by decide +kernel
theorem dX9_same_0 : decode cX9_same 0 = .ok (.iload_n 1, 1) := by decide +kernel
theorem dX9_same_1 : decode cX9_same 1 = .ok (.invokestatic 111, 3) := by decide +kernel
theorem dX9_same_4 : decode cX9_same 4 = .ok (.ifCond .ne 6, 3) := by decide +kernel
theorem dX9_same_7 : decode cX9_same 7 = .ok (.ldc 85, 2) := by decide +kernel
theorem dX9_same_9 : decode cX9_same 9 = .ok (.ireturn, 1) := by decide +kernel
theorem dX9_same_10 : decode cX9_same 10 = .ok (.aload_n 0, 1) := by decide +kernel
theorem dX9_same_11 : decode cX9_same 11 = .ok (.aload_n 0, 1) := by decide +kernel
theorem dX9_same_12 : decode cX9_same 12 = .ok (.getfield 12, 3) := by decide +kernel
theorem dX9_same_15 : decode cX9_same 15 = .ok (.invokevirtual 172, 3) := by decide +kernel
theorem dX9_same_18 : decode cX9_same 18 = .ok (.iconst 0, 1) := by decide +kernel
theorem dX9_same_19 : decode cX9_same 19 = .ok (.istore_n 2, 1) := by decide +kernel
theorem dX9_same_20 : decode cX9_same 20 = .ok (.iconst 0, 1) := by decide +kernel
theorem dX9_same_21 : decode cX9_same 21 = .ok (.istore_n 3, 1) := by decide +kernel
theorem dX9_same_22 : decode cX9_same 22 = .ok (.iload_n 3, 1) := by decide +kernel
theorem dX9_same_23 : decode cX9_same 23 = .ok (.aload_n 0, 1) := by decide +kernel
theorem dX9_same_24 : decode cX9_same 24 = .ok (.getfield 38, 3) := by decide +kernel
theorem dX9_same_27 : decode cX9_same 27 = .ok (.invokevirtual 175, 3) := by decide +kernel
theorem dX9_same_30 : decode cX9_same 30 = .ok (.if_icmp .ge 54, 3) := by decide +kernel
theorem dX9_same_33 : decode cX9_same 33 = .ok (.iload_n 3, 1) := by decide +kernel
theorem dX9_same_34 : decode cX9_same 34 = .ok (.sipush 256, 3) := by decide +kernel
theorem dX9_same_37 : decode cX9_same 37 = .ok (.if_icmp .ge 47, 3) := by decide +kernel
theorem dX9_same_40 : decode cX9_same 40 = .ok (.aload_n 0, 1) := by decide +kernel
theorem dX9_same_41 : decode cX9_same 41 = .ok (.getfield 38, 3) := by decide +kernel
theorem dX9_same_44 : decode cX9_same 44 = .ok (.iload_n 3, 1) := by decide +kernel
theorem dX9_same_45 : decode cX9_same 45 = .ok (.invokevirtual 179, 3) := by decide +kernel
theorem dX9_same_48 : decode cX9_same 48 = .ok (.iload_n 1, 1) := by decide +kernel
theorem dX9_same_49 : decode cX9_same 49 = .ok (.invokestatic 160, 3) := by decide +kernel
theorem dX9_same_52 : decode cX9_same 52 = .ok (.iconst 1, 1) := by decide +kernel
theorem dX9_same_53 : decode cX9_same 53 = .ok (.if_icmp .ne 8, 3) := by decide +kernel
theorem dX9_same_56 : decode cX9_same 56 = .ok (.bipush 15, 2) := by decide +kernel
theorem dX9_same_58 : decode cX9_same 58 = .ok (.goto 4, 3) := by decide +kernel
theorem dX9_same_61 : decode cX9_same 61 = .ok (.iconst 0, 1) := by decide +kernel
theorem dX9_same_62 : decode cX9_same 62 = .ok (.istore 4, 2) := by decide +kernel
theorem dX9_same_64 : decode cX9_same 64 = .ok (.iload_n 2, 1) := by decide +kernel
theorem dX9_same_65 : decode cX9_same 65 = .ok (.aload_n 0, 1) := by decide +kernel
theorem dX9_same_66 : decode cX9_same 66 = .ok (.getfield 38, 3) := by decide +kernel
theorem dX9_same_69 : decode cX9_same 69 = .ok (.iload_n 3, 1) := by decide +kernel
theorem dX9_same_70 : decode cX9_same 70 = .ok (.invokevirtual 182, 3) := by decide +kernel
theorem dX9_same_73 : decode cX9_same 73 = .ok (.iload 4, 2) := by decide +kernel
theorem dX9_same_75 : decode cX9_same 75 = .ok (.ixor, 1) := by decide +kernel
theorem dX9_same_76 : decode cX9_same 76 = .ok (.ior, 1) := by decide +kernel
theorem dX9_same_77 : decode cX9_same 77 = .ok (.istore_n 2, 1) := by decide +kernel
theorem dX9_same_78 : decode cX9_same 78 = .ok (.iinc 3 1, 3) := by decide +kernel
theorem dX9_same_81 : decode cX9_same 81 = .ok (.goto (-59), 3) := by decide +kernel
theorem dX9_same_84 : decode cX9_same 84 = .ok (.bipush 15, 2) := by decide +kernel
theorem dX9_same_86 : decode cX9_same 86 = .ok (.iload_n 2, 1) := by decide +kernel
theorem dX9_same_87 : decode cX9_same 87 = .ok (.iconst (-1), 1) := by decide +kernel
theorem dX9_same_88 : decode cX9_same 88 = .ok (.ixor, 1) := by decide +kernel
theorem dX9_same_89 : decode cX9_same 89 = .ok (.iand, 1) := by decide +kernel
theorem dX9_same_90 : decode cX9_same 90 = .ok (.ireturn, 1) := by decide +kernel
theorem dX9_kinds_0 : decode cX9_kinds 0 = .ok (.iload_n 1, 1) := by decide +kernel
theorem dX9_kinds_1 : decode cX9_kinds 1 = .ok (.iconst 0, 1) := by decide +kernel
theorem dX9_kinds_2 : decode cX9_kinds 2 = .ok (.bipush 7, 2) := by decide +kernel
theorem dX9_kinds_4 : decode cX9_kinds 4 = .ok (.invokestatic 81, 3) := by decide +kernel
theorem dX9_kinds_7 : decode cX9_kinds 7 = .ok (.ifCond .ne 6, 3) := by decide +kernel
theorem dX9_kinds_10 : decode cX9_kinds 10 = .ok (.ldc 85, 2) := by decide +kernel
theorem dX9_kinds_12 : decode cX9_kinds 12 = .ok (.ireturn, 1) := by decide +kernel
theorem dX9_kinds_13 : decode cX9_kinds 13 = .ok (.iload_n 1, 1) := by decide +kernel
theorem dX9_kinds_14 : decode cX9_kinds 14 = .ok (.aload_n 0, 1) := by decide +kernel
theorem dX9_kinds_15 : decode cX9_kinds 15 = .ok (.getfield 12, 3) := by decide +kernel
theorem dX9_kinds_18 : decode cX9_kinds 18 = .ok (.invokevirtual 90, 3) := by decide +kernel
theorem dX9_kinds_21 : decode cX9_kinds 21 = .ok (.if_icmp .lt 6, 3) := by decide +kernel
theorem dX9_kinds_24 : decode cX9_kinds 24 = .ok (.ldc 178, 2) := by decide +kernel
theorem dX9_kinds_26 : decode cX9_kinds 26 = .ok (.ireturn, 1) := by decide +kernel
theorem dX9_kinds_27 : decode cX9_kinds 27 = .ok (.iconst 0, 1) := by decide +kernel
theorem dX9_kinds_28 : decode cX9_kinds 28 = .ok (.istore_n 2, 1) := by decide +kernel
theorem dX9_kinds_29 : decode cX9_kinds 29 = .ok (.iconst 0, 1) := by decide +kernel
theorem dX9_kinds_30 : decode cX9_kinds 30 = .ok (.istore_n 3, 1) := by decide +kernel
theorem dX9_kinds_31 : decode cX9_kinds 31 = .ok (.iload_n 3, 1) := by decide +kernel
theorem dX9_kinds_32 : decode cX9_kinds 32 = .ok (.iconst 5, 1) := by decide +kernel
theorem dX9_kinds_33 : decode cX9_kinds 33 = .ok (.if_icmp .gt 62, 3) := by decide +kernel
theorem dX9_kinds_36 : decode cX9_kinds 36 = .ok (.aload_n 0, 1) := by decide +kernel
theorem dX9_kinds_37 : decode cX9_kinds 37 = .ok (.getfield 19, 3) := by decide +kernel
theorem dX9_kinds_40 : decode cX9_kinds 40 = .ok (.aload_n 0, 1) := by decide +kernel
theorem dX9_kinds_41 : decode cX9_kinds 41 = .ok (.getfield 12, 3) := by decide +kernel
theorem dX9_kinds_44 : decode cX9_kinds 44 = .ok (.invokevirtual 135, 3) := by decide +kernel
theorem dX9_kinds_47 : decode cX9_kinds 47 = .ok (.aload_n 0, 1) := by decide +kernel
theorem dX9_kinds_48 : decode cX9_kinds 48 = .ok (.getfield 19, 3) := by decide +kernel
theorem dX9_kinds_51 : decode cX9_kinds 51 = .ok (.iload_n 1, 1) := by decide +kernel
theorem dX9_kinds_52 : decode cX9_kinds 52 = .ok (.iload_n 3, 1) := by decide +kernel
theorem dX9_kinds_53 : decode cX9_kinds 53 = .ok (.aload_n 0, 1) := by decide +kernel
theorem dX9_kinds_54 : decode cX9_kinds 54 = .ok (.getfield 12, 3) := by decide +kernel
theorem dX9_kinds_57 : decode cX9_kinds 57 = .ok (.iload_n 1, 1) := by decide +kernel
theorem dX9_kinds_58 : decode cX9_kinds 58 = .ok (.invokevirtual 207, 3) := by decide +kernel
theorem dX9_kinds_61 : decode cX9_kinds 61 = .ok (.aload_n 0, 1) := by decide +kernel
theorem dX9_kinds_62 : decode cX9_kinds 62 = .ok (.getfield 12, 3) := by decide +kernel
theorem dX9_kinds_65 : decode cX9_kinds 65 = .ok (.iload_n 1, 1) := by decide +kernel
theorem dX9_kinds_66 : decode cX9_kinds 66 = .ok (.invokevirtual 210, 3) := by decide +kernel
theorem dX9_kinds_69 : decode cX9_kinds 69 = .ok (.invokevirtual 103, 3) := by decide +kernel
theorem dX9_kinds_72 : decode cX9_kinds 72 = .ok (.aload_n 0, 1) := by decide +kernel
theorem dX9_kinds_73 : decode cX9_kinds 73 = .ok (.aload_n 0, 1) := by decide +kernel
theorem dX9_kinds_74 : decode cX9_kinds 74 = .ok (.getfield 19, 3) := by decide +kernel
theorem dX9_kinds_77 : decode cX9_kinds 77 = .ok (.invokevirtual 213, 3) := by decide +kernel
theorem dX9_kinds_80 : decode cX9_kinds 80 = .ok (.ifCond .eq 9, 3) := by decide +kernel
theorem dX9_kinds_83 : decode cX9_kinds 83 = .ok (.iload_n 2, 1) := by decide +kernel
theorem dX9_kinds_84 : decode cX9_kinds 84 = .ok (.iconst 1, 1) := by decide +kernel
theorem dX9_kinds_85 : decode cX9_kinds 85 = .ok (.iload_n 3, 1) := by decide +kernel
theorem dX9_kinds_86 : decode cX9_kinds 86 = .ok (.ishl, 1) := by decide +kernel
theorem dX9_kinds_87 : decode cX9_kinds 87 = .ok (.ior, 1) := by decide +kernel
theorem dX9_kinds_88 : decode cX9_kinds 88 = .ok (.istore_n 2, 1) := by decide +kernel
theorem dX9_kinds_89 : decode cX9_kinds 89 = .ok (.iinc 3 1, 3) := by decide +kernel
theorem dX9_kinds_92 : decode cX9_kinds 92 = .ok (.goto (-61), 3) := by decide +kernel
theorem dX9_kinds_95 : decode cX9_kinds 95 = .ok (.iload_n 2, 1) := by decide +kernel
theorem dX9_kinds_96 : decode cX9_kinds 96 = .ok (.ireturn, 1) := by decide +kernel
theorem dX9_count_0 : decode cX9_count 0 = .ok (.iload_n 1, 1) := by decide +kernel
theorem dX9_count_1 : decode cX9_count 1 = .ok (.tableswitch 80 0 3 #[31, 47, 64, 72], 31) := by decide +kernel
theorem dX9_count_32 : decode cX9_count 32 = .ok (.aload_n 0, 1) := by decide +kernel
theorem dX9_count_33 : decode cX9_count 33 = .ok (.getfield 12, 3) := by decide +kernel
theorem dX9_count_36 : decode cX9_count 36 = .ok (.invokevirtual 90, 3) := by decide +kernel
theorem dX9_count_39 : decode cX9_count 39 = .ok (.aload_n 0, 1) := by decide +kernel
theorem dX9_count_40 : decode cX9_count 40 = .ok (.getfield 16, 3) := by decide +kernel
theorem dX9_count_43 : decode cX9_count 43 = .ok (.invokevirtual 90, 3) := by decide +kernel
theorem dX9_count_46 : decode cX9_count 46 = .ok (.iadd, 1) := by decide +kernel
theorem dX9_count_47 : decode cX9_count 47 = .ok (.ireturn, 1) := by decide +kernel
theorem dX9_count_48 : decode cX9_count 48 = .ok (.aload_n 0, 1) := by decide +kernel
theorem dX9_count_49 : decode cX9_count 49 = .ok (.aload_n 0, 1) := by decide +kernel
theorem dX9_count_50 : decode cX9_count 50 = .ok (.getfield 12, 3) := by decide +kernel
theorem dX9_count_53 : decode cX9_count 53 = .ok (.invokevirtual 213, 3) := by decide +kernel
theorem dX9_count_56 : decode cX9_count 56 = .ok (.ifCond .eq 7, 3) := by decide +kernel
theorem dX9_count_59 : decode cX9_count 59 = .ok (.iconst 1, 1) := by decide +kernel
theorem dX9_count_60 : decode cX9_count 60 = .ok (.goto 4, 3) := by decide +kernel
theorem dX9_count_63 : decode cX9_count 63 = .ok (.iconst 0, 1) := by decide +kernel
theorem dX9_count_64 : decode cX9_count 64 = .ok (.ireturn, 1) := by decide +kernel
theorem dX9_count_65 : decode cX9_count 65 = .ok (.aload_n 0, 1) := by decide +kernel
theorem dX9_count_66 : decode cX9_count 66 = .ok (.getfield 59, 3) := by decide +kernel
theorem dX9_count_69 : decode cX9_count 69 = .ok (.invokevirtual 217, 3) := by decide +kernel
theorem dX9_count_72 : decode cX9_count 72 = .ok (.ireturn, 1) := by decide +kernel
theorem dX9_count_73 : decode cX9_count 73 = .ok (.aload_n 0, 1) := by decide +kernel
theorem dX9_count_74 : decode cX9_count 74 = .ok (.getfield 66, 3) := by decide +kernel
theorem dX9_count_77 : decode cX9_count 77 = .ok (.invokevirtual 218, 3) := by decide +kernel
theorem dX9_count_80 : decode cX9_count 80 = .ok (.ireturn, 1) := by decide +kernel
theorem dX9_count_81 : decode cX9_count 81 = .ok (.ldc 85, 2) := by decide +kernel
theorem dX9_count_83 : decode cX9_count 83 = .ok (.ireturn, 1) := by decide +kernel
theorem dX9_undo_0 : decode cX9_undo 0 = .ok (.aload_n 0, 1) := by decide +kernel
theorem dX9_undo_1 : decode cX9_undo 1 = .ok (.getfield 59, 3) := by decide +kernel
theorem dX9_undo_4 : decode cX9_undo 4 = .ok (.invokevirtual 217, 3) := by decide +kernel
theorem dX9_undo_7 : decode cX9_undo 7 = .ok (.ifCond .ne 6, 3) := by decide +kernel
theorem dX9_undo_10 : decode cX9_undo 10 = .ok (.ldc 107, 2) := by decide +kernel
theorem dX9_undo_12 : decode cX9_undo 12 = .ok (.ireturn, 1) := by decide +kernel
theorem dX9_undo_13 : decode cX9_undo 13 = .ok (.aload_n 0, 1) := by decide +kernel
theorem dX9_undo_14 : decode cX9_undo 14 = .ok (.getfield 59, 3) := by decide +kernel
theorem dX9_undo_17 : decode cX9_undo 17 = .ok (.aload_n 0, 1) := by decide +kernel
theorem dX9_undo_18 : decode cX9_undo 18 = .ok (.getfield 12, 3) := by decide +kernel
theorem dX9_undo_21 : decode cX9_undo 21 = .ok (.aload_n 0, 1) := by decide +kernel
theorem dX9_undo_22 : decode cX9_undo 22 = .ok (.getfield 16, 3) := by decide +kernel
theorem dX9_undo_25 : decode cX9_undo 25 = .ok (.invokevirtual 221, 3) := by decide +kernel
theorem dX9_undo_28 : decode cX9_undo 28 = .ok (.aload_n 0, 1) := by decide +kernel
theorem dX9_undo_29 : decode cX9_undo 29 = .ok (.getfield 59, 3) := by decide +kernel
theorem dX9_undo_32 : decode cX9_undo 32 = .ok (.invokevirtual 217, 3) := by decide +kernel
theorem dX9_undo_35 : decode cX9_undo 35 = .ok (.ireturn, 1) := by decide +kernel
theorem dX9_type_0 : decode cX9_type 0 = .ok (.iload_n 1, 1) := by decide +kernel
theorem dX9_type_1 : decode cX9_type 1 = .ok (.bipush 32, 2) := by decide +kernel
theorem dX9_type_3 : decode cX9_type 3 = .ok (.bipush 126, 2) := by decide +kernel
theorem dX9_type_5 : decode cX9_type 5 = .ok (.invokestatic 81, 3) := by decide +kernel
theorem dX9_type_8 : decode cX9_type 8 = .ok (.ifCond .ne 6, 3) := by decide +kernel
theorem dX9_type_11 : decode cX9_type 11 = .ok (.ldc 85, 2) := by decide +kernel
theorem dX9_type_13 : decode cX9_type 13 = .ok (.ireturn, 1) := by decide +kernel
theorem dX9_type_14 : decode cX9_type 14 = .ok (.aload_n 0, 1) := by decide +kernel
theorem dX9_type_15 : decode cX9_type 15 = .ok (.getfield 66, 3) := by decide +kernel
theorem dX9_type_18 : decode cX9_type 18 = .ok (.invokevirtual 218, 3) := by decide +kernel
theorem dX9_type_21 : decode cX9_type 21 = .ok (.bipush 80, 2) := by decide +kernel
theorem dX9_type_23 : decode cX9_type 23 = .ok (.if_icmp .lt 6, 3) := by decide +kernel
theorem dX9_type_26 : decode cX9_type 26 = .ok (.ldc 98, 2) := by decide +kernel
theorem dX9_type_28 : decode cX9_type 28 = .ok (.ireturn, 1) := by decide +kernel
theorem dX9_type_29 : decode cX9_type 29 = .ok (.aload_n 0, 1) := by decide +kernel
theorem dX9_type_30 : decode cX9_type 30 = .ok (.getfield 66, 3) := by decide +kernel
theorem dX9_type_33 : decode cX9_type 33 = .ok (.iload_n 1, 1) := by decide +kernel
theorem dX9_type_34 : decode cX9_type 34 = .ok (.invokevirtual 224, 3) := by decide +kernel
theorem dX9_type_37 : decode cX9_type 37 = .ok (.aload_n 0, 1) := by decide +kernel
theorem dX9_type_38 : decode cX9_type 38 = .ok (.getfield 66, 3) := by decide +kernel
theorem dX9_type_41 : decode cX9_type 41 = .ok (.invokevirtual 218, 3) := by decide +kernel
theorem dX9_type_44 : decode cX9_type 44 = .ok (.ireturn, 1) := by decide +kernel
theorem dX9_clearText_0 : decode cX9_clearText 0 = .ok (.aload_n 0, 1) := by decide +kernel
theorem dX9_clearText_1 : decode cX9_clearText 1 = .ok (.getfield 66, 3) := by decide +kernel
theorem dX9_clearText_4 : decode cX9_clearText 4 = .ok (.invokevirtual 218, 3) := by decide +kernel
theorem dX9_clearText_7 : decode cX9_clearText 7 = .ok (.istore_n 1, 1) := by decide +kernel
theorem dX9_clearText_8 : decode cX9_clearText 8 = .ok (.aload_n 0, 1) := by decide +kernel
theorem dX9_clearText_9 : decode cX9_clearText 9 = .ok (.getfield 66, 3) := by decide +kernel
theorem dX9_clearText_12 : decode cX9_clearText 12 = .ok (.invokevirtual 227, 3) := by decide +kernel
theorem dX9_clearText_15 : decode cX9_clearText 15 = .ok (.iload_n 1, 1) := by decide +kernel
theorem dX9_clearText_16 : decode cX9_clearText 16 = .ok (.ireturn, 1) := by decide +kernel
theorem dX9_fault_0 : decode cX9_fault 0 = .ok (.iload_n 1, 1) := by decide +kernel
theorem dX9_fault_1 : decode cX9_fault 1 = .ok (.iconst 0, 1) := by decide +kernel
theorem dX9_fault_2 : decode cX9_fault 2 = .ok (.iconst 1, 1) := by decide +kernel
theorem dX9_fault_3 : decode cX9_fault 3 = .ok (.invokestatic 81, 3) := by decide +kernel
theorem dX9_fault_6 : decode cX9_fault 6 = .ok (.ifCond .ne 6, 3) := by decide +kernel
theorem dX9_fault_9 : decode cX9_fault 9 = .ok (.ldc 85, 2) := by decide +kernel
theorem dX9_fault_11 : decode cX9_fault 11 = .ok (.ireturn, 1) := by decide +kernel
theorem dX9_fault_12 : decode cX9_fault 12 = .ok (.aload_n 0, 1) := by decide +kernel
theorem dX9_fault_13 : decode cX9_fault 13 = .ok (.getfield 73, 3) := by decide +kernel
theorem dX9_fault_16 : decode cX9_fault 16 = .ok (.aload_n 0, 1) := by decide +kernel
theorem dX9_fault_17 : decode cX9_fault 17 = .ok (.getfield 66, 3) := by decide +kernel
theorem dX9_fault_20 : decode cX9_fault 20 = .ok (.invokevirtual 230, 3) := by decide +kernel
theorem dX9_fault_23 : decode cX9_fault 23 = .ok (.aload_n 0, 1) := by decide +kernel
theorem dX9_fault_24 : decode cX9_fault 24 = .ok (.getfield 73, 3) := by decide +kernel
theorem dX9_fault_27 : decode cX9_fault 27 = .ok (.invokevirtual 234, 3) := by decide +kernel
theorem dX9_fault_30 : decode cX9_fault 30 = .ok (.ifCond .ne 6, 3) := by decide +kernel
theorem dX9_fault_33 : decode cX9_fault 33 = .ok (.ldc 178, 2) := by decide +kernel
theorem dX9_fault_35 : decode cX9_fault 35 = .ok (.ireturn, 1) := by decide +kernel
theorem dX9_fault_36 : decode cX9_fault 36 = .ok (.iload_n 1, 1) := by decide +kernel
theorem dX9_fault_37 : decode cX9_fault 37 = .ok (.ifCond .ne 13, 3) := by decide +kernel
theorem dX9_fault_40 : decode cX9_fault 40 = .ok (.aload_n 0, 1) := by decide +kernel
theorem dX9_fault_41 : decode cX9_fault 41 = .ok (.getfield 73, 3) := by decide +kernel
theorem dX9_fault_44 : decode cX9_fault 44 = .ok (.invokevirtual 237, 3) := by decide +kernel
theorem dX9_fault_47 : decode cX9_fault 47 = .ok (.goto 10, 3) := by decide +kernel
theorem dX9_fault_50 : decode cX9_fault 50 = .ok (.aload_n 0, 1) := by decide +kernel
theorem dX9_fault_51 : decode cX9_fault 51 = .ok (.getfield 73, 3) := by decide +kernel
theorem dX9_fault_54 : decode cX9_fault 54 = .ok (.invokevirtual 234, 3) := by decide +kernel
theorem dX9_fault_57 : decode cX9_fault 57 = .ok (.ireturn, 1) := by decide +kernel
theorem dX9_read_0 : decode cX9_read 0 = .ok (.iload_n 1, 1) := by decide +kernel
theorem dX9_read_1 : decode cX9_read 1 = .ok (.invokestatic 77, 3) := by decide +kernel
theorem dX9_read_4 : decode cX9_read 4 = .ok (.ifCond .ne 6, 3) := by decide +kernel
theorem dX9_read_7 : decode cX9_read 7 = .ok (.ldc 85, 2) := by decide +kernel
theorem dX9_read_9 : decode cX9_read 9 = .ok (.ireturn, 1) := by decide +kernel
theorem dX9_read_10 : decode cX9_read 10 = .ok (.aload_n 0, 1) := by decide +kernel
theorem dX9_read_11 : decode cX9_read 11 = .ok (.getfield 73, 3) := by decide +kernel
theorem dX9_read_14 : decode cX9_read 14 = .ok (.aload_n 0, 1) := by decide +kernel
theorem dX9_read_15 : decode cX9_read 15 = .ok (.getfield 66, 3) := by decide +kernel
theorem dX9_read_18 : decode cX9_read 18 = .ok (.invokevirtual 230, 3) := by decide +kernel
theorem dX9_read_21 : decode cX9_read 21 = .ok (.aload_n 0, 1) := by decide +kernel
theorem dX9_read_22 : decode cX9_read 22 = .ok (.getfield 73, 3) := by decide +kernel
theorem dX9_read_25 : decode cX9_read 25 = .ok (.invokevirtual 234, 3) := by decide +kernel
theorem dX9_read_28 : decode cX9_read 28 = .ok (.ifCond .eq 6, 3) := by decide +kernel
theorem dX9_read_31 : decode cX9_read 31 = .ok (.ldc 107, 2) := by decide +kernel
theorem dX9_read_33 : decode cX9_read 33 = .ok (.ireturn, 1) := by decide +kernel
theorem dX9_read_34 : decode cX9_read 34 = .ok (.aload_n 0, 1) := by decide +kernel
theorem dX9_read_35 : decode cX9_read 35 = .ok (.iload_n 1, 1) := by decide +kernel
theorem dX9_read_36 : decode cX9_read 36 = .ok (.invokevirtual 86, 3) := by decide +kernel
theorem dX9_read_39 : decode cX9_read 39 = .ok (.astore_n 2, 1) := by decide +kernel
theorem dX9_read_40 : decode cX9_read 40 = .ok (.aload_n 0, 1) := by decide +kernel
theorem dX9_read_41 : decode cX9_read 41 = .ok (.getfield 59, 3) := by decide +kernel
theorem dX9_read_44 : decode cX9_read 44 = .ok (.aload_n 0, 1) := by decide +kernel
theorem dX9_read_45 : decode cX9_read 45 = .ok (.getfield 12, 3) := by decide +kernel
theorem dX9_read_48 : decode cX9_read 48 = .ok (.aload_n 0, 1) := by decide +kernel
theorem dX9_read_49 : decode cX9_read 49 = .ok (.getfield 16, 3) := by decide +kernel
theorem dX9_read_52 : decode cX9_read 52 = .ok (.invokevirtual 99, 3) := by decide +kernel
theorem dX9_read_55 : decode cX9_read 55 = .ok (.aload_n 2, 1) := by decide +kernel
theorem dX9_read_56 : decode cX9_read 56 = .ok (.aload_n 0, 1) := by decide +kernel
theorem dX9_read_57 : decode cX9_read 57 = .ok (.getfield 73, 3) := by decide +kernel
theorem dX9_read_60 : decode cX9_read 60 = .ok (.invokevirtual 240, 3) := by decide +kernel
theorem dX9_read_63 : decode cX9_read 63 = .ok (.invokevirtual 135, 3) := by decide +kernel
theorem dX9_read_66 : decode cX9_read 66 = .ok (.aload_n 2, 1) := by decide +kernel
theorem dX9_read_67 : decode cX9_read 67 = .ok (.invokevirtual 90, 3) := by decide +kernel
theorem dX9_read_70 : decode cX9_read 70 = .ok (.ireturn, 1) := by decide +kernel
theorem dX9_circuitAt_0 : decode cX9_circuitAt 0 = .ok (.iload_n 1, 1) := by decide +kernel
theorem dX9_circuitAt_1 : decode cX9_circuitAt 1 = .ok (.ifCond .ne 10, 3) := by decide +kernel
theorem dX9_circuitAt_4 : decode cX9_circuitAt 4 = .ok (.aload_n 0, 1) := by decide +kernel
theorem dX9_circuitAt_5 : decode cX9_circuitAt 5 = .ok (.getfield 12, 3) := by decide +kernel
theorem dX9_circuitAt_8 : decode cX9_circuitAt 8 = .ok (.goto 7, 3) := by decide +kernel
theorem dX9_circuitAt_11 : decode cX9_circuitAt 11 = .ok (.aload_n 0, 1) := by decide +kernel
theorem dX9_circuitAt_12 : decode cX9_circuitAt 12 = .ok (.getfield 16, 3) := by decide +kernel
theorem dX9_circuitAt_15 : decode cX9_circuitAt 15 = .ok (.areturn, 1) := by decide +kernel
theorem dX9_tellWires_0 : decode cX9_tellWires 0 = .ok (.iload_n 1, 1) := by decide +kernel
theorem dX9_tellWires_1 : decode cX9_tellWires 1 = .ok (.tableswitch 42 0 2 #[27, 32, 37], 27) := by decide +kernel
theorem dX9_tellWires_28 : decode cX9_tellWires 28 = .ok (.aload_n 0, 1) := by decide +kernel
theorem dX9_tellWires_29 : decode cX9_tellWires 29 = .ok (.invokevirtual 90, 3) := by decide +kernel
theorem dX9_tellWires_32 : decode cX9_tellWires 32 = .ok (.ireturn, 1) := by decide +kernel
theorem dX9_tellWires_33 : decode cX9_tellWires 33 = .ok (.aload_n 0, 1) := by decide +kernel
theorem dX9_tellWires_34 : decode cX9_tellWires 34 = .ok (.invokevirtual 128, 3) := by decide +kernel
theorem dX9_tellWires_37 : decode cX9_tellWires 37 = .ok (.ireturn, 1) := by decide +kernel
theorem dX9_tellWires_38 : decode cX9_tellWires 38 = .ok (.aload_n 0, 1) := by decide +kernel
theorem dX9_tellWires_39 : decode cX9_tellWires 39 = .ok (.invokevirtual 166, 3) := by decide +kernel
theorem dX9_tellWires_42 : decode cX9_tellWires 42 = .ok (.ireturn, 1) := by decide +kernel
theorem dX9_tellWires_43 : decode cX9_tellWires 43 = .ok (.aload_n 0, 1) := by decide +kernel
theorem dX9_tellWires_44 : decode cX9_tellWires 44 = .ok (.invokevirtual 244, 3) := by decide +kernel
theorem dX9_tellWires_47 : decode cX9_tellWires 47 = .ok (.ireturn, 1) := by decide +kernel
theorem dX9_tellStates_0 : decode cX9_tellStates 0 = .ok (.aload_n 0, 1) := by decide +kernel
theorem dX9_tellStates_1 : decode cX9_tellStates 1 = .ok (.getfield 32, 3) := by decide +kernel
theorem dX9_tellStates_4 : decode cX9_tellStates 4 = .ok (.aload_n 1, 1) := by decide +kernel
theorem dX9_tellStates_5 : decode cX9_tellStates 5 = .ok (.invokevirtual 200, 3) := by decide +kernel
theorem dX9_tellStates_8 : decode cX9_tellStates 8 = .ok (.aload_n 0, 1) := by decide +kernel
theorem dX9_tellStates_9 : decode cX9_tellStates 9 = .ok (.getfield 32, 3) := by decide +kernel
theorem dX9_tellStates_12 : decode cX9_tellStates 12 = .ok (.invokevirtual 247, 3) := by decide +kernel
theorem dX9_tellStates_15 : decode cX9_tellStates 15 = .ok (.istore_n 3, 1) := by decide +kernel
theorem dX9_tellStates_16 : decode cX9_tellStates 16 = .ok (.iload_n 2, 1) := by decide +kernel
theorem dX9_tellStates_17 : decode cX9_tellStates 17 = .ok (.lookupswitch 38 #[(3, 27), (4, 29)], 27) := by decide +kernel
theorem dX9_tellStates_44 : decode cX9_tellStates 44 = .ok (.iload_n 3, 1) := by decide +kernel
theorem dX9_tellStates_45 : decode cX9_tellStates 45 = .ok (.ireturn, 1) := by decide +kernel
theorem dX9_tellStates_46 : decode cX9_tellStates 46 = .ok (.aload_n 0, 1) := by decide +kernel
theorem dX9_tellStates_47 : decode cX9_tellStates 47 = .ok (.getfield 32, 3) := by decide +kernel
theorem dX9_tellStates_50 : decode cX9_tellStates 50 = .ok (.iload_n 3, 1) := by decide +kernel
theorem dX9_tellStates_51 : decode cX9_tellStates 51 = .ok (.invokevirtual 250, 3) := by decide +kernel
theorem dX9_tellStates_54 : decode cX9_tellStates 54 = .ok (.ireturn, 1) := by decide +kernel
theorem dX9_tellStates_55 : decode cX9_tellStates 55 = .ok (.aload_n 0, 1) := by decide +kernel
theorem dX9_tellStates_56 : decode cX9_tellStates 56 = .ok (.getfield 52, 3) := by decide +kernel
theorem dX9_tellStates_59 : decode cX9_tellStates 59 = .ok (.iload_n 3, 1) := by decide +kernel
theorem dX9_tellStates_60 : decode cX9_tellStates 60 = .ok (.aload_n 0, 1) := by decide +kernel
theorem dX9_tellStates_61 : decode cX9_tellStates 61 = .ok (.getfield 32, 3) := by decide +kernel
theorem dX9_tellStates_64 : decode cX9_tellStates 64 = .ok (.invokevirtual 253, 3) := by decide +kernel
theorem dX9_tellStates_67 : decode cX9_tellStates 67 = .ok (.ireturn, 1) := by decide +kernel
theorem dX9_tellGate_0 : decode cX9_tellGate 0 = .ok (.iload_n 1, 1) := by decide +kernel
theorem dX9_tellGate_1 : decode cX9_tellGate 1 = .ok (.aload_n 0, 1) := by decide +kernel
theorem dX9_tellGate_2 : decode cX9_tellGate 2 = .ok (.invokevirtual 90, 3) := by decide +kernel
theorem dX9_tellGate_5 : decode cX9_tellGate 5 = .ok (.if_icmp .lt 6, 3) := by decide +kernel
theorem dX9_tellGate_8 : decode cX9_tellGate 8 = .ok (.ldc 178, 2) := by decide +kernel
theorem dX9_tellGate_10 : decode cX9_tellGate 10 = .ok (.ireturn, 1) := by decide +kernel
theorem dX9_tellGate_11 : decode cX9_tellGate 11 = .ok (.iload_n 2, 1) := by decide +kernel
theorem dX9_tellGate_12 : decode cX9_tellGate 12 = .ok (.iconst 1, 1) := by decide +kernel
theorem dX9_tellGate_13 : decode cX9_tellGate 13 = .ok (.if_icmp .ne 9, 3) := by decide +kernel
theorem dX9_tellGate_16 : decode cX9_tellGate 16 = .ok (.aload_n 0, 1) := by decide +kernel
theorem dX9_tellGate_17 : decode cX9_tellGate 17 = .ok (.iload_n 1, 1) := by decide +kernel
theorem dX9_tellGate_18 : decode cX9_tellGate 18 = .ok (.invokevirtual 257, 3) := by decide +kernel
theorem dX9_tellGate_21 : decode cX9_tellGate 21 = .ok (.ireturn, 1) := by decide +kernel
theorem dX9_tellGate_22 : decode cX9_tellGate 22 = .ok (.iload_n 2, 1) := by decide +kernel
theorem dX9_tellGate_23 : decode cX9_tellGate 23 = .ok (.iconst 2, 1) := by decide +kernel
theorem dX9_tellGate_24 : decode cX9_tellGate 24 = .ok (.if_icmp .ne 11, 3) := by decide +kernel
theorem dX9_tellGate_27 : decode cX9_tellGate 27 = .ok (.aload_n 0, 1) := by decide +kernel
theorem dX9_tellGate_28 : decode cX9_tellGate 28 = .ok (.iload_n 1, 1) := by decide +kernel
theorem dX9_tellGate_29 : decode cX9_tellGate 29 = .ok (.invokevirtual 207, 3) := by decide +kernel
theorem dX9_tellGate_32 : decode cX9_tellGate 32 = .ok (.goto 8, 3) := by decide +kernel
theorem dX9_tellGate_35 : decode cX9_tellGate 35 = .ok (.aload_n 0, 1) := by decide +kernel
theorem dX9_tellGate_36 : decode cX9_tellGate 36 = .ok (.iload_n 1, 1) := by decide +kernel
theorem dX9_tellGate_37 : decode cX9_tellGate 37 = .ok (.invokevirtual 210, 3) := by decide +kernel
theorem dX9_tellGate_40 : decode cX9_tellGate 40 = .ok (.ireturn, 1) := by decide +kernel
theorem dX9_walkWith_0 : decode cX9_walkWith 0 = .ok (.aload_n 0, 1) := by decide +kernel
theorem dX9_walkWith_1 : decode cX9_walkWith 1 = .ok (.getfield 25, 3) := by decide +kernel
theorem dX9_walkWith_4 : decode cX9_walkWith 4 = .ok (.aload_n 1, 1) := by decide +kernel
theorem dX9_walkWith_5 : decode cX9_walkWith 5 = .ok (.invokevirtual 200, 3) := by decide +kernel
theorem dX9_walkWith_8 : decode cX9_walkWith 8 = .ok (.aload_n 0, 1) := by decide +kernel
theorem dX9_walkWith_9 : decode cX9_walkWith 9 = .ok (.getfield 29, 3) := by decide +kernel
theorem dX9_walkWith_12 : decode cX9_walkWith 12 = .ok (.aload_n 0, 1) := by decide +kernel
theorem dX9_walkWith_13 : decode cX9_walkWith 13 = .ok (.getfield 16, 3) := by decide +kernel
theorem dX9_walkWith_16 : decode cX9_walkWith 16 = .ok (.invokevirtual 200, 3) := by decide +kernel
theorem dX9_walkWith_19 : decode cX9_walkWith 19 = .ok (.aload_n 0, 1) := by decide +kernel
theorem dX9_walkWith_20 : decode cX9_walkWith 20 = .ok (.getfield 38, 3) := by decide +kernel
theorem dX9_walkWith_23 : decode cX9_walkWith 23 = .ok (.aload_n 0, 1) := by decide +kernel
theorem dX9_walkWith_24 : decode cX9_walkWith 24 = .ok (.getfield 25, 3) := by decide +kernel
theorem dX9_walkWith_27 : decode cX9_walkWith 27 = .ok (.aload_n 0, 1) := by decide +kernel
theorem dX9_walkWith_28 : decode cX9_walkWith 28 = .ok (.getfield 29, 3) := by decide +kernel
theorem dX9_walkWith_31 : decode cX9_walkWith 31 = .ok (.invokevirtual 260, 3) := by decide +kernel
theorem dX9_walkWith_34 : decode cX9_walkWith 34 = .ok (.return_, 1) := by decide +kernel
theorem dX9_neverApart_0 : decode cX9_neverApart 0 = .ok (.aload_n 0, 1) := by decide +kernel
theorem dX9_neverApart_1 : decode cX9_neverApart 1 = .ok (.aload_n 1, 1) := by decide +kernel
theorem dX9_neverApart_2 : decode cX9_neverApart 2 = .ok (.invokevirtual 172, 3) := by decide +kernel
theorem dX9_neverApart_5 : decode cX9_neverApart 5 = .ok (.aload_n 0, 1) := by decide +kernel
theorem dX9_neverApart_6 : decode cX9_neverApart 6 = .ok (.invokevirtual 194, 3) := by decide +kernel
theorem dX9_neverApart_9 : decode cX9_neverApart 9 = .ok (.aload_n 0, 1) := by decide +kernel
theorem dX9_neverApart_10 : decode cX9_neverApart 10 = .ok (.getfield 38, 3) := by decide +kernel
theorem dX9_neverApart_13 : decode cX9_neverApart 13 = .ok (.invokevirtual 175, 3) := by decide +kernel
theorem dX9_neverApart_16 : decode cX9_neverApart 16 = .ok (.if_icmp .lt 7, 3) := by decide +kernel
theorem dX9_neverApart_19 : decode cX9_neverApart 19 = .ok (.iconst 1, 1) := by decide +kernel
theorem dX9_neverApart_20 : decode cX9_neverApart 20 = .ok (.goto 4, 3) := by decide +kernel
theorem dX9_neverApart_23 : decode cX9_neverApart 23 = .ok (.iconst 0, 1) := by decide +kernel
theorem dX9_neverApart_24 : decode cX9_neverApart 24 = .ok (.ireturn, 1) := by decide +kernel
theorem dX9_firstPairApart_0 : decode cX9_firstPairApart 0 = .ok (.iconst 0, 1) := by decide +kernel
theorem dX9_firstPairApart_1 : decode cX9_firstPairApart 1 = .ok (.istore_n 1, 1) := by decide +kernel
theorem dX9_firstPairApart_2 : decode cX9_firstPairApart 2 = .ok (.iload_n 1, 1) := by decide +kernel
theorem dX9_firstPairApart_3 : decode cX9_firstPairApart 3 = .ok (.aload_n 0, 1) := by decide +kernel
theorem dX9_firstPairApart_4 : decode cX9_firstPairApart 4 = .ok (.getfield 38, 3) := by decide +kernel
theorem dX9_firstPairApart_7 : decode cX9_firstPairApart 7 = .ok (.invokevirtual 175, 3) := by decide +kernel
theorem dX9_firstPairApart_10 : decode cX9_firstPairApart 10 = .ok (.if_icmp .ge 24, 3) := by decide +kernel
theorem dX9_firstPairApart_13 : decode cX9_firstPairApart 13 = .ok (.iload_n 1, 1) := by decide +kernel
theorem dX9_firstPairApart_14 : decode cX9_firstPairApart 14 = .ok (.sipush 256, 3) := by decide +kernel
theorem dX9_firstPairApart_17 : decode cX9_firstPairApart 17 = .ok (.if_icmp .ge 17, 3) := by decide +kernel
theorem dX9_firstPairApart_20 : decode cX9_firstPairApart 20 = .ok (.aload_n 0, 1) := by decide +kernel
theorem dX9_firstPairApart_21 : decode cX9_firstPairApart 21 = .ok (.iload_n 1, 1) := by decide +kernel
theorem dX9_firstPairApart_22 : decode cX9_firstPairApart 22 = .ok (.invokevirtual 188, 3) := by decide +kernel
theorem dX9_firstPairApart_25 : decode cX9_firstPairApart 25 = .ok (.ifCond .ne 9, 3) := by decide +kernel
theorem dX9_firstPairApart_28 : decode cX9_firstPairApart 28 = .ok (.iinc 1 1, 3) := by decide +kernel
theorem dX9_firstPairApart_31 : decode cX9_firstPairApart 31 = .ok (.goto (-29), 3) := by decide +kernel
theorem dX9_firstPairApart_34 : decode cX9_firstPairApart 34 = .ok (.iload_n 1, 1) := by decide +kernel
theorem dX9_firstPairApart_35 : decode cX9_firstPairApart 35 = .ok (.ireturn, 1) := by decide +kernel
theorem dX9_differingInputs_0 : decode cX9_differingInputs 0 = .ok (.aload_n 0, 1) := by decide +kernel
theorem dX9_differingInputs_1 : decode cX9_differingInputs 1 = .ok (.getfield 25, 3) := by decide +kernel
theorem dX9_differingInputs_4 : decode cX9_differingInputs 4 = .ok (.aload_n 0, 1) := by decide +kernel
theorem dX9_differingInputs_5 : decode cX9_differingInputs 5 = .ok (.getfield 38, 3) := by decide +kernel
theorem dX9_differingInputs_8 : decode cX9_differingInputs 8 = .ok (.iload_n 1, 1) := by decide +kernel
theorem dX9_differingInputs_9 : decode cX9_differingInputs 9 = .ok (.invokevirtual 179, 3) := by decide +kernel
theorem dX9_differingInputs_12 : decode cX9_differingInputs 12 = .ok (.invokevirtual 264, 3) := by decide +kernel
theorem dX9_differingInputs_15 : decode cX9_differingInputs 15 = .ok (.aload_n 0, 1) := by decide +kernel
theorem dX9_differingInputs_16 : decode cX9_differingInputs 16 = .ok (.getfield 29, 3) := by decide +kernel
theorem dX9_differingInputs_19 : decode cX9_differingInputs 19 = .ok (.aload_n 0, 1) := by decide +kernel
theorem dX9_differingInputs_20 : decode cX9_differingInputs 20 = .ok (.getfield 38, 3) := by decide +kernel
theorem dX9_differingInputs_23 : decode cX9_differingInputs 23 = .ok (.iload_n 1, 1) := by decide +kernel
theorem dX9_differingInputs_24 : decode cX9_differingInputs 24 = .ok (.invokevirtual 182, 3) := by decide +kernel
theorem dX9_differingInputs_27 : decode cX9_differingInputs 27 = .ok (.invokevirtual 264, 3) := by decide +kernel
theorem dX9_differingInputs_30 : decode cX9_differingInputs 30 = .ok (.ixor, 1) := by decide +kernel
theorem dX9_differingInputs_31 : decode cX9_differingInputs 31 = .ok (.ireturn, 1) := by decide +kernel
theorem dX9_isWithin_0 : decode cX9_isWithin 0 = .ok (.iload_n 0, 1) := by decide +kernel
theorem dX9_isWithin_1 : decode cX9_isWithin 1 = .ok (.iload_n 1, 1) := by decide +kernel
theorem dX9_isWithin_2 : decode cX9_isWithin 2 = .ok (.if_icmp .lt 12, 3) := by decide +kernel
theorem dX9_isWithin_5 : decode cX9_isWithin 5 = .ok (.iload_n 0, 1) := by decide +kernel
theorem dX9_isWithin_6 : decode cX9_isWithin 6 = .ok (.iload_n 2, 1) := by decide +kernel
theorem dX9_isWithin_7 : decode cX9_isWithin 7 = .ok (.if_icmp .gt 7, 3) := by decide +kernel
theorem dX9_isWithin_10 : decode cX9_isWithin 10 = .ok (.iconst 1, 1) := by decide +kernel
theorem dX9_isWithin_11 : decode cX9_isWithin 11 = .ok (.goto 4, 3) := by decide +kernel
theorem dX9_isWithin_14 : decode cX9_isWithin 14 = .ok (.iconst 0, 1) := by decide +kernel
theorem dX9_isWithin_15 : decode cX9_isWithin 15 = .ok (.ireturn, 1) := by decide +kernel
theorem dX9_isCircuit_0 : decode cX9_isCircuit 0 = .ok (.iload_n 0, 1) := by decide +kernel
theorem dX9_isCircuit_1 : decode cX9_isCircuit 1 = .ok (.iconst 0, 1) := by decide +kernel
theorem dX9_isCircuit_2 : decode cX9_isCircuit 2 = .ok (.iconst 1, 1) := by decide +kernel
theorem dX9_isCircuit_3 : decode cX9_isCircuit 3 = .ok (.invokestatic 81, 3) := by decide +kernel
theorem dX9_isCircuit_6 : decode cX9_isCircuit 6 = .ok (.ireturn, 1) := by decide +kernel
theorem dX9_isRegister_0 : decode cX9_isRegister 0 = .ok (.iload_n 0, 1) := by decide +kernel
theorem dX9_isRegister_1 : decode cX9_isRegister 1 = .ok (.iconst 0, 1) := by decide +kernel
theorem dX9_isRegister_2 : decode cX9_isRegister 2 = .ok (.iconst 3, 1) := by decide +kernel
theorem dX9_isRegister_3 : decode cX9_isRegister 3 = .ok (.invokestatic 81, 3) := by decide +kernel
theorem dX9_isRegister_6 : decode cX9_isRegister 6 = .ok (.ireturn, 1) := by decide +kernel
theorem dX9_isWire_0 : decode cX9_isWire 0 = .ok (.iload_n 0, 1) := by decide +kernel
theorem dX9_isWire_1 : decode cX9_isWire 1 = .ok (.iconst 0, 1) := by decide +kernel
theorem dX9_isWire_2 : decode cX9_isWire 2 = .ok (.bipush 15, 2) := by decide +kernel
theorem dX9_isWire_4 : decode cX9_isWire 4 = .ok (.invokestatic 81, 3) := by decide +kernel
theorem dX9_isWire_7 : decode cX9_isWire 7 = .ok (.ireturn, 1) := by decide +kernel
theorem dX9_isState_0 : decode cX9_isState 0 = .ok (.iload_n 0, 1) := by decide +kernel
theorem dX9_isState_1 : decode cX9_isState 1 = .ok (.iconst 0, 1) := by decide +kernel
theorem dX9_isState_2 : decode cX9_isState 2 = .ok (.bipush 15, 2) := by decide +kernel
theorem dX9_isState_4 : decode cX9_isState 4 = .ok (.invokestatic 81, 3) := by decide +kernel
theorem dX9_isState_7 : decode cX9_isState 7 = .ok (.ireturn, 1) := by decide +kernel
theorem dX9_areInputs_0 : decode cX9_areInputs 0 = .ok (.iload_n 0, 1) := by decide +kernel
theorem dX9_areInputs_1 : decode cX9_areInputs 1 = .ok (.iconst 0, 1) := by decide +kernel
theorem dX9_areInputs_2 : decode cX9_areInputs 2 = .ok (.iconst 3, 1) := by decide +kernel
theorem dX9_areInputs_3 : decode cX9_areInputs 3 = .ok (.invokestatic 81, 3) := by decide +kernel
theorem dX9_areInputs_6 : decode cX9_areInputs 6 = .ok (.ireturn, 1) := by decide +kernel
theorem dX9_mayFeed_0 : decode cX9_mayFeed 0 = .ok (.iload_n 1, 1) := by decide +kernel
theorem dX9_mayFeed_1 : decode cX9_mayFeed 1 = .ok (.iconst 0, 1) := by decide +kernel
theorem dX9_mayFeed_2 : decode cX9_mayFeed 2 = .ok (.bipush 6, 2) := by decide +kernel
theorem dX9_mayFeed_4 : decode cX9_mayFeed 4 = .ok (.iload_n 0, 1) := by decide +kernel
theorem dX9_mayFeed_5 : decode cX9_mayFeed 5 = .ok (.iadd, 1) := by decide +kernel
theorem dX9_mayFeed_6 : decode cX9_mayFeed 6 = .ok (.iconst 1, 1) := by decide +kernel
theorem dX9_mayFeed_7 : decode cX9_mayFeed 7 = .ok (.isub, 1) := by decide +kernel
theorem dX9_mayFeed_8 : decode cX9_mayFeed 8 = .ok (.invokestatic 81, 3) := by decide +kernel
theorem dX9_mayFeed_11 : decode cX9_mayFeed 11 = .ok (.ifCond .ne 15, 3) := by decide +kernel
theorem dX9_mayFeed_14 : decode cX9_mayFeed 14 = .ok (.iload_n 1, 1) := by decide +kernel
theorem dX9_mayFeed_15 : decode cX9_mayFeed 15 = .ok (.bipush 14, 2) := by decide +kernel
theorem dX9_mayFeed_17 : decode cX9_mayFeed 17 = .ok (.if_icmp .eq 9, 3) := by decide +kernel
theorem dX9_mayFeed_20 : decode cX9_mayFeed 20 = .ok (.iload_n 1, 1) := by decide +kernel
theorem dX9_mayFeed_21 : decode cX9_mayFeed 21 = .ok (.bipush 15, 2) := by decide +kernel
theorem dX9_mayFeed_23 : decode cX9_mayFeed 23 = .ok (.if_icmp .ne 7, 3) := by decide +kernel
theorem dX9_mayFeed_26 : decode cX9_mayFeed 26 = .ok (.iconst 1, 1) := by decide +kernel
theorem dX9_mayFeed_27 : decode cX9_mayFeed 27 = .ok (.goto 4, 3) := by decide +kernel
theorem dX9_mayFeed_30 : decode cX9_mayFeed 30 = .ok (.iconst 0, 1) := by decide +kernel
theorem dX9_mayFeed_31 : decode cX9_mayFeed 31 = .ok (.ireturn, 1) := by decide +kernel
theorem dX9_bitOf_0 : decode cX9_bitOf 0 = .ok (.iload_n 0, 1) := by decide +kernel
theorem dX9_bitOf_1 : decode cX9_bitOf 1 = .ok (.iload_n 1, 1) := by decide +kernel
theorem dX9_bitOf_2 : decode cX9_bitOf 2 = .ok (.iushr, 1) := by decide +kernel
theorem dX9_bitOf_3 : decode cX9_bitOf 3 = .ok (.iconst 1, 1) := by decide +kernel
theorem dX9_bitOf_4 : decode cX9_bitOf 4 = .ok (.iand, 1) := by decide +kernel
theorem dX9_bitOf_5 : decode cX9_bitOf 5 = .ok (.ireturn, 1) := by decide +kernel
theorem dX9_leastOf_0 : decode cX9_leastOf 0 = .ok (.iconst 0, 1) := by decide +kernel
theorem dX9_leastOf_1 : decode cX9_leastOf 1 = .ok (.istore_n 1, 1) := by decide +kernel
theorem dX9_leastOf_2 : decode cX9_leastOf 2 = .ok (.iload_n 1, 1) := by decide +kernel
theorem dX9_leastOf_3 : decode cX9_leastOf 3 = .ok (.iconst 3, 1) := by decide +kernel
theorem dX9_leastOf_4 : decode cX9_leastOf 4 = .ok (.if_icmp .ge 17, 3) := by decide +kernel
theorem dX9_leastOf_7 : decode cX9_leastOf 7 = .ok (.iload_n 0, 1) := by decide +kernel
theorem dX9_leastOf_8 : decode cX9_leastOf 8 = .ok (.iload_n 1, 1) := by decide +kernel
theorem dX9_leastOf_9 : decode cX9_leastOf 9 = .ok (.invokestatic 160, 3) := by decide +kernel
theorem dX9_leastOf_12 : decode cX9_leastOf 12 = .ok (.ifCond .ne 9, 3) := by decide +kernel
theorem dX9_leastOf_15 : decode cX9_leastOf 15 = .ok (.iinc 1 1, 3) := by decide +kernel
theorem dX9_leastOf_18 : decode cX9_leastOf 18 = .ok (.goto (-16), 3) := by decide +kernel
theorem dX9_leastOf_21 : decode cX9_leastOf 21 = .ok (.iload_n 1, 1) := by decide +kernel
theorem dX9_leastOf_22 : decode cX9_leastOf 22 = .ok (.ireturn, 1) := by decide +kernel
theorem dX9_floatBitsOfSixteenths_0 : decode cX9_floatBitsOfSixteenths 0 = .ok (.iload_n 0, 1) := by decide +kernel
theorem dX9_floatBitsOfSixteenths_1 : decode cX9_floatBitsOfSixteenths 1 = .ok (.ifCond .gt 5, 3) := by decide +kernel
theorem dX9_floatBitsOfSixteenths_4 : decode cX9_floatBitsOfSixteenths 4 = .ok (.iconst 0, 1) := by decide +kernel
theorem dX9_floatBitsOfSixteenths_5 : decode cX9_floatBitsOfSixteenths 5 = .ok (.ireturn, 1) := by decide +kernel
theorem dX9_floatBitsOfSixteenths_6 : decode cX9_floatBitsOfSixteenths 6 = .ok (.iconst 0, 1) := by decide +kernel
theorem dX9_floatBitsOfSixteenths_7 : decode cX9_floatBitsOfSixteenths 7 = .ok (.istore_n 1, 1) := by decide +kernel
theorem dX9_floatBitsOfSixteenths_8 : decode cX9_floatBitsOfSixteenths 8 = .ok (.iload_n 1, 1) := by decide +kernel
theorem dX9_floatBitsOfSixteenths_9 : decode cX9_floatBitsOfSixteenths 9 = .ok (.iconst 4, 1) := by decide +kernel
theorem dX9_floatBitsOfSixteenths_10 : decode cX9_floatBitsOfSixteenths 10 = .ok (.if_icmp .ge 17, 3) := by decide +kernel
theorem dX9_floatBitsOfSixteenths_13 : decode cX9_floatBitsOfSixteenths 13 = .ok (.iload_n 0, 1) := by decide +kernel
theorem dX9_floatBitsOfSixteenths_14 : decode cX9_floatBitsOfSixteenths 14 = .ok (.iload_n 1, 1) := by decide +kernel
theorem dX9_floatBitsOfSixteenths_15 : decode cX9_floatBitsOfSixteenths 15 = .ok (.iconst 1, 1) := by decide +kernel
theorem dX9_floatBitsOfSixteenths_16 : decode cX9_floatBitsOfSixteenths 16 = .ok (.iadd, 1) := by decide +kernel
theorem dX9_floatBitsOfSixteenths_17 : decode cX9_floatBitsOfSixteenths 17 = .ok (.ishr, 1) := by decide +kernel
theorem dX9_floatBitsOfSixteenths_18 : decode cX9_floatBitsOfSixteenths 18 = .ok (.ifCond .eq 9, 3) := by decide +kernel
theorem dX9_floatBitsOfSixteenths_21 : decode cX9_floatBitsOfSixteenths 21 = .ok (.iinc 1 1, 3) := by decide +kernel
theorem dX9_floatBitsOfSixteenths_24 : decode cX9_floatBitsOfSixteenths 24 = .ok (.goto (-16), 3) := by decide +kernel
theorem dX9_floatBitsOfSixteenths_27 : decode cX9_floatBitsOfSixteenths 27 = .ok (.bipush 127, 2) := by decide +kernel
theorem dX9_floatBitsOfSixteenths_29 : decode cX9_floatBitsOfSixteenths 29 = .ok (.iload_n 1, 1) := by decide +kernel
theorem dX9_floatBitsOfSixteenths_30 : decode cX9_floatBitsOfSixteenths 30 = .ok (.iadd, 1) := by decide +kernel
theorem dX9_floatBitsOfSixteenths_31 : decode cX9_floatBitsOfSixteenths 31 = .ok (.iconst 4, 1) := by decide +kernel
theorem dX9_floatBitsOfSixteenths_32 : decode cX9_floatBitsOfSixteenths 32 = .ok (.isub, 1) := by decide +kernel
theorem dX9_floatBitsOfSixteenths_33 : decode cX9_floatBitsOfSixteenths 33 = .ok (.istore_n 2, 1) := by decide +kernel
theorem dX9_floatBitsOfSixteenths_34 : decode cX9_floatBitsOfSixteenths 34 = .ok (.iload_n 0, 1) := by decide +kernel
theorem dX9_floatBitsOfSixteenths_35 : decode cX9_floatBitsOfSixteenths 35 = .ok (.iconst 1, 1) := by decide +kernel
theorem dX9_floatBitsOfSixteenths_36 : decode cX9_floatBitsOfSixteenths 36 = .ok (.iload_n 1, 1) := by decide +kernel
theorem dX9_floatBitsOfSixteenths_37 : decode cX9_floatBitsOfSixteenths 37 = .ok (.ishl, 1) := by decide +kernel
theorem dX9_floatBitsOfSixteenths_38 : decode cX9_floatBitsOfSixteenths 38 = .ok (.ixor, 1) := by decide +kernel
theorem dX9_floatBitsOfSixteenths_39 : decode cX9_floatBitsOfSixteenths 39 = .ok (.bipush 23, 2) := by decide +kernel
theorem dX9_floatBitsOfSixteenths_41 : decode cX9_floatBitsOfSixteenths 41 = .ok (.iload_n 1, 1) := by decide +kernel
theorem dX9_floatBitsOfSixteenths_42 : decode cX9_floatBitsOfSixteenths 42 = .ok (.isub, 1) := by decide +kernel
theorem dX9_floatBitsOfSixteenths_43 : decode cX9_floatBitsOfSixteenths 43 = .ok (.ishl, 1) := by decide +kernel
theorem dX9_floatBitsOfSixteenths_44 : decode cX9_floatBitsOfSixteenths 44 = .ok (.istore_n 3, 1) := by decide +kernel
theorem dX9_floatBitsOfSixteenths_45 : decode cX9_floatBitsOfSixteenths 45 = .ok (.iload_n 2, 1) := by decide +kernel
theorem dX9_floatBitsOfSixteenths_46 : decode cX9_floatBitsOfSixteenths 46 = .ok (.bipush 23, 2) := by decide +kernel
theorem dX9_floatBitsOfSixteenths_48 : decode cX9_floatBitsOfSixteenths 48 = .ok (.ishl, 1) := by decide +kernel
theorem dX9_floatBitsOfSixteenths_49 : decode cX9_floatBitsOfSixteenths 49 = .ok (.iload_n 3, 1) := by decide +kernel
theorem dX9_floatBitsOfSixteenths_50 : decode cX9_floatBitsOfSixteenths 50 = .ok (.ior, 1) := by decide +kernel
theorem dX9_floatBitsOfSixteenths_51 : decode cX9_floatBitsOfSixteenths 51 = .ok (.ireturn, 1) := by decide +kernel
theorem dJ7_fill_53178_0 : decode cJ7_fill_53178 0 = .ok (.iconst 0, 1) := by decide +kernel
theorem dJ7_fill_53178_1 : decode cJ7_fill_53178 1 = .ok (.istore_n 2, 1) := by decide +kernel
theorem dJ7_fill_53178_2 : decode cJ7_fill_53178 2 = .ok (.aload_n 0, 1) := by decide +kernel
theorem dJ7_fill_53178_3 : decode cJ7_fill_53178 3 = .ok (.arraylength, 1) := by decide +kernel
theorem dJ7_fill_53178_4 : decode cJ7_fill_53178 4 = .ok (.istore_n 3, 1) := by decide +kernel
theorem dJ7_fill_53178_5 : decode cJ7_fill_53178 5 = .ok (.iload_n 2, 1) := by decide +kernel
theorem dJ7_fill_53178_6 : decode cJ7_fill_53178 6 = .ok (.iload_n 3, 1) := by decide +kernel
theorem dJ7_fill_53178_7 : decode cJ7_fill_53178 7 = .ok (.if_icmp .ge 13, 3) := by decide +kernel
theorem dJ7_fill_53178_10 : decode cJ7_fill_53178 10 = .ok (.aload_n 0, 1) := by decide +kernel
theorem dJ7_fill_53178_11 : decode cJ7_fill_53178 11 = .ok (.iload_n 2, 1) := by decide +kernel
theorem dJ7_fill_53178_12 : decode cJ7_fill_53178 12 = .ok (.iload_n 1, 1) := by decide +kernel
theorem dJ7_fill_53178_13 : decode cJ7_fill_53178 13 = .ok (.iastore, 1) := by decide +kernel
theorem dJ7_fill_53178_14 : decode cJ7_fill_53178 14 = .ok (.iinc 2 1, 3) := by decide +kernel
theorem dJ7_fill_53178_17 : decode cJ7_fill_53178 17 = .ok (.goto (-12), 3) := by decide +kernel
theorem dJ7_fill_53178_20 : decode cJ7_fill_53178 20 = .ok (.return_, 1) := by decide +kernel
end
section
theorem dX10_init_0 : decode cX10_init 0 = .ok (.aload_n 0, 1) := by decide +kernel
theorem dX10_init_1 : decode cX10_init 1 = .ok (.invokespecial 1, 3) := by decide +kernel
theorem dX10_init_4 : decode cX10_init 4 = .ok (.aload_n 0, 1) := by decide +kernel
theorem dX10_init_5 : decode cX10_init 5 = .ok (.bipush 68, 2) := by decide +kernel
theorem dX10_init_7 : decode cX10_init 7 = .ok (.newarray .int, 2) := by decide +kernel
theorem dX10_init_9 : decode cX10_init 9 = .ok (.putfield 7, 3) := by decide +kernel
theorem dX10_init_12 : decode cX10_init 12 = .ok (.aload_n 0, 1) := by decide +kernel
theorem dX10_init_13 : decode cX10_init 13 = .ok (.sipush 272, 3) := by decide +kernel
theorem dX10_init_16 : decode cX10_init 16 = .ok (.newarray .int, 2) := by decide +kernel
theorem dX10_init_18 : decode cX10_init 18 = .ok (.putfield 13, 3) := by decide +kernel
theorem dX10_init_21 : decode cX10_init 21 = .ok (.aload_n 0, 1) := by decide +kernel
theorem dX10_init_22 : decode cX10_init 22 = .ok (.bipush 68, 2) := by decide +kernel
theorem dX10_init_24 : decode cX10_init 24 = .ok (.newarray .int, 2) := by decide +kernel
theorem dX10_init_26 : decode cX10_init 26 = .ok (.putfield 16, 3) := by decide +kernel
theorem dX10_init_29 : decode cX10_init 29 = .ok (.aload_n 0, 1) := by decide +kernel
theorem dX10_init_30 : decode cX10_init 30 = .ok (.bipush 80, 2) := by decide +kernel
theorem dX10_init_32 : decode cX10_init 32 = .ok (.newarray .char, 2) := by decide +kernel
theorem dX10_init_34 : decode cX10_init 34 = .ok (.putfield 19, 3) := by decide +kernel
theorem dX10_init_37 : decode cX10_init 37 = .ok (.aload_n 0, 1) := by decide +kernel
theorem dX10_init_38 : decode cX10_init 38 = .ok (.bipush 34, 2) := by decide +kernel
theorem dX10_init_40 : decode cX10_init 40 = .ok (.newarray .int, 2) := by decide +kernel
theorem dX10_init_42 : decode cX10_init 42 = .ok (.putfield 23, 3) := by decide +kernel
theorem dX10_init_45 : decode cX10_init 45 = .ok (.aload_n 0, 1) := by decide +kernel
theorem dX10_init_46 : decode cX10_init 46 = .ok (.bipush 16, 2) := by decide +kernel
theorem dX10_init_48 : decode cX10_init 48 = .ok (.newarray .int, 2) := by decide +kernel
theorem dX10_init_50 : decode cX10_init 50 = .ok (.putfield 26, 3) := by decide +kernel
theorem dX10_init_53 : decode cX10_init 53 = .ok (.aload_n 0, 1) := by decide +kernel
theorem dX10_init_54 : decode cX10_init 54 = .ok (.sipush 256, 3) := by decide +kernel
theorem dX10_init_57 : decode cX10_init 57 = .ok (.newarray .int, 2) := by decide +kernel
theorem dX10_init_59 : decode cX10_init 59 = .ok (.putfield 29, 3) := by decide +kernel
theorem dX10_init_62 : decode cX10_init 62 = .ok (.aload_n 0, 1) := by decide +kernel
theorem dX10_init_63 : decode cX10_init 63 = .ok (.sipush 256, 3) := by decide +kernel
theorem dX10_init_66 : decode cX10_init 66 = .ok (.newarray .int, 2) := by decide +kernel
theorem dX10_init_68 : decode cX10_init 68 = .ok (.putfield 32, 3) := by decide +kernel
theorem dX10_init_71 : decode cX10_init 71 = .ok (.aload_n 0, 1) := by decide +kernel
theorem dX10_init_72 : decode cX10_init 72 = .ok (.sipush 256, 3) := by decide +kernel
theorem dX10_init_75 : decode cX10_init 75 = .ok (.newarray .int, 2) := by decide +kernel
theorem dX10_init_77 : decode cX10_init 77 = .ok (.putfield 35, 3) := by decide +kernel
theorem dX10_init_80 : decode cX10_init 80 = .ok (.aload_n 0, 1) := by decide +kernel
theorem dX10_init_81 : decode cX10_init 81 = .ok (.sipush 256, 3) := by decide +kernel
theorem dX10_init_84 : decode cX10_init 84 = .ok (.newarray .int, 2) := by decide +kernel
theorem dX10_init_86 : decode cX10_init 86 = .ok (.putfield 38, 3) := by decide +kernel
theorem dX10_init_89 : decode cX10_init 89 = .ok (.aload_n 0, 1) := by decide +kernel
theorem dX10_init_90 : decode cX10_init 90 = .ok (.sipush 256, 3) := by decide +kernel
theorem dX10_init_93 : decode cX10_init 93 = .ok (.newarray .int, 2) := by decide +kernel
theorem dX10_init_95 : decode cX10_init 95 = .ok (.putfield 41, 3) := by decide +kernel
theorem dX10_init_98 : decode cX10_init 98 = .ok (.aload_n 0, 1) := by decide +kernel
theorem dX10_init_99 : decode cX10_init 99 = .ok (.sipush 20480, 3) := by decide +kernel
theorem dX10_init_102 : decode cX10_init 102 = .ok (.newarray .int, 2) := by decide +kernel
theorem dX10_init_104 : decode cX10_init 104 = .ok (.putfield 44, 3) := by decide +kernel
theorem dX10_init_107 : decode cX10_init 107 = .ok (.aload_n 0, 1) := by decide +kernel
theorem dX10_init_108 : decode cX10_init 108 = .ok (.sipush 20480, 3) := by decide +kernel
theorem dX10_init_111 : decode cX10_init 111 = .ok (.newarray .int, 2) := by decide +kernel
theorem dX10_init_113 : decode cX10_init 113 = .ok (.putfield 47, 3) := by decide +kernel
theorem dX10_init_116 : decode cX10_init 116 = .ok (.aload_n 0, 1) := by decide +kernel
theorem dX10_init_117 : decode cX10_init 117 = .ok (.bipush 16, 2) := by decide +kernel
theorem dX10_init_119 : decode cX10_init 119 = .ok (.newarray .int, 2) := by decide +kernel
theorem dX10_init_121 : decode cX10_init 121 = .ok (.putfield 50, 3) := by decide +kernel
theorem dX10_init_124 : decode cX10_init 124 = .ok (.aload_n 0, 1) := by decide +kernel
theorem dX10_init_125 : decode cX10_init 125 = .ok (.bipush 16, 2) := by decide +kernel
theorem dX10_init_127 : decode cX10_init 127 = .ok (.newarray .int, 2) := by decide +kernel
theorem dX10_init_129 : decode cX10_init 129 = .ok (.putfield 53, 3) := by decide +kernel
theorem dX10_init_132 : decode cX10_init 132 = .ok (.aload_n 0, 1) := by decide +kernel
theorem dX10_init_133 : decode cX10_init 133 = .ok (.getfield 7, 3) := by decide +kernel
theorem dX10_init_136 : decode cX10_init 136 = .ok (.iconst 0, 1) := by decide +kernel
theorem dX10_init_137 : decode cX10_init 137 = .ok (.invokestatic 56, 3) := by decide +kernel
theorem dX10_init_140 : decode cX10_init 140 = .ok (.aload_n 0, 1) := by decide +kernel
theorem dX10_init_141 : decode cX10_init 141 = .ok (.getfield 7, 3) := by decide +kernel
theorem dX10_init_144 : decode cX10_init 144 = .ok (.bipush 34, 2) := by decide +kernel
theorem dX10_init_146 : decode cX10_init 146 = .ok (.invokestatic 56, 3) := by decide +kernel
theorem dX10_init_149 : decode cX10_init 149 = .ok (.return_, 1) := by decide +kernel
theorem dX10_in_0 : decode cX10_in 0 = .ok (.iload_n 0, 1) := by decide +kernel
theorem dX10_in_1 : decode cX10_in 1 = .ok (.iload_n 1, 1) := by decide +kernel
theorem dX10_in_2 : decode cX10_in 2 = .ok (.if_icmp .lt 12, 3) := by decide +kernel
theorem dX10_in_5 : decode cX10_in 5 = .ok (.iload_n 0, 1) := by decide +kernel
theorem dX10_in_6 : decode cX10_in 6 = .ok (.iload_n 2, 1) := by decide +kernel
theorem dX10_in_7 : decode cX10_in 7 = .ok (.if_icmp .gt 7, 3) := by decide +kernel
theorem dX10_in_10 : decode cX10_in 10 = .ok (.iconst 1, 1) := by decide +kernel
theorem dX10_in_11 : decode cX10_in 11 = .ok (.goto 4, 3) := by decide +kernel
theorem dX10_in_14 : decode cX10_in 14 = .ok (.iconst 0, 1) := by decide +kernel
theorem dX10_in_15 : decode cX10_in 15 = .ok (.ireturn, 1) := by decide +kernel
theorem dX10_lays_0 : decode cX10_lays 0 = .ok (.iconst 0, 1) := by decide +kernel
theorem dX10_lays_1 : decode cX10_lays 1 = .ok (.istore_n 2, 1) := by decide +kernel
theorem dX10_lays_2 : decode cX10_lays 2 = .ok (.iload_n 2, 1) := by decide +kernel
theorem dX10_lays_3 : decode cX10_lays 3 = .ok (.bipush 34, 2) := by decide +kernel
theorem dX10_lays_5 : decode cX10_lays 5 = .ok (.if_icmp .ge 36, 3) := by decide +kernel
theorem dX10_lays_8 : decode cX10_lays 8 = .ok (.aload_n 0, 1) := by decide +kernel
theorem dX10_lays_9 : decode cX10_lays 9 = .ok (.iload_n 1, 1) := by decide +kernel
theorem dX10_lays_10 : decode cX10_lays 10 = .ok (.iload_n 2, 1) := by decide +kernel
theorem dX10_lays_11 : decode cX10_lays 11 = .ok (.iadd, 1) := by decide +kernel
theorem dX10_lays_12 : decode cX10_lays 12 = .ok (.iload_n 2, 1) := by decide +kernel
theorem dX10_lays_13 : decode cX10_lays 13 = .ok (.iconst 2, 1) := by decide +kernel
theorem dX10_lays_14 : decode cX10_lays 14 = .ok (.if_icmp .lt 9, 3) := by decide +kernel
theorem dX10_lays_17 : decode cX10_lays 17 = .ok (.iload_n 2, 1) := by decide +kernel
theorem dX10_lays_18 : decode cX10_lays 18 = .ok (.bipush 6, 2) := by decide +kernel
theorem dX10_lays_20 : decode cX10_lays 20 = .ok (.if_icmp .lt 8, 3) := by decide +kernel
theorem dX10_lays_23 : decode cX10_lays 23 = .ok (.iload_n 2, 1) := by decide +kernel
theorem dX10_lays_24 : decode cX10_lays 24 = .ok (.iconst 1, 1) := by decide +kernel
theorem dX10_lays_25 : decode cX10_lays 25 = .ok (.if_icmp .ne 8, 3) := by decide +kernel
theorem dX10_lays_28 : decode cX10_lays 28 = .ok (.bipush 14, 2) := by decide +kernel
theorem dX10_lays_30 : decode cX10_lays 30 = .ok (.goto 4, 3) := by decide +kernel
theorem dX10_lays_33 : decode cX10_lays 33 = .ok (.iconst 0, 1) := by decide +kernel
theorem dX10_lays_34 : decode cX10_lays 34 = .ok (.iastore, 1) := by decide +kernel
theorem dX10_lays_35 : decode cX10_lays 35 = .ok (.iinc 2 1, 3) := by decide +kernel
theorem dX10_lays_38 : decode cX10_lays 38 = .ok (.goto (-36), 3) := by decide +kernel
theorem dX10_lays_41 : decode cX10_lays 41 = .ok (.return_, 1) := by decide +kernel
theorem dX10_of_0 : decode cX10_of 0 = .ok (.aload_n 0, 1) := by decide +kernel
theorem dX10_of_1 : decode cX10_of 1 = .ok (.getfield 7, 3) := by decide +kernel
theorem dX10_of_4 : decode cX10_of 4 = .ok (.bipush 34, 2) := by decide +kernel
theorem dX10_of_6 : decode cX10_of 6 = .ok (.iload_n 1, 1) := by decide +kernel
theorem dX10_of_7 : decode cX10_of 7 = .ok (.imul, 1) := by decide +kernel
theorem dX10_of_8 : decode cX10_of 8 = .ok (.iload_n 2, 1) := by decide +kernel
theorem dX10_of_9 : decode cX10_of 9 = .ok (.iadd, 1) := by decide +kernel
theorem dX10_of_10 : decode cX10_of 10 = .ok (.iaload, 1) := by decide +kernel
theorem dX10_of_11 : decode cX10_of 11 = .ok (.ireturn, 1) := by decide +kernel
theorem dX10_keeps_0 : decode cX10_keeps 0 = .ok (.iconst 0, 1) := by decide +kernel
theorem dX10_keeps_1 : decode cX10_keeps 1 = .ok (.istore_n 1, 1) := by decide +kernel
theorem dX10_keeps_2 : decode cX10_keeps 2 = .ok (.iload_n 1, 1) := by decide +kernel
theorem dX10_keeps_3 : decode cX10_keeps 3 = .ok (.bipush 68, 2) := by decide +kernel
theorem dX10_keeps_5 : decode cX10_keeps 5 = .ok (.if_icmp .ge 21, 3) := by decide +kernel
theorem dX10_keeps_8 : decode cX10_keeps 8 = .ok (.aload_n 0, 1) := by decide +kernel
theorem dX10_keeps_9 : decode cX10_keeps 9 = .ok (.getfield 16, 3) := by decide +kernel
theorem dX10_keeps_12 : decode cX10_keeps 12 = .ok (.iload_n 1, 1) := by decide +kernel
theorem dX10_keeps_13 : decode cX10_keeps 13 = .ok (.aload_n 0, 1) := by decide +kernel
theorem dX10_keeps_14 : decode cX10_keeps 14 = .ok (.getfield 7, 3) := by decide +kernel
theorem dX10_keeps_17 : decode cX10_keeps 17 = .ok (.iload_n 1, 1) := by decide +kernel
theorem dX10_keeps_18 : decode cX10_keeps 18 = .ok (.iaload, 1) := by decide +kernel
theorem dX10_keeps_19 : decode cX10_keeps 19 = .ok (.iastore, 1) := by decide +kernel
theorem dX10_keeps_20 : decode cX10_keeps 20 = .ok (.iinc 1 1, 3) := by decide +kernel
theorem dX10_keeps_23 : decode cX10_keeps 23 = .ok (.goto (-21), 3) := by decide +kernel
theorem dX10_keeps_26 : decode cX10_keeps 26 = .ok (.return_, 1) := by decide +kernel
theorem dX10_acted_0 : decode cX10_acted 0 = .ok (.iload_n 1, 1) := by decide +kernel
theorem dX10_acted_1 : decode cX10_acted 1 = .ok (.ldc 60, 2) := by decide +kernel
theorem dX10_acted_3 : decode cX10_acted 3 = .ok (.if_icmp .le 95, 3) := by decide +kernel
theorem dX10_acted_6 : decode cX10_acted 6 = .ok (.aload_n 0, 1) := by decide +kernel
theorem dX10_acted_7 : decode cX10_acted 7 = .ok (.getfield 61, 3) := by decide +kernel
theorem dX10_acted_10 : decode cX10_acted 10 = .ok (.iconst 4, 1) := by decide +kernel
theorem dX10_acted_11 : decode cX10_acted 11 = .ok (.if_icmp .ne 43, 3) := by decide +kernel
theorem dX10_acted_14 : decode cX10_acted 14 = .ok (.iconst 0, 1) := by decide +kernel
theorem dX10_acted_15 : decode cX10_acted 15 = .ok (.istore_n 2, 1) := by decide +kernel
theorem dX10_acted_16 : decode cX10_acted 16 = .ok (.iload_n 2, 1) := by decide +kernel
theorem dX10_acted_17 : decode cX10_acted 17 = .ok (.sipush 204, 3) := by decide +kernel
theorem dX10_acted_20 : decode cX10_acted 20 = .ok (.if_icmp .ge 24, 3) := by decide +kernel
theorem dX10_acted_23 : decode cX10_acted 23 = .ok (.aload_n 0, 1) := by decide +kernel
theorem dX10_acted_24 : decode cX10_acted 24 = .ok (.getfield 13, 3) := by decide +kernel
theorem dX10_acted_27 : decode cX10_acted 27 = .ok (.iload_n 2, 1) := by decide +kernel
theorem dX10_acted_28 : decode cX10_acted 28 = .ok (.aload_n 0, 1) := by decide +kernel
theorem dX10_acted_29 : decode cX10_acted 29 = .ok (.getfield 13, 3) := by decide +kernel
theorem dX10_acted_32 : decode cX10_acted 32 = .ok (.iload_n 2, 1) := by decide +kernel
theorem dX10_acted_33 : decode cX10_acted 33 = .ok (.bipush 68, 2) := by decide +kernel
theorem dX10_acted_35 : decode cX10_acted 35 = .ok (.iadd, 1) := by decide +kernel
theorem dX10_acted_36 : decode cX10_acted 36 = .ok (.iaload, 1) := by decide +kernel
theorem dX10_acted_37 : decode cX10_acted 37 = .ok (.iastore, 1) := by decide +kernel
theorem dX10_acted_38 : decode cX10_acted 38 = .ok (.iinc 2 1, 3) := by decide +kernel
theorem dX10_acted_41 : decode cX10_acted 41 = .ok (.goto (-25), 3) := by decide +kernel
theorem dX10_acted_44 : decode cX10_acted 44 = .ok (.aload_n 0, 1) := by decide +kernel
theorem dX10_acted_45 : decode cX10_acted 45 = .ok (.dup, 1) := by decide +kernel
theorem dX10_acted_46 : decode cX10_acted 46 = .ok (.getfield 61, 3) := by decide +kernel
theorem dX10_acted_49 : decode cX10_acted 49 = .ok (.iconst 1, 1) := by decide +kernel
theorem dX10_acted_50 : decode cX10_acted 50 = .ok (.isub, 1) := by decide +kernel
theorem dX10_acted_51 : decode cX10_acted 51 = .ok (.putfield 61, 3) := by decide +kernel
theorem dX10_acted_54 : decode cX10_acted 54 = .ok (.iconst 0, 1) := by decide +kernel
theorem dX10_acted_55 : decode cX10_acted 55 = .ok (.istore_n 2, 1) := by decide +kernel
theorem dX10_acted_56 : decode cX10_acted 56 = .ok (.iload_n 2, 1) := by decide +kernel
theorem dX10_acted_57 : decode cX10_acted 57 = .ok (.bipush 68, 2) := by decide +kernel
theorem dX10_acted_59 : decode cX10_acted 59 = .ok (.if_icmp .ge 29, 3) := by decide +kernel
theorem dX10_acted_62 : decode cX10_acted 62 = .ok (.aload_n 0, 1) := by decide +kernel
theorem dX10_acted_63 : decode cX10_acted 63 = .ok (.getfield 13, 3) := by decide +kernel
theorem dX10_acted_66 : decode cX10_acted 66 = .ok (.bipush 68, 2) := by decide +kernel
theorem dX10_acted_68 : decode cX10_acted 68 = .ok (.aload_n 0, 1) := by decide +kernel
theorem dX10_acted_69 : decode cX10_acted 69 = .ok (.getfield 61, 3) := by decide +kernel
theorem dX10_acted_72 : decode cX10_acted 72 = .ok (.imul, 1) := by decide +kernel
theorem dX10_acted_73 : decode cX10_acted 73 = .ok (.iload_n 2, 1) := by decide +kernel
theorem dX10_acted_74 : decode cX10_acted 74 = .ok (.iadd, 1) := by decide +kernel
theorem dX10_acted_75 : decode cX10_acted 75 = .ok (.aload_n 0, 1) := by decide +kernel
theorem dX10_acted_76 : decode cX10_acted 76 = .ok (.getfield 16, 3) := by decide +kernel
theorem dX10_acted_79 : decode cX10_acted 79 = .ok (.iload_n 2, 1) := by decide +kernel
theorem dX10_acted_80 : decode cX10_acted 80 = .ok (.iaload, 1) := by decide +kernel
theorem dX10_acted_81 : decode cX10_acted 81 = .ok (.iastore, 1) := by decide +kernel
theorem dX10_acted_82 : decode cX10_acted 82 = .ok (.iinc 2 1, 3) := by decide +kernel
theorem dX10_acted_85 : decode cX10_acted 85 = .ok (.goto (-29), 3) := by decide +kernel
theorem dX10_acted_88 : decode cX10_acted 88 = .ok (.aload_n 0, 1) := by decide +kernel
theorem dX10_acted_89 : decode cX10_acted 89 = .ok (.dup, 1) := by decide +kernel
theorem dX10_acted_90 : decode cX10_acted 90 = .ok (.getfield 61, 3) := by decide +kernel
theorem dX10_acted_93 : decode cX10_acted 93 = .ok (.iconst 1, 1) := by decide +kernel
theorem dX10_acted_94 : decode cX10_acted 94 = .ok (.iadd, 1) := by decide +kernel
theorem dX10_acted_95 : decode cX10_acted 95 = .ok (.putfield 61, 3) := by decide +kernel
theorem dX10_acted_98 : decode cX10_acted 98 = .ok (.iload_n 1, 1) := by decide +kernel
theorem dX10_acted_99 : decode cX10_acted 99 = .ok (.ireturn, 1) := by decide +kernel
theorem dX10_isAllowed_0 : decode cX10_isAllowed 0 = .ok (.iload_n 1, 1) := by decide +kernel
theorem dX10_isAllowed_1 : decode cX10_isAllowed 1 = .ok (.iconst 0, 1) := by decide +kernel
theorem dX10_isAllowed_2 : decode cX10_isAllowed 2 = .ok (.iconst 5, 1) := by decide +kernel
theorem dX10_isAllowed_3 : decode cX10_isAllowed 3 = .ok (.iload_n 0, 1) := by decide +kernel
theorem dX10_isAllowed_4 : decode cX10_isAllowed 4 = .ok (.iadd, 1) := by decide +kernel
theorem dX10_isAllowed_5 : decode cX10_isAllowed 5 = .ok (.invokestatic 65, 3) := by decide +kernel
theorem dX10_isAllowed_8 : decode cX10_isAllowed 8 = .ok (.ifCond .ne 14, 3) := by decide +kernel
theorem dX10_isAllowed_11 : decode cX10_isAllowed 11 = .ok (.iload_n 1, 1) := by decide +kernel
theorem dX10_isAllowed_12 : decode cX10_isAllowed 12 = .ok (.bipush 14, 2) := by decide +kernel
theorem dX10_isAllowed_14 : decode cX10_isAllowed 14 = .ok (.bipush 15, 2) := by decide +kernel
theorem dX10_isAllowed_16 : decode cX10_isAllowed 16 = .ok (.invokestatic 65, 3) := by decide +kernel
theorem dX10_isAllowed_19 : decode cX10_isAllowed 19 = .ok (.ifCond .eq 7, 3) := by decide +kernel
theorem dX10_isAllowed_22 : decode cX10_isAllowed 22 = .ok (.iconst 1, 1) := by decide +kernel
theorem dX10_isAllowed_23 : decode cX10_isAllowed 23 = .ok (.goto 4, 3) := by decide +kernel
theorem dX10_isAllowed_26 : decode cX10_isAllowed 26 = .ok (.iconst 0, 1) := by decide +kernel
theorem dX10_isAllowed_27 : decode cX10_isAllowed 27 = .ok (.ireturn, 1) := by decide +kernel
theorem dX10_gate_0 : decode cX10_gate 0 = .ok (.iload_n 1, 1) := by decide +kernel
theorem dX10_gate_1 : decode cX10_gate 1 = .ok (.iconst 0, 1) := by decide +kernel
theorem dX10_gate_2 : decode cX10_gate 2 = .ok (.iconst 1, 1) := by decide +kernel
theorem dX10_gate_3 : decode cX10_gate 3 = .ok (.invokestatic 65, 3) := by decide +kernel
theorem dX10_gate_6 : decode cX10_gate 6 = .ok (.ifCond .eq 44, 3) := by decide +kernel
theorem dX10_gate_9 : decode cX10_gate 9 = .ok (.iload_n 2, 1) := by decide +kernel
theorem dX10_gate_10 : decode cX10_gate 10 = .ok (.iconst 0, 1) := by decide +kernel
theorem dX10_gate_11 : decode cX10_gate 11 = .ok (.aload_n 0, 1) := by decide +kernel
theorem dX10_gate_12 : decode cX10_gate 12 = .ok (.iload_n 1, 1) := by decide +kernel
theorem dX10_gate_13 : decode cX10_gate 13 = .ok (.iconst 0, 1) := by decide +kernel
theorem dX10_gate_14 : decode cX10_gate 14 = .ok (.invokevirtual 69, 3) := by decide +kernel
theorem dX10_gate_17 : decode cX10_gate 17 = .ok (.invokestatic 65, 3) := by decide +kernel
theorem dX10_gate_20 : decode cX10_gate 20 = .ok (.ifCond .eq 30, 3) := by decide +kernel
theorem dX10_gate_23 : decode cX10_gate 23 = .ok (.iload_n 3, 1) := by decide +kernel
theorem dX10_gate_24 : decode cX10_gate 24 = .ok (.iconst 0, 1) := by decide +kernel
theorem dX10_gate_25 : decode cX10_gate 25 = .ok (.iconst 5, 1) := by decide +kernel
theorem dX10_gate_26 : decode cX10_gate 26 = .ok (.invokestatic 65, 3) := by decide +kernel
theorem dX10_gate_29 : decode cX10_gate 29 = .ok (.ifCond .eq 21, 3) := by decide +kernel
theorem dX10_gate_32 : decode cX10_gate 32 = .ok (.iload_n 2, 1) := by decide +kernel
theorem dX10_gate_33 : decode cX10_gate 33 = .ok (.iload 4, 2) := by decide +kernel
theorem dX10_gate_35 : decode cX10_gate 35 = .ok (.invokestatic 73, 3) := by decide +kernel
theorem dX10_gate_38 : decode cX10_gate 38 = .ok (.ifCond .eq 12, 3) := by decide +kernel
theorem dX10_gate_41 : decode cX10_gate 41 = .ok (.iload_n 2, 1) := by decide +kernel
theorem dX10_gate_42 : decode cX10_gate 42 = .ok (.iload 5, 2) := by decide +kernel
theorem dX10_gate_44 : decode cX10_gate 44 = .ok (.invokestatic 73, 3) := by decide +kernel
theorem dX10_gate_47 : decode cX10_gate 47 = .ok (.ifCond .ne 6, 3) := by decide +kernel
theorem dX10_gate_50 : decode cX10_gate 50 = .ok (.ldc 60, 2) := by decide +kernel
theorem dX10_gate_52 : decode cX10_gate 52 = .ok (.ireturn, 1) := by decide +kernel
theorem dX10_gate_53 : decode cX10_gate 53 = .ok (.iload_n 2, 1) := by decide +kernel
theorem dX10_gate_54 : decode cX10_gate 54 = .ok (.bipush 8, 2) := by decide +kernel
theorem dX10_gate_56 : decode cX10_gate 56 = .ok (.if_icmp .ne 6, 3) := by decide +kernel
theorem dX10_gate_59 : decode cX10_gate 59 = .ok (.ldc 77, 2) := by decide +kernel
theorem dX10_gate_61 : decode cX10_gate 61 = .ok (.ireturn, 1) := by decide +kernel
theorem dX10_gate_62 : decode cX10_gate 62 = .ok (.aload_n 0, 1) := by decide +kernel
theorem dX10_gate_63 : decode cX10_gate 63 = .ok (.invokevirtual 78, 3) := by decide +kernel
theorem dX10_gate_66 : decode cX10_gate 66 = .ok (.bipush 34, 2) := by decide +kernel
theorem dX10_gate_68 : decode cX10_gate 68 = .ok (.iload_n 1, 1) := by decide +kernel
theorem dX10_gate_69 : decode cX10_gate 69 = .ok (.imul, 1) := by decide +kernel
theorem dX10_gate_70 : decode cX10_gate 70 = .ok (.bipush 10, 2) := by decide +kernel
theorem dX10_gate_72 : decode cX10_gate 72 = .ok (.iadd, 1) := by decide +kernel
theorem dX10_gate_73 : decode cX10_gate 73 = .ok (.iconst 3, 1) := by decide +kernel
theorem dX10_gate_74 : decode cX10_gate 74 = .ok (.iload_n 2, 1) := by decide +kernel
theorem dX10_gate_75 : decode cX10_gate 75 = .ok (.imul, 1) := by decide +kernel
theorem dX10_gate_76 : decode cX10_gate 76 = .ok (.iadd, 1) := by decide +kernel
theorem dX10_gate_77 : decode cX10_gate 77 = .ok (.istore 6, 2) := by decide +kernel
theorem dX10_gate_79 : decode cX10_gate 79 = .ok (.aload_n 0, 1) := by decide +kernel
theorem dX10_gate_80 : decode cX10_gate 80 = .ok (.getfield 7, 3) := by decide +kernel
theorem dX10_gate_83 : decode cX10_gate 83 = .ok (.iload 6, 2) := by decide +kernel
theorem dX10_gate_85 : decode cX10_gate 85 = .ok (.iload_n 3, 1) := by decide +kernel
theorem dX10_gate_86 : decode cX10_gate 86 = .ok (.iastore, 1) := by decide +kernel
theorem dX10_gate_87 : decode cX10_gate 87 = .ok (.aload_n 0, 1) := by decide +kernel
theorem dX10_gate_88 : decode cX10_gate 88 = .ok (.getfield 7, 3) := by decide +kernel
theorem dX10_gate_91 : decode cX10_gate 91 = .ok (.iload 6, 2) := by decide +kernel
theorem dX10_gate_93 : decode cX10_gate 93 = .ok (.iconst 1, 1) := by decide +kernel
theorem dX10_gate_94 : decode cX10_gate 94 = .ok (.iadd, 1) := by decide +kernel
theorem dX10_gate_95 : decode cX10_gate 95 = .ok (.iload 4, 2) := by decide +kernel
theorem dX10_gate_97 : decode cX10_gate 97 = .ok (.iastore, 1) := by decide +kernel
theorem dX10_gate_98 : decode cX10_gate 98 = .ok (.aload_n 0, 1) := by decide +kernel
theorem dX10_gate_99 : decode cX10_gate 99 = .ok (.getfield 7, 3) := by decide +kernel
theorem dX10_gate_102 : decode cX10_gate 102 = .ok (.iload 6, 2) := by decide +kernel
theorem dX10_gate_104 : decode cX10_gate 104 = .ok (.iconst 2, 1) := by decide +kernel
theorem dX10_gate_105 : decode cX10_gate 105 = .ok (.iadd, 1) := by decide +kernel
theorem dX10_gate_106 : decode cX10_gate 106 = .ok (.iload 5, 2) := by decide +kernel
theorem dX10_gate_108 : decode cX10_gate 108 = .ok (.iastore, 1) := by decide +kernel
theorem dX10_gate_109 : decode cX10_gate 109 = .ok (.aload_n 0, 1) := by decide +kernel
theorem dX10_gate_110 : decode cX10_gate 110 = .ok (.getfield 7, 3) := by decide +kernel
theorem dX10_gate_113 : decode cX10_gate 113 = .ok (.bipush 34, 2) := by decide +kernel
theorem dX10_gate_115 : decode cX10_gate 115 = .ok (.iload_n 1, 1) := by decide +kernel
theorem dX10_gate_116 : decode cX10_gate 116 = .ok (.imul, 1) := by decide +kernel
theorem dX10_gate_117 : decode cX10_gate 117 = .ok (.dup2, 1) := by decide +kernel
theorem dX10_gate_118 : decode cX10_gate 118 = .ok (.iaload, 1) := by decide +kernel
theorem dX10_gate_119 : decode cX10_gate 119 = .ok (.iload_n 2, 1) := by decide +kernel
theorem dX10_gate_120 : decode cX10_gate 120 = .ok (.aload_n 0, 1) := by decide +kernel
theorem dX10_gate_121 : decode cX10_gate 121 = .ok (.iload_n 1, 1) := by decide +kernel
theorem dX10_gate_122 : decode cX10_gate 122 = .ok (.iconst 0, 1) := by decide +kernel
theorem dX10_gate_123 : decode cX10_gate 123 = .ok (.invokevirtual 69, 3) := by decide +kernel
theorem dX10_gate_126 : decode cX10_gate 126 = .ok (.if_icmp .ne 7, 3) := by decide +kernel
theorem dX10_gate_129 : decode cX10_gate 129 = .ok (.iconst 1, 1) := by decide +kernel
theorem dX10_gate_130 : decode cX10_gate 130 = .ok (.goto 4, 3) := by decide +kernel
theorem dX10_gate_133 : decode cX10_gate 133 = .ok (.iconst 0, 1) := by decide +kernel
theorem dX10_gate_134 : decode cX10_gate 134 = .ok (.iadd, 1) := by decide +kernel
theorem dX10_gate_135 : decode cX10_gate 135 = .ok (.iastore, 1) := by decide +kernel
theorem dX10_gate_136 : decode cX10_gate 136 = .ok (.aload_n 0, 1) := by decide +kernel
theorem dX10_gate_137 : decode cX10_gate 137 = .ok (.aload_n 0, 1) := by decide +kernel
theorem dX10_gate_138 : decode cX10_gate 138 = .ok (.iload_n 1, 1) := by decide +kernel
theorem dX10_gate_139 : decode cX10_gate 139 = .ok (.iconst 0, 1) := by decide +kernel
theorem dX10_gate_140 : decode cX10_gate 140 = .ok (.invokevirtual 69, 3) := by decide +kernel
theorem dX10_gate_143 : decode cX10_gate 143 = .ok (.invokevirtual 81, 3) := by decide +kernel
theorem dX10_gate_146 : decode cX10_gate 146 = .ok (.ireturn, 1) := by decide +kernel
theorem dX10_dropGate_0 : decode cX10_dropGate 0 = .ok (.iload_n 1, 1) := by decide +kernel
theorem dX10_dropGate_1 : decode cX10_dropGate 1 = .ok (.iconst 0, 1) := by decide +kernel
theorem dX10_dropGate_2 : decode cX10_dropGate 2 = .ok (.iconst 1, 1) := by decide +kernel
theorem dX10_dropGate_3 : decode cX10_dropGate 3 = .ok (.invokestatic 65, 3) := by decide +kernel
theorem dX10_dropGate_6 : decode cX10_dropGate 6 = .ok (.ifCond .ne 6, 3) := by decide +kernel
theorem dX10_dropGate_9 : decode cX10_dropGate 9 = .ok (.ldc 60, 2) := by decide +kernel
theorem dX10_dropGate_11 : decode cX10_dropGate 11 = .ok (.ireturn, 1) := by decide +kernel
theorem dX10_dropGate_12 : decode cX10_dropGate 12 = .ok (.aload_n 0, 1) := by decide +kernel
theorem dX10_dropGate_13 : decode cX10_dropGate 13 = .ok (.iload_n 1, 1) := by decide +kernel
theorem dX10_dropGate_14 : decode cX10_dropGate 14 = .ok (.iconst 0, 1) := by decide +kernel
theorem dX10_dropGate_15 : decode cX10_dropGate 15 = .ok (.invokevirtual 69, 3) := by decide +kernel
theorem dX10_dropGate_18 : decode cX10_dropGate 18 = .ok (.ifCond .ne 6, 3) := by decide +kernel
theorem dX10_dropGate_21 : decode cX10_dropGate 21 = .ok (.ldc 85, 2) := by decide +kernel
theorem dX10_dropGate_23 : decode cX10_dropGate 23 = .ok (.ireturn, 1) := by decide +kernel
theorem dX10_dropGate_24 : decode cX10_dropGate 24 = .ok (.aload_n 0, 1) := by decide +kernel
theorem dX10_dropGate_25 : decode cX10_dropGate 25 = .ok (.invokevirtual 78, 3) := by decide +kernel
theorem dX10_dropGate_28 : decode cX10_dropGate 28 = .ok (.aload_n 0, 1) := by decide +kernel
theorem dX10_dropGate_29 : decode cX10_dropGate 29 = .ok (.getfield 7, 3) := by decide +kernel
theorem dX10_dropGate_32 : decode cX10_dropGate 32 = .ok (.bipush 34, 2) := by decide +kernel
theorem dX10_dropGate_34 : decode cX10_dropGate 34 = .ok (.iload_n 1, 1) := by decide +kernel
theorem dX10_dropGate_35 : decode cX10_dropGate 35 = .ok (.imul, 1) := by decide +kernel
theorem dX10_dropGate_36 : decode cX10_dropGate 36 = .ok (.dup2, 1) := by decide +kernel
theorem dX10_dropGate_37 : decode cX10_dropGate 37 = .ok (.iaload, 1) := by decide +kernel
theorem dX10_dropGate_38 : decode cX10_dropGate 38 = .ok (.iconst 1, 1) := by decide +kernel
theorem dX10_dropGate_39 : decode cX10_dropGate 39 = .ok (.isub, 1) := by decide +kernel
theorem dX10_dropGate_40 : decode cX10_dropGate 40 = .ok (.iastore, 1) := by decide +kernel
theorem dX10_dropGate_41 : decode cX10_dropGate 41 = .ok (.aload_n 0, 1) := by decide +kernel
theorem dX10_dropGate_42 : decode cX10_dropGate 42 = .ok (.aload_n 0, 1) := by decide +kernel
theorem dX10_dropGate_43 : decode cX10_dropGate 43 = .ok (.iload_n 1, 1) := by decide +kernel
theorem dX10_dropGate_44 : decode cX10_dropGate 44 = .ok (.iconst 0, 1) := by decide +kernel
theorem dX10_dropGate_45 : decode cX10_dropGate 45 = .ok (.invokevirtual 69, 3) := by decide +kernel
theorem dX10_dropGate_48 : decode cX10_dropGate 48 = .ok (.invokevirtual 81, 3) := by decide +kernel
theorem dX10_dropGate_51 : decode cX10_dropGate 51 = .ok (.ireturn, 1) := by decide +kernel
theorem dX10_register_0 : decode cX10_register 0 = .ok (.iload_n 1, 1) := by decide +kernel
theorem dX10_register_1 : decode cX10_register 1 = .ok (.iconst 0, 1) := by decide +kernel
theorem dX10_register_2 : decode cX10_register 2 = .ok (.iconst 1, 1) := by decide +kernel
theorem dX10_register_3 : decode cX10_register 3 = .ok (.invokestatic 65, 3) := by decide +kernel
theorem dX10_register_6 : decode cX10_register 6 = .ok (.ifCond .eq 32, 3) := by decide +kernel
theorem dX10_register_9 : decode cX10_register 9 = .ok (.iload_n 2, 1) := by decide +kernel
theorem dX10_register_10 : decode cX10_register 10 = .ok (.iconst 0, 1) := by decide +kernel
theorem dX10_register_11 : decode cX10_register 11 = .ok (.iconst 3, 1) := by decide +kernel
theorem dX10_register_12 : decode cX10_register 12 = .ok (.invokestatic 65, 3) := by decide +kernel
theorem dX10_register_15 : decode cX10_register 15 = .ok (.ifCond .eq 23, 3) := by decide +kernel
theorem dX10_register_18 : decode cX10_register 18 = .ok (.iload_n 3, 1) := by decide +kernel
theorem dX10_register_19 : decode cX10_register 19 = .ok (.iconst 0, 1) := by decide +kernel
theorem dX10_register_20 : decode cX10_register 20 = .ok (.bipush 15, 2) := by decide +kernel
theorem dX10_register_22 : decode cX10_register 22 = .ok (.invokestatic 65, 3) := by decide +kernel
theorem dX10_register_25 : decode cX10_register 25 = .ok (.ifCond .eq 13, 3) := by decide +kernel
theorem dX10_register_28 : decode cX10_register 28 = .ok (.iload 4, 2) := by decide +kernel
theorem dX10_register_30 : decode cX10_register 30 = .ok (.iconst 0, 1) := by decide +kernel
theorem dX10_register_31 : decode cX10_register 31 = .ok (.iconst 1, 1) := by decide +kernel
theorem dX10_register_32 : decode cX10_register 32 = .ok (.invokestatic 65, 3) := by decide +kernel
theorem dX10_register_35 : decode cX10_register 35 = .ok (.ifCond .ne 6, 3) := by decide +kernel
theorem dX10_register_38 : decode cX10_register 38 = .ok (.ldc 60, 2) := by decide +kernel
theorem dX10_register_40 : decode cX10_register 40 = .ok (.ireturn, 1) := by decide +kernel
theorem dX10_register_41 : decode cX10_register 41 = .ok (.aload_n 0, 1) := by decide +kernel
theorem dX10_register_42 : decode cX10_register 42 = .ok (.invokevirtual 78, 3) := by decide +kernel
theorem dX10_register_45 : decode cX10_register 45 = .ok (.bipush 34, 2) := by decide +kernel
theorem dX10_register_47 : decode cX10_register 47 = .ok (.iload_n 1, 1) := by decide +kernel
theorem dX10_register_48 : decode cX10_register 48 = .ok (.imul, 1) := by decide +kernel
theorem dX10_register_49 : decode cX10_register 49 = .ok (.iload_n 2, 1) := by decide +kernel
theorem dX10_register_50 : decode cX10_register 50 = .ok (.iadd, 1) := by decide +kernel
theorem dX10_register_51 : decode cX10_register 51 = .ok (.istore 5, 2) := by decide +kernel
theorem dX10_register_53 : decode cX10_register 53 = .ok (.iconst 2, 1) := by decide +kernel
theorem dX10_register_54 : decode cX10_register 54 = .ok (.aload_n 0, 1) := by decide +kernel
theorem dX10_register_55 : decode cX10_register 55 = .ok (.getfield 7, 3) := by decide +kernel
theorem dX10_register_58 : decode cX10_register 58 = .ok (.iload 5, 2) := by decide +kernel
theorem dX10_register_60 : decode cX10_register 60 = .ok (.iconst 2, 1) := by decide +kernel
theorem dX10_register_61 : decode cX10_register 61 = .ok (.iadd, 1) := by decide +kernel
theorem dX10_register_62 : decode cX10_register 62 = .ok (.iaload, 1) := by decide +kernel
theorem dX10_register_63 : decode cX10_register 63 = .ok (.imul, 1) := by decide +kernel
theorem dX10_register_64 : decode cX10_register 64 = .ok (.aload_n 0, 1) := by decide +kernel
theorem dX10_register_65 : decode cX10_register 65 = .ok (.getfield 7, 3) := by decide +kernel
theorem dX10_register_68 : decode cX10_register 68 = .ok (.iload 5, 2) := by decide +kernel
theorem dX10_register_70 : decode cX10_register 70 = .ok (.bipush 6, 2) := by decide +kernel
theorem dX10_register_72 : decode cX10_register 72 = .ok (.iadd, 1) := by decide +kernel
theorem dX10_register_73 : decode cX10_register 73 = .ok (.iaload, 1) := by decide +kernel
theorem dX10_register_74 : decode cX10_register 74 = .ok (.iadd, 1) := by decide +kernel
theorem dX10_register_75 : decode cX10_register 75 = .ok (.istore 6, 2) := by decide +kernel
theorem dX10_register_77 : decode cX10_register 77 = .ok (.aload_n 0, 1) := by decide +kernel
theorem dX10_register_78 : decode cX10_register 78 = .ok (.getfield 7, 3) := by decide +kernel
theorem dX10_register_81 : decode cX10_register 81 = .ok (.iload 5, 2) := by decide +kernel
theorem dX10_register_83 : decode cX10_register 83 = .ok (.iconst 2, 1) := by decide +kernel
theorem dX10_register_84 : decode cX10_register 84 = .ok (.iadd, 1) := by decide +kernel
theorem dX10_register_85 : decode cX10_register 85 = .ok (.iload_n 3, 1) := by decide +kernel
theorem dX10_register_86 : decode cX10_register 86 = .ok (.iastore, 1) := by decide +kernel
theorem dX10_register_87 : decode cX10_register 87 = .ok (.aload_n 0, 1) := by decide +kernel
theorem dX10_register_88 : decode cX10_register 88 = .ok (.getfield 7, 3) := by decide +kernel
theorem dX10_register_91 : decode cX10_register 91 = .ok (.iload 5, 2) := by decide +kernel
theorem dX10_register_93 : decode cX10_register 93 = .ok (.bipush 6, 2) := by decide +kernel
theorem dX10_register_95 : decode cX10_register 95 = .ok (.iadd, 1) := by decide +kernel
theorem dX10_register_96 : decode cX10_register 96 = .ok (.iload 4, 2) := by decide +kernel
theorem dX10_register_98 : decode cX10_register 98 = .ok (.iastore, 1) := by decide +kernel
theorem dX10_register_99 : decode cX10_register 99 = .ok (.aload_n 0, 1) := by decide +kernel
theorem dX10_register_100 : decode cX10_register 100 = .ok (.iload 6, 2) := by decide +kernel
theorem dX10_register_102 : decode cX10_register 102 = .ok (.invokevirtual 81, 3) := by decide +kernel
theorem dX10_register_105 : decode cX10_register 105 = .ok (.ireturn, 1) := by decide +kernel
theorem dX10_output_0 : decode cX10_output 0 = .ok (.iload_n 1, 1) := by decide +kernel
theorem dX10_output_1 : decode cX10_output 1 = .ok (.iconst 0, 1) := by decide +kernel
theorem dX10_output_2 : decode cX10_output 2 = .ok (.iconst 1, 1) := by decide +kernel
theorem dX10_output_3 : decode cX10_output 3 = .ok (.invokestatic 65, 3) := by decide +kernel
theorem dX10_output_6 : decode cX10_output 6 = .ok (.ifCond .eq 13, 3) := by decide +kernel
theorem dX10_output_9 : decode cX10_output 9 = .ok (.iload_n 2, 1) := by decide +kernel
theorem dX10_output_10 : decode cX10_output 10 = .ok (.iconst 0, 1) := by decide +kernel
theorem dX10_output_11 : decode cX10_output 11 = .ok (.bipush 15, 2) := by decide +kernel
theorem dX10_output_13 : decode cX10_output 13 = .ok (.invokestatic 65, 3) := by decide +kernel
theorem dX10_output_16 : decode cX10_output 16 = .ok (.ifCond .ne 6, 3) := by decide +kernel
theorem dX10_output_19 : decode cX10_output 19 = .ok (.ldc 60, 2) := by decide +kernel
theorem dX10_output_21 : decode cX10_output 21 = .ok (.ireturn, 1) := by decide +kernel
theorem dX10_output_22 : decode cX10_output 22 = .ok (.aload_n 0, 1) := by decide +kernel
theorem dX10_output_23 : decode cX10_output 23 = .ok (.invokevirtual 78, 3) := by decide +kernel
theorem dX10_output_26 : decode cX10_output 26 = .ok (.aload_n 0, 1) := by decide +kernel
theorem dX10_output_27 : decode cX10_output 27 = .ok (.iload_n 1, 1) := by decide +kernel
theorem dX10_output_28 : decode cX10_output 28 = .ok (.iconst 1, 1) := by decide +kernel
theorem dX10_output_29 : decode cX10_output 29 = .ok (.invokevirtual 69, 3) := by decide +kernel
theorem dX10_output_32 : decode cX10_output 32 = .ok (.istore_n 3, 1) := by decide +kernel
theorem dX10_output_33 : decode cX10_output 33 = .ok (.aload_n 0, 1) := by decide +kernel
theorem dX10_output_34 : decode cX10_output 34 = .ok (.getfield 7, 3) := by decide +kernel
theorem dX10_output_37 : decode cX10_output 37 = .ok (.bipush 34, 2) := by decide +kernel
theorem dX10_output_39 : decode cX10_output 39 = .ok (.iload_n 1, 1) := by decide +kernel
theorem dX10_output_40 : decode cX10_output 40 = .ok (.imul, 1) := by decide +kernel
theorem dX10_output_41 : decode cX10_output 41 = .ok (.iconst 1, 1) := by decide +kernel
theorem dX10_output_42 : decode cX10_output 42 = .ok (.iadd, 1) := by decide +kernel
theorem dX10_output_43 : decode cX10_output 43 = .ok (.iload_n 2, 1) := by decide +kernel
theorem dX10_output_44 : decode cX10_output 44 = .ok (.iastore, 1) := by decide +kernel
theorem dX10_output_45 : decode cX10_output 45 = .ok (.aload_n 0, 1) := by decide +kernel
theorem dX10_output_46 : decode cX10_output 46 = .ok (.iload_n 3, 1) := by decide +kernel
theorem dX10_output_47 : decode cX10_output 47 = .ok (.invokevirtual 81, 3) := by decide +kernel
theorem dX10_output_50 : decode cX10_output 50 = .ok (.ireturn, 1) := by decide +kernel
theorem dX10_copy_0 : decode cX10_copy 0 = .ok (.iload_n 1, 1) := by decide +kernel
theorem dX10_copy_1 : decode cX10_copy 1 = .ok (.iconst 0, 1) := by decide +kernel
theorem dX10_copy_2 : decode cX10_copy 2 = .ok (.iconst 1, 1) := by decide +kernel
theorem dX10_copy_3 : decode cX10_copy 3 = .ok (.invokestatic 65, 3) := by decide +kernel
theorem dX10_copy_6 : decode cX10_copy 6 = .ok (.ifCond .ne 6, 3) := by decide +kernel
theorem dX10_copy_9 : decode cX10_copy 9 = .ok (.ldc 60, 2) := by decide +kernel
theorem dX10_copy_11 : decode cX10_copy 11 = .ok (.ireturn, 1) := by decide +kernel
theorem dX10_copy_12 : decode cX10_copy 12 = .ok (.aload_n 0, 1) := by decide +kernel
theorem dX10_copy_13 : decode cX10_copy 13 = .ok (.invokevirtual 78, 3) := by decide +kernel
theorem dX10_copy_16 : decode cX10_copy 16 = .ok (.iconst 0, 1) := by decide +kernel
theorem dX10_copy_17 : decode cX10_copy 17 = .ok (.istore_n 2, 1) := by decide +kernel
theorem dX10_copy_18 : decode cX10_copy 18 = .ok (.iload_n 2, 1) := by decide +kernel
theorem dX10_copy_19 : decode cX10_copy 19 = .ok (.bipush 34, 2) := by decide +kernel
theorem dX10_copy_21 : decode cX10_copy 21 = .ok (.if_icmp .ge 33, 3) := by decide +kernel
theorem dX10_copy_24 : decode cX10_copy 24 = .ok (.aload_n 0, 1) := by decide +kernel
theorem dX10_copy_25 : decode cX10_copy 25 = .ok (.getfield 7, 3) := by decide +kernel
theorem dX10_copy_28 : decode cX10_copy 28 = .ok (.bipush 34, 2) := by decide +kernel
theorem dX10_copy_30 : decode cX10_copy 30 = .ok (.iconst 1, 1) := by decide +kernel
theorem dX10_copy_31 : decode cX10_copy 31 = .ok (.iload_n 1, 1) := by decide +kernel
theorem dX10_copy_32 : decode cX10_copy 32 = .ok (.isub, 1) := by decide +kernel
theorem dX10_copy_33 : decode cX10_copy 33 = .ok (.imul, 1) := by decide +kernel
theorem dX10_copy_34 : decode cX10_copy 34 = .ok (.iload_n 2, 1) := by decide +kernel
theorem dX10_copy_35 : decode cX10_copy 35 = .ok (.iadd, 1) := by decide +kernel
theorem dX10_copy_36 : decode cX10_copy 36 = .ok (.aload_n 0, 1) := by decide +kernel
theorem dX10_copy_37 : decode cX10_copy 37 = .ok (.getfield 16, 3) := by decide +kernel
theorem dX10_copy_40 : decode cX10_copy 40 = .ok (.bipush 34, 2) := by decide +kernel
theorem dX10_copy_42 : decode cX10_copy 42 = .ok (.iload_n 1, 1) := by decide +kernel
theorem dX10_copy_43 : decode cX10_copy 43 = .ok (.imul, 1) := by decide +kernel
theorem dX10_copy_44 : decode cX10_copy 44 = .ok (.iload_n 2, 1) := by decide +kernel
theorem dX10_copy_45 : decode cX10_copy 45 = .ok (.iadd, 1) := by decide +kernel
theorem dX10_copy_46 : decode cX10_copy 46 = .ok (.iaload, 1) := by decide +kernel
theorem dX10_copy_47 : decode cX10_copy 47 = .ok (.iastore, 1) := by decide +kernel
theorem dX10_copy_48 : decode cX10_copy 48 = .ok (.iinc 2 1, 3) := by decide +kernel
theorem dX10_copy_51 : decode cX10_copy 51 = .ok (.goto (-33), 3) := by decide +kernel
theorem dX10_copy_54 : decode cX10_copy 54 = .ok (.aload_n 0, 1) := by decide +kernel
theorem dX10_copy_55 : decode cX10_copy 55 = .ok (.aload_n 0, 1) := by decide +kernel
theorem dX10_copy_56 : decode cX10_copy 56 = .ok (.iload_n 1, 1) := by decide +kernel
theorem dX10_copy_57 : decode cX10_copy 57 = .ok (.iconst 0, 1) := by decide +kernel
theorem dX10_copy_58 : decode cX10_copy 58 = .ok (.invokevirtual 69, 3) := by decide +kernel
theorem dX10_copy_61 : decode cX10_copy 61 = .ok (.invokevirtual 81, 3) := by decide +kernel
theorem dX10_copy_64 : decode cX10_copy 64 = .ok (.ireturn, 1) := by decide +kernel
theorem dX10_works_0 : decode cX10_works 0 = .ok (.iload_n 0, 1) := by decide +kernel
theorem dX10_works_1 : decode cX10_works 1 = .ok (.tableswitch 55 0 4 #[35, 39, 43, 47, 53], 35) := by decide +kernel
theorem dX10_works_36 : decode cX10_works 36 = .ok (.iload_n 1, 1) := by decide +kernel
theorem dX10_works_37 : decode cX10_works 37 = .ok (.iload_n 2, 1) := by decide +kernel
theorem dX10_works_38 : decode cX10_works 38 = .ok (.iand, 1) := by decide +kernel
theorem dX10_works_39 : decode cX10_works 39 = .ok (.ireturn, 1) := by decide +kernel
theorem dX10_works_40 : decode cX10_works 40 = .ok (.iload_n 1, 1) := by decide +kernel
theorem dX10_works_41 : decode cX10_works 41 = .ok (.iload_n 2, 1) := by decide +kernel
theorem dX10_works_42 : decode cX10_works 42 = .ok (.ior, 1) := by decide +kernel
theorem dX10_works_43 : decode cX10_works 43 = .ok (.ireturn, 1) := by decide +kernel
theorem dX10_works_44 : decode cX10_works 44 = .ok (.iload_n 1, 1) := by decide +kernel
theorem dX10_works_45 : decode cX10_works 45 = .ok (.iload_n 2, 1) := by decide +kernel
theorem dX10_works_46 : decode cX10_works 46 = .ok (.ixor, 1) := by decide +kernel
theorem dX10_works_47 : decode cX10_works 47 = .ok (.ireturn, 1) := by decide +kernel
theorem dX10_works_48 : decode cX10_works 48 = .ok (.iconst 1, 1) := by decide +kernel
theorem dX10_works_49 : decode cX10_works 49 = .ok (.iload_n 1, 1) := by decide +kernel
theorem dX10_works_50 : decode cX10_works 50 = .ok (.iload_n 2, 1) := by decide +kernel
theorem dX10_works_51 : decode cX10_works 51 = .ok (.iand, 1) := by decide +kernel
theorem dX10_works_52 : decode cX10_works 52 = .ok (.isub, 1) := by decide +kernel
theorem dX10_works_53 : decode cX10_works 53 = .ok (.ireturn, 1) := by decide +kernel
theorem dX10_works_54 : decode cX10_works 54 = .ok (.iload_n 1, 1) := by decide +kernel
theorem dX10_works_55 : decode cX10_works 55 = .ok (.ireturn, 1) := by decide +kernel
theorem dX10_works_56 : decode cX10_works 56 = .ok (.iconst 1, 1) := by decide +kernel
theorem dX10_works_57 : decode cX10_works 57 = .ok (.iload_n 1, 1) := by decide +kernel
theorem dX10_works_58 : decode cX10_works 58 = .ok (.isub, 1) := by decide +kernel
theorem dX10_works_59 : decode cX10_works 59 = .ok (.ireturn, 1) := by decide +kernel
theorem dX10_lights_0 : decode cX10_lights 0 = .ok (.iconst 0, 1) := by decide +kernel
theorem dX10_lights_1 : decode cX10_lights 1 = .ok (.istore 4, 2) := by decide +kernel
theorem dX10_lights_3 : decode cX10_lights 3 = .ok (.iload 4, 2) := by decide +kernel
theorem dX10_lights_5 : decode cX10_lights 5 = .ok (.bipush 16, 2) := by decide +kernel
theorem dX10_lights_7 : decode cX10_lights 7 = .ok (.if_icmp .ge 61, 3) := by decide +kernel
theorem dX10_lights_10 : decode cX10_lights 10 = .ok (.aload_n 0, 1) := by decide +kernel
theorem dX10_lights_11 : decode cX10_lights 11 = .ok (.getfield 26, 3) := by decide +kernel
theorem dX10_lights_14 : decode cX10_lights 14 = .ok (.iload 4, 2) := by decide +kernel
theorem dX10_lights_16 : decode cX10_lights 16 = .ok (.iload 4, 2) := by decide +kernel
theorem dX10_lights_18 : decode cX10_lights 18 = .ok (.iconst 2, 1) := by decide +kernel
theorem dX10_lights_19 : decode cX10_lights 19 = .ok (.if_icmp .ge 12, 3) := by decide +kernel
theorem dX10_lights_22 : decode cX10_lights 22 = .ok (.iload_n 3, 1) := by decide +kernel
theorem dX10_lights_23 : decode cX10_lights 23 = .ok (.iload 4, 2) := by decide +kernel
theorem dX10_lights_25 : decode cX10_lights 25 = .ok (.ishr, 1) := by decide +kernel
theorem dX10_lights_26 : decode cX10_lights 26 = .ok (.iconst 1, 1) := by decide +kernel
theorem dX10_lights_27 : decode cX10_lights 27 = .ok (.iand, 1) := by decide +kernel
theorem dX10_lights_28 : decode cX10_lights 28 = .ok (.goto 33, 3) := by decide +kernel
theorem dX10_lights_31 : decode cX10_lights 31 = .ok (.iload 4, 2) := by decide +kernel
theorem dX10_lights_33 : decode cX10_lights 33 = .ok (.bipush 6, 2) := by decide +kernel
theorem dX10_lights_35 : decode cX10_lights 35 = .ok (.if_icmp .ge 14, 3) := by decide +kernel
theorem dX10_lights_38 : decode cX10_lights 38 = .ok (.iload_n 2, 1) := by decide +kernel
theorem dX10_lights_39 : decode cX10_lights 39 = .ok (.iload 4, 2) := by decide +kernel
theorem dX10_lights_41 : decode cX10_lights 41 = .ok (.iconst 2, 1) := by decide +kernel
theorem dX10_lights_42 : decode cX10_lights 42 = .ok (.isub, 1) := by decide +kernel
theorem dX10_lights_43 : decode cX10_lights 43 = .ok (.ishr, 1) := by decide +kernel
theorem dX10_lights_44 : decode cX10_lights 44 = .ok (.iconst 1, 1) := by decide +kernel
theorem dX10_lights_45 : decode cX10_lights 45 = .ok (.iand, 1) := by decide +kernel
theorem dX10_lights_46 : decode cX10_lights 46 = .ok (.goto 15, 3) := by decide +kernel
theorem dX10_lights_49 : decode cX10_lights 49 = .ok (.iload 4, 2) := by decide +kernel
theorem dX10_lights_51 : decode cX10_lights 51 = .ok (.bipush 15, 2) := by decide +kernel
theorem dX10_lights_53 : decode cX10_lights 53 = .ok (.if_icmp .ne 7, 3) := by decide +kernel
theorem dX10_lights_56 : decode cX10_lights 56 = .ok (.iconst 1, 1) := by decide +kernel
theorem dX10_lights_57 : decode cX10_lights 57 = .ok (.goto 4, 3) := by decide +kernel
theorem dX10_lights_60 : decode cX10_lights 60 = .ok (.iconst 0, 1) := by decide +kernel
theorem dX10_lights_61 : decode cX10_lights 61 = .ok (.iastore, 1) := by decide +kernel
theorem dX10_lights_62 : decode cX10_lights 62 = .ok (.iinc 4 1, 3) := by decide +kernel
theorem dX10_lights_65 : decode cX10_lights 65 = .ok (.goto (-62), 3) := by decide +kernel
theorem dX10_lights_68 : decode cX10_lights 68 = .ok (.iconst 0, 1) := by decide +kernel
theorem dX10_lights_69 : decode cX10_lights 69 = .ok (.istore 4, 2) := by decide +kernel
theorem dX10_lights_71 : decode cX10_lights 71 = .ok (.iload 4, 2) := by decide +kernel
theorem dX10_lights_73 : decode cX10_lights 73 = .ok (.aload_n 0, 1) := by decide +kernel
theorem dX10_lights_74 : decode cX10_lights 74 = .ok (.iload_n 1, 1) := by decide +kernel
theorem dX10_lights_75 : decode cX10_lights 75 = .ok (.iconst 0, 1) := by decide +kernel
theorem dX10_lights_76 : decode cX10_lights 76 = .ok (.invokevirtual 69, 3) := by decide +kernel
theorem dX10_lights_79 : decode cX10_lights 79 = .ok (.if_icmp .ge 66, 3) := by decide +kernel
theorem dX10_lights_82 : decode cX10_lights 82 = .ok (.bipush 10, 2) := by decide +kernel
theorem dX10_lights_84 : decode cX10_lights 84 = .ok (.iconst 3, 1) := by decide +kernel
theorem dX10_lights_85 : decode cX10_lights 85 = .ok (.iload 4, 2) := by decide +kernel
theorem dX10_lights_87 : decode cX10_lights 87 = .ok (.imul, 1) := by decide +kernel
theorem dX10_lights_88 : decode cX10_lights 88 = .ok (.iadd, 1) := by decide +kernel
theorem dX10_lights_89 : decode cX10_lights 89 = .ok (.istore 5, 2) := by decide +kernel
theorem dX10_lights_91 : decode cX10_lights 91 = .ok (.aload_n 0, 1) := by decide +kernel
theorem dX10_lights_92 : decode cX10_lights 92 = .ok (.getfield 26, 3) := by decide +kernel
theorem dX10_lights_95 : decode cX10_lights 95 = .ok (.bipush 6, 2) := by decide +kernel
theorem dX10_lights_97 : decode cX10_lights 97 = .ok (.iload 4, 2) := by decide +kernel
theorem dX10_lights_99 : decode cX10_lights 99 = .ok (.iadd, 1) := by decide +kernel
theorem dX10_lights_100 : decode cX10_lights 100 = .ok (.aload_n 0, 1) := by decide +kernel
theorem dX10_lights_101 : decode cX10_lights 101 = .ok (.iload_n 1, 1) := by decide +kernel
theorem dX10_lights_102 : decode cX10_lights 102 = .ok (.iload 5, 2) := by decide +kernel
theorem dX10_lights_104 : decode cX10_lights 104 = .ok (.invokevirtual 69, 3) := by decide +kernel
theorem dX10_lights_107 : decode cX10_lights 107 = .ok (.aload_n 0, 1) := by decide +kernel
theorem dX10_lights_108 : decode cX10_lights 108 = .ok (.getfield 26, 3) := by decide +kernel
theorem dX10_lights_111 : decode cX10_lights 111 = .ok (.aload_n 0, 1) := by decide +kernel
theorem dX10_lights_112 : decode cX10_lights 112 = .ok (.iload_n 1, 1) := by decide +kernel
theorem dX10_lights_113 : decode cX10_lights 113 = .ok (.iload 5, 2) := by decide +kernel
theorem dX10_lights_115 : decode cX10_lights 115 = .ok (.iconst 1, 1) := by decide +kernel
theorem dX10_lights_116 : decode cX10_lights 116 = .ok (.iadd, 1) := by decide +kernel
theorem dX10_lights_117 : decode cX10_lights 117 = .ok (.invokevirtual 69, 3) := by decide +kernel
theorem dX10_lights_120 : decode cX10_lights 120 = .ok (.iaload, 1) := by decide +kernel
theorem dX10_lights_121 : decode cX10_lights 121 = .ok (.aload_n 0, 1) := by decide +kernel
theorem dX10_lights_122 : decode cX10_lights 122 = .ok (.getfield 26, 3) := by decide +kernel
theorem dX10_lights_125 : decode cX10_lights 125 = .ok (.aload_n 0, 1) := by decide +kernel
theorem dX10_lights_126 : decode cX10_lights 126 = .ok (.iload_n 1, 1) := by decide +kernel
theorem dX10_lights_127 : decode cX10_lights 127 = .ok (.iload 5, 2) := by decide +kernel
theorem dX10_lights_129 : decode cX10_lights 129 = .ok (.iconst 2, 1) := by decide +kernel
theorem dX10_lights_130 : decode cX10_lights 130 = .ok (.iadd, 1) := by decide +kernel
theorem dX10_lights_131 : decode cX10_lights 131 = .ok (.invokevirtual 69, 3) := by decide +kernel
theorem dX10_lights_134 : decode cX10_lights 134 = .ok (.iaload, 1) := by decide +kernel
theorem dX10_lights_135 : decode cX10_lights 135 = .ok (.invokestatic 86, 3) := by decide +kernel
theorem dX10_lights_138 : decode cX10_lights 138 = .ok (.iastore, 1) := by decide +kernel
theorem dX10_lights_139 : decode cX10_lights 139 = .ok (.iinc 4 1, 3) := by decide +kernel
theorem dX10_lights_142 : decode cX10_lights 142 = .ok (.goto (-71), 3) := by decide +kernel
theorem dX10_lights_145 : decode cX10_lights 145 = .ok (.return_, 1) := by decide +kernel
theorem dX10_out_0 : decode cX10_out 0 = .ok (.aload_n 0, 1) := by decide +kernel
theorem dX10_out_1 : decode cX10_out 1 = .ok (.iload_n 1, 1) := by decide +kernel
theorem dX10_out_2 : decode cX10_out 2 = .ok (.iload_n 2, 1) := by decide +kernel
theorem dX10_out_3 : decode cX10_out 3 = .ok (.iload_n 3, 1) := by decide +kernel
theorem dX10_out_4 : decode cX10_out 4 = .ok (.invokevirtual 90, 3) := by decide +kernel
theorem dX10_out_7 : decode cX10_out 7 = .ok (.aload_n 0, 1) := by decide +kernel
theorem dX10_out_8 : decode cX10_out 8 = .ok (.getfield 26, 3) := by decide +kernel
theorem dX10_out_11 : decode cX10_out 11 = .ok (.aload_n 0, 1) := by decide +kernel
theorem dX10_out_12 : decode cX10_out 12 = .ok (.iload_n 1, 1) := by decide +kernel
theorem dX10_out_13 : decode cX10_out 13 = .ok (.iconst 1, 1) := by decide +kernel
theorem dX10_out_14 : decode cX10_out 14 = .ok (.invokevirtual 69, 3) := by decide +kernel
theorem dX10_out_17 : decode cX10_out 17 = .ok (.iaload, 1) := by decide +kernel
theorem dX10_out_18 : decode cX10_out 18 = .ok (.ireturn, 1) := by decide +kernel
theorem dX10_then_0 : decode cX10_then 0 = .ok (.aload_n 0, 1) := by decide +kernel
theorem dX10_then_1 : decode cX10_then 1 = .ok (.iload_n 1, 1) := by decide +kernel
theorem dX10_then_2 : decode cX10_then 2 = .ok (.iload_n 2, 1) := by decide +kernel
theorem dX10_then_3 : decode cX10_then 3 = .ok (.iload_n 3, 1) := by decide +kernel
theorem dX10_then_4 : decode cX10_then 4 = .ok (.invokevirtual 90, 3) := by decide +kernel
theorem dX10_then_7 : decode cX10_then 7 = .ok (.iconst 0, 1) := by decide +kernel
theorem dX10_then_8 : decode cX10_then 8 = .ok (.istore 4, 2) := by decide +kernel
theorem dX10_then_10 : decode cX10_then 10 = .ok (.iconst 0, 1) := by decide +kernel
theorem dX10_then_11 : decode cX10_then 11 = .ok (.istore 5, 2) := by decide +kernel
theorem dX10_then_13 : decode cX10_then 13 = .ok (.iload 5, 2) := by decide +kernel
theorem dX10_then_15 : decode cX10_then 15 = .ok (.iconst 4, 1) := by decide +kernel
theorem dX10_then_16 : decode cX10_then 16 = .ok (.if_icmp .ge 31, 3) := by decide +kernel
theorem dX10_then_19 : decode cX10_then 19 = .ok (.iload 4, 2) := by decide +kernel
theorem dX10_then_21 : decode cX10_then 21 = .ok (.aload_n 0, 1) := by decide +kernel
theorem dX10_then_22 : decode cX10_then 22 = .ok (.getfield 26, 3) := by decide +kernel
theorem dX10_then_25 : decode cX10_then 25 = .ok (.aload_n 0, 1) := by decide +kernel
theorem dX10_then_26 : decode cX10_then 26 = .ok (.iload_n 1, 1) := by decide +kernel
theorem dX10_then_27 : decode cX10_then 27 = .ok (.iconst 2, 1) := by decide +kernel
theorem dX10_then_28 : decode cX10_then 28 = .ok (.iload 5, 2) := by decide +kernel
theorem dX10_then_30 : decode cX10_then 30 = .ok (.iadd, 1) := by decide +kernel
theorem dX10_then_31 : decode cX10_then 31 = .ok (.invokevirtual 69, 3) := by decide +kernel
theorem dX10_then_34 : decode cX10_then 34 = .ok (.iaload, 1) := by decide +kernel
theorem dX10_then_35 : decode cX10_then 35 = .ok (.iload 5, 2) := by decide +kernel
theorem dX10_then_37 : decode cX10_then 37 = .ok (.ishl, 1) := by decide +kernel
theorem dX10_then_38 : decode cX10_then 38 = .ok (.ior, 1) := by decide +kernel
theorem dX10_then_39 : decode cX10_then 39 = .ok (.istore 4, 2) := by decide +kernel
theorem dX10_then_41 : decode cX10_then 41 = .ok (.iinc 5 1, 3) := by decide +kernel
theorem dX10_then_44 : decode cX10_then 44 = .ok (.goto (-31), 3) := by decide +kernel
theorem dX10_then_47 : decode cX10_then 47 = .ok (.iload 4, 2) := by decide +kernel
theorem dX10_then_49 : decode cX10_then 49 = .ok (.ireturn, 1) := by decide +kernel
theorem dX10_first_0 : decode cX10_first 0 = .ok (.iconst 0, 1) := by decide +kernel
theorem dX10_first_1 : decode cX10_first 1 = .ok (.istore_n 2, 1) := by decide +kernel
theorem dX10_first_2 : decode cX10_first 2 = .ok (.iconst 0, 1) := by decide +kernel
theorem dX10_first_3 : decode cX10_first 3 = .ok (.istore_n 3, 1) := by decide +kernel
theorem dX10_first_4 : decode cX10_first 4 = .ok (.iload_n 3, 1) := by decide +kernel
theorem dX10_first_5 : decode cX10_first 5 = .ok (.iconst 4, 1) := by decide +kernel
theorem dX10_first_6 : decode cX10_first 6 = .ok (.if_icmp .ge 23, 3) := by decide +kernel
theorem dX10_first_9 : decode cX10_first 9 = .ok (.iload_n 2, 1) := by decide +kernel
theorem dX10_first_10 : decode cX10_first 10 = .ok (.aload_n 0, 1) := by decide +kernel
theorem dX10_first_11 : decode cX10_first 11 = .ok (.iload_n 1, 1) := by decide +kernel
theorem dX10_first_12 : decode cX10_first 12 = .ok (.bipush 6, 2) := by decide +kernel
theorem dX10_first_14 : decode cX10_first 14 = .ok (.iload_n 3, 1) := by decide +kernel
theorem dX10_first_15 : decode cX10_first 15 = .ok (.iadd, 1) := by decide +kernel
theorem dX10_first_16 : decode cX10_first 16 = .ok (.invokevirtual 69, 3) := by decide +kernel
theorem dX10_first_19 : decode cX10_first 19 = .ok (.iload_n 3, 1) := by decide +kernel
theorem dX10_first_20 : decode cX10_first 20 = .ok (.ishl, 1) := by decide +kernel
theorem dX10_first_21 : decode cX10_first 21 = .ok (.ior, 1) := by decide +kernel
theorem dX10_first_22 : decode cX10_first 22 = .ok (.istore_n 2, 1) := by decide +kernel
theorem dX10_first_23 : decode cX10_first 23 = .ok (.iinc 3 1, 3) := by decide +kernel
theorem dX10_first_26 : decode cX10_first 26 = .ok (.goto (-22), 3) := by decide +kernel
theorem dX10_first_29 : decode cX10_first 29 = .ok (.iload_n 2, 1) := by decide +kernel
theorem dX10_first_30 : decode cX10_first 30 = .ok (.ireturn, 1) := by decide +kernel
theorem dX10_bit_0 : decode cX10_bit 0 = .ok (.iload_n 1, 1) := by decide +kernel
theorem dX10_bit_1 : decode cX10_bit 1 = .ok (.iconst 0, 1) := by decide +kernel
theorem dX10_bit_2 : decode cX10_bit 2 = .ok (.iconst 1, 1) := by decide +kernel
theorem dX10_bit_3 : decode cX10_bit 3 = .ok (.invokestatic 65, 3) := by decide +kernel
theorem dX10_bit_6 : decode cX10_bit 6 = .ok (.ifCond .eq 33, 3) := by decide +kernel
theorem dX10_bit_9 : decode cX10_bit 9 = .ok (.iload_n 2, 1) := by decide +kernel
theorem dX10_bit_10 : decode cX10_bit 10 = .ok (.iconst 0, 1) := by decide +kernel
theorem dX10_bit_11 : decode cX10_bit 11 = .ok (.bipush 15, 2) := by decide +kernel
theorem dX10_bit_13 : decode cX10_bit 13 = .ok (.invokestatic 65, 3) := by decide +kernel
theorem dX10_bit_16 : decode cX10_bit 16 = .ok (.ifCond .eq 23, 3) := by decide +kernel
theorem dX10_bit_19 : decode cX10_bit 19 = .ok (.iload_n 3, 1) := by decide +kernel
theorem dX10_bit_20 : decode cX10_bit 20 = .ok (.iconst 0, 1) := by decide +kernel
theorem dX10_bit_21 : decode cX10_bit 21 = .ok (.iconst 3, 1) := by decide +kernel
theorem dX10_bit_22 : decode cX10_bit 22 = .ok (.invokestatic 65, 3) := by decide +kernel
theorem dX10_bit_25 : decode cX10_bit 25 = .ok (.ifCond .eq 14, 3) := by decide +kernel
theorem dX10_bit_28 : decode cX10_bit 28 = .ok (.iload 4, 2) := by decide +kernel
theorem dX10_bit_30 : decode cX10_bit 30 = .ok (.iconst 0, 1) := by decide +kernel
theorem dX10_bit_31 : decode cX10_bit 31 = .ok (.bipush 15, 2) := by decide +kernel
theorem dX10_bit_33 : decode cX10_bit 33 = .ok (.invokestatic 65, 3) := by decide +kernel
theorem dX10_bit_36 : decode cX10_bit 36 = .ok (.ifCond .ne 6, 3) := by decide +kernel
theorem dX10_bit_39 : decode cX10_bit 39 = .ok (.ldc 60, 2) := by decide +kernel
theorem dX10_bit_41 : decode cX10_bit 41 = .ok (.ireturn, 1) := by decide +kernel
theorem dX10_bit_42 : decode cX10_bit 42 = .ok (.aload_n 0, 1) := by decide +kernel
theorem dX10_bit_43 : decode cX10_bit 43 = .ok (.iload_n 1, 1) := by decide +kernel
theorem dX10_bit_44 : decode cX10_bit 44 = .ok (.iload_n 2, 1) := by decide +kernel
theorem dX10_bit_45 : decode cX10_bit 45 = .ok (.iload_n 3, 1) := by decide +kernel
theorem dX10_bit_46 : decode cX10_bit 46 = .ok (.invokevirtual 90, 3) := by decide +kernel
theorem dX10_bit_49 : decode cX10_bit 49 = .ok (.aload_n 0, 1) := by decide +kernel
theorem dX10_bit_50 : decode cX10_bit 50 = .ok (.getfield 26, 3) := by decide +kernel
theorem dX10_bit_53 : decode cX10_bit 53 = .ok (.iload 4, 2) := by decide +kernel
theorem dX10_bit_55 : decode cX10_bit 55 = .ok (.iaload, 1) := by decide +kernel
theorem dX10_bit_56 : decode cX10_bit 56 = .ok (.ireturn, 1) := by decide +kernel
theorem dX10_behind_0 : decode cX10_behind 0 = .ok (.iload_n 1, 1) := by decide +kernel
theorem dX10_behind_1 : decode cX10_behind 1 = .ok (.iconst 0, 1) := by decide +kernel
theorem dX10_behind_2 : decode cX10_behind 2 = .ok (.iconst 1, 1) := by decide +kernel
theorem dX10_behind_3 : decode cX10_behind 3 = .ok (.invokestatic 65, 3) := by decide +kernel
theorem dX10_behind_6 : decode cX10_behind 6 = .ok (.ifCond .eq 32, 3) := by decide +kernel
theorem dX10_behind_9 : decode cX10_behind 9 = .ok (.iload_n 2, 1) := by decide +kernel
theorem dX10_behind_10 : decode cX10_behind 10 = .ok (.iconst 0, 1) := by decide +kernel
theorem dX10_behind_11 : decode cX10_behind 11 = .ok (.bipush 15, 2) := by decide +kernel
theorem dX10_behind_13 : decode cX10_behind 13 = .ok (.invokestatic 65, 3) := by decide +kernel
theorem dX10_behind_16 : decode cX10_behind 16 = .ok (.ifCond .eq 22, 3) := by decide +kernel
theorem dX10_behind_19 : decode cX10_behind 19 = .ok (.iload_n 3, 1) := by decide +kernel
theorem dX10_behind_20 : decode cX10_behind 20 = .ok (.iconst 0, 1) := by decide +kernel
theorem dX10_behind_21 : decode cX10_behind 21 = .ok (.iconst 3, 1) := by decide +kernel
theorem dX10_behind_22 : decode cX10_behind 22 = .ok (.invokestatic 65, 3) := by decide +kernel
theorem dX10_behind_25 : decode cX10_behind 25 = .ok (.ifCond .eq 13, 3) := by decide +kernel
theorem dX10_behind_28 : decode cX10_behind 28 = .ok (.aload_n 0, 1) := by decide +kernel
theorem dX10_behind_29 : decode cX10_behind 29 = .ok (.iload_n 1, 1) := by decide +kernel
theorem dX10_behind_30 : decode cX10_behind 30 = .ok (.iload_n 2, 1) := by decide +kernel
theorem dX10_behind_31 : decode cX10_behind 31 = .ok (.iload_n 3, 1) := by decide +kernel
theorem dX10_behind_32 : decode cX10_behind 32 = .ok (.invokevirtual 94, 3) := by decide +kernel
theorem dX10_behind_35 : decode cX10_behind 35 = .ok (.goto 5, 3) := by decide +kernel
theorem dX10_behind_38 : decode cX10_behind 38 = .ok (.ldc 60, 2) := by decide +kernel
theorem dX10_behind_40 : decode cX10_behind 40 = .ok (.ireturn, 1) := by decide +kernel
theorem dX10_run_0 : decode cX10_run 0 = .ok (.iload_n 1, 1) := by decide +kernel
theorem dX10_run_1 : decode cX10_run 1 = .ok (.iconst 0, 1) := by decide +kernel
theorem dX10_run_2 : decode cX10_run 2 = .ok (.iconst 1, 1) := by decide +kernel
theorem dX10_run_3 : decode cX10_run 3 = .ok (.invokestatic 65, 3) := by decide +kernel
theorem dX10_run_6 : decode cX10_run 6 = .ok (.ifCond .eq 23, 3) := by decide +kernel
theorem dX10_run_9 : decode cX10_run 9 = .ok (.iload_n 3, 1) := by decide +kernel
theorem dX10_run_10 : decode cX10_run 10 = .ok (.iconst 0, 1) := by decide +kernel
theorem dX10_run_11 : decode cX10_run 11 = .ok (.bipush 16, 2) := by decide +kernel
theorem dX10_run_13 : decode cX10_run 13 = .ok (.invokestatic 65, 3) := by decide +kernel
theorem dX10_run_16 : decode cX10_run 16 = .ok (.ifCond .eq 13, 3) := by decide +kernel
theorem dX10_run_19 : decode cX10_run 19 = .ok (.iload 4, 2) := by decide +kernel
theorem dX10_run_21 : decode cX10_run 21 = .ok (.iconst 0, 1) := by decide +kernel
theorem dX10_run_22 : decode cX10_run 22 = .ok (.iconst 1, 1) := by decide +kernel
theorem dX10_run_23 : decode cX10_run 23 = .ok (.invokestatic 65, 3) := by decide +kernel
theorem dX10_run_26 : decode cX10_run 26 = .ok (.ifCond .ne 6, 3) := by decide +kernel
theorem dX10_run_29 : decode cX10_run 29 = .ok (.ldc 60, 2) := by decide +kernel
theorem dX10_run_31 : decode cX10_run 31 = .ok (.ireturn, 1) := by decide +kernel
theorem dX10_run_32 : decode cX10_run 32 = .ok (.aload_n 0, 1) := by decide +kernel
theorem dX10_run_33 : decode cX10_run 33 = .ok (.iload_n 1, 1) := by decide +kernel
theorem dX10_run_34 : decode cX10_run 34 = .ok (.invokevirtual 97, 3) := by decide +kernel
theorem dX10_run_37 : decode cX10_run 37 = .ok (.istore 5, 2) := by decide +kernel
theorem dX10_run_39 : decode cX10_run 39 = .ok (.iconst 0, 1) := by decide +kernel
theorem dX10_run_40 : decode cX10_run 40 = .ok (.istore 6, 2) := by decide +kernel
theorem dX10_run_42 : decode cX10_run 42 = .ok (.iconst 0, 1) := by decide +kernel
theorem dX10_run_43 : decode cX10_run 43 = .ok (.istore 7, 2) := by decide +kernel
theorem dX10_run_45 : decode cX10_run 45 = .ok (.iload 7, 2) := by decide +kernel
theorem dX10_run_47 : decode cX10_run 47 = .ok (.iload_n 3, 1) := by decide +kernel
theorem dX10_run_48 : decode cX10_run 48 = .ok (.if_icmp .ge 47, 3) := by decide +kernel
theorem dX10_run_51 : decode cX10_run 51 = .ok (.iload_n 2, 1) := by decide +kernel
theorem dX10_run_52 : decode cX10_run 52 = .ok (.iconst 2, 1) := by decide +kernel
theorem dX10_run_53 : decode cX10_run 53 = .ok (.iload 7, 2) := by decide +kernel
theorem dX10_run_55 : decode cX10_run 55 = .ok (.imul, 1) := by decide +kernel
theorem dX10_run_56 : decode cX10_run 56 = .ok (.ishr, 1) := by decide +kernel
theorem dX10_run_57 : decode cX10_run 57 = .ok (.iconst 3, 1) := by decide +kernel
theorem dX10_run_58 : decode cX10_run 58 = .ok (.iand, 1) := by decide +kernel
theorem dX10_run_59 : decode cX10_run 59 = .ok (.istore 8, 2) := by decide +kernel
theorem dX10_run_61 : decode cX10_run 61 = .ok (.iload 6, 2) := by decide +kernel
theorem dX10_run_63 : decode cX10_run 63 = .ok (.aload_n 0, 1) := by decide +kernel
theorem dX10_run_64 : decode cX10_run 64 = .ok (.iload_n 1, 1) := by decide +kernel
theorem dX10_run_65 : decode cX10_run 65 = .ok (.iload 5, 2) := by decide +kernel
theorem dX10_run_67 : decode cX10_run 67 = .ok (.iload 8, 2) := by decide +kernel
theorem dX10_run_69 : decode cX10_run 69 = .ok (.invokevirtual 100, 3) := by decide +kernel
theorem dX10_run_72 : decode cX10_run 72 = .ok (.iload 7, 2) := by decide +kernel
theorem dX10_run_74 : decode cX10_run 74 = .ok (.ishl, 1) := by decide +kernel
theorem dX10_run_75 : decode cX10_run 75 = .ok (.ior, 1) := by decide +kernel
theorem dX10_run_76 : decode cX10_run 76 = .ok (.istore 6, 2) := by decide +kernel
theorem dX10_run_78 : decode cX10_run 78 = .ok (.aload_n 0, 1) := by decide +kernel
theorem dX10_run_79 : decode cX10_run 79 = .ok (.iload_n 1, 1) := by decide +kernel
theorem dX10_run_80 : decode cX10_run 80 = .ok (.iload 5, 2) := by decide +kernel
theorem dX10_run_82 : decode cX10_run 82 = .ok (.iload 8, 2) := by decide +kernel
theorem dX10_run_84 : decode cX10_run 84 = .ok (.invokevirtual 94, 3) := by decide +kernel
theorem dX10_run_87 : decode cX10_run 87 = .ok (.istore 5, 2) := by decide +kernel
theorem dX10_run_89 : decode cX10_run 89 = .ok (.iinc 7 1, 3) := by decide +kernel
theorem dX10_run_92 : decode cX10_run 92 = .ok (.goto (-47), 3) := by decide +kernel
theorem dX10_run_95 : decode cX10_run 95 = .ok (.iload 4, 2) := by decide +kernel
theorem dX10_run_97 : decode cX10_run 97 = .ok (.ifCond .ne 8, 3) := by decide +kernel
theorem dX10_run_100 : decode cX10_run 100 = .ok (.iload 5, 2) := by decide +kernel
theorem dX10_run_102 : decode cX10_run 102 = .ok (.goto 5, 3) := by decide +kernel
theorem dX10_run_105 : decode cX10_run 105 = .ok (.iload 6, 2) := by decide +kernel
theorem dX10_run_107 : decode cX10_run 107 = .ok (.ireturn, 1) := by decide +kernel
theorem dX10_sixteenths_0 : decode cX10_sixteenths 0 = .ok (.iconst 0, 1) := by decide +kernel
theorem dX10_sixteenths_1 : decode cX10_sixteenths 1 = .ok (.istore_n 1, 1) := by decide +kernel
theorem dX10_sixteenths_2 : decode cX10_sixteenths 2 = .ok (.iload_n 0, 1) := by decide +kernel
theorem dX10_sixteenths_3 : decode cX10_sixteenths 3 = .ok (.iload_n 1, 1) := by decide +kernel
theorem dX10_sixteenths_4 : decode cX10_sixteenths 4 = .ok (.ishr, 1) := by decide +kernel
theorem dX10_sixteenths_5 : decode cX10_sixteenths 5 = .ok (.iconst 1, 1) := by decide +kernel
theorem dX10_sixteenths_6 : decode cX10_sixteenths 6 = .ok (.if_icmp .le 9, 3) := by decide +kernel
theorem dX10_sixteenths_9 : decode cX10_sixteenths 9 = .ok (.iinc 1 1, 3) := by decide +kernel
theorem dX10_sixteenths_12 : decode cX10_sixteenths 12 = .ok (.goto (-10), 3) := by decide +kernel
theorem dX10_sixteenths_15 : decode cX10_sixteenths 15 = .ok (.iload_n 0, 1) := by decide +kernel
theorem dX10_sixteenths_16 : decode cX10_sixteenths 16 = .ok (.ifCond .ne 7, 3) := by decide +kernel
theorem dX10_sixteenths_19 : decode cX10_sixteenths 19 = .ok (.iconst 0, 1) := by decide +kernel
theorem dX10_sixteenths_20 : decode cX10_sixteenths 20 = .ok (.goto 21, 3) := by decide +kernel
theorem dX10_sixteenths_23 : decode cX10_sixteenths 23 = .ok (.bipush 123, 2) := by decide +kernel
theorem dX10_sixteenths_25 : decode cX10_sixteenths 25 = .ok (.iload_n 1, 1) := by decide +kernel
theorem dX10_sixteenths_26 : decode cX10_sixteenths 26 = .ok (.iadd, 1) := by decide +kernel
theorem dX10_sixteenths_27 : decode cX10_sixteenths 27 = .ok (.bipush 23, 2) := by decide +kernel
theorem dX10_sixteenths_29 : decode cX10_sixteenths 29 = .ok (.ishl, 1) := by decide +kernel
theorem dX10_sixteenths_30 : decode cX10_sixteenths 30 = .ok (.iload_n 0, 1) := by decide +kernel
theorem dX10_sixteenths_31 : decode cX10_sixteenths 31 = .ok (.iconst 1, 1) := by decide +kernel
theorem dX10_sixteenths_32 : decode cX10_sixteenths 32 = .ok (.iload_n 1, 1) := by decide +kernel
theorem dX10_sixteenths_33 : decode cX10_sixteenths 33 = .ok (.ishl, 1) := by decide +kernel
theorem dX10_sixteenths_34 : decode cX10_sixteenths 34 = .ok (.isub, 1) := by decide +kernel
theorem dX10_sixteenths_35 : decode cX10_sixteenths 35 = .ok (.bipush 23, 2) := by decide +kernel
theorem dX10_sixteenths_37 : decode cX10_sixteenths 37 = .ok (.iload_n 1, 1) := by decide +kernel
theorem dX10_sixteenths_38 : decode cX10_sixteenths 38 = .ok (.isub, 1) := by decide +kernel
theorem dX10_sixteenths_39 : decode cX10_sixteenths 39 = .ok (.ishl, 1) := by decide +kernel
theorem dX10_sixteenths_40 : decode cX10_sixteenths 40 = .ok (.iadd, 1) := by decide +kernel
theorem dX10_sixteenths_41 : decode cX10_sixteenths 41 = .ok (.ireturn, 1) := by decide +kernel
theorem dX10_share_0 : decode cX10_share 0 = .ok (.iload_n 1, 1) := by decide +kernel
theorem dX10_share_1 : decode cX10_share 1 = .ok (.iconst 0, 1) := by decide +kernel
theorem dX10_share_2 : decode cX10_share 2 = .ok (.iconst 1, 1) := by decide +kernel
theorem dX10_share_3 : decode cX10_share 3 = .ok (.invokestatic 65, 3) := by decide +kernel
theorem dX10_share_6 : decode cX10_share 6 = .ok (.ifCond .eq 12, 3) := by decide +kernel
theorem dX10_share_9 : decode cX10_share 9 = .ok (.iload_n 2, 1) := by decide +kernel
theorem dX10_share_10 : decode cX10_share 10 = .ok (.iconst 0, 1) := by decide +kernel
theorem dX10_share_11 : decode cX10_share 11 = .ok (.iconst 3, 1) := by decide +kernel
theorem dX10_share_12 : decode cX10_share 12 = .ok (.invokestatic 65, 3) := by decide +kernel
theorem dX10_share_15 : decode cX10_share 15 = .ok (.ifCond .ne 6, 3) := by decide +kernel
theorem dX10_share_18 : decode cX10_share 18 = .ok (.ldc 60, 2) := by decide +kernel
theorem dX10_share_20 : decode cX10_share 20 = .ok (.ireturn, 1) := by decide +kernel
theorem dX10_share_21 : decode cX10_share 21 = .ok (.iconst 0, 1) := by decide +kernel
theorem dX10_share_22 : decode cX10_share 22 = .ok (.istore_n 3, 1) := by decide +kernel
theorem dX10_share_23 : decode cX10_share 23 = .ok (.iconst 0, 1) := by decide +kernel
theorem dX10_share_24 : decode cX10_share 24 = .ok (.istore 4, 2) := by decide +kernel
theorem dX10_share_26 : decode cX10_share 26 = .ok (.iload 4, 2) := by decide +kernel
theorem dX10_share_28 : decode cX10_share 28 = .ok (.bipush 16, 2) := by decide +kernel
theorem dX10_share_30 : decode cX10_share 30 = .ok (.if_icmp .ge 20, 3) := by decide +kernel
theorem dX10_share_33 : decode cX10_share 33 = .ok (.iload_n 3, 1) := by decide +kernel
theorem dX10_share_34 : decode cX10_share 34 = .ok (.aload_n 0, 1) := by decide +kernel
theorem dX10_share_35 : decode cX10_share 35 = .ok (.iload_n 1, 1) := by decide +kernel
theorem dX10_share_36 : decode cX10_share 36 = .ok (.iload 4, 2) := by decide +kernel
theorem dX10_share_38 : decode cX10_share 38 = .ok (.iload_n 2, 1) := by decide +kernel
theorem dX10_share_39 : decode cX10_share 39 = .ok (.invokevirtual 100, 3) := by decide +kernel
theorem dX10_share_42 : decode cX10_share 42 = .ok (.iadd, 1) := by decide +kernel
theorem dX10_share_43 : decode cX10_share 43 = .ok (.istore_n 3, 1) := by decide +kernel
theorem dX10_share_44 : decode cX10_share 44 = .ok (.iinc 4 1, 3) := by decide +kernel
theorem dX10_share_47 : decode cX10_share 47 = .ok (.goto (-21), 3) := by decide +kernel
theorem dX10_share_50 : decode cX10_share 50 = .ok (.iload_n 3, 1) := by decide +kernel
theorem dX10_share_51 : decode cX10_share 51 = .ok (.invokestatic 103, 3) := by decide +kernel
theorem dX10_share_54 : decode cX10_share 54 = .ok (.ireturn, 1) := by decide +kernel
theorem dX10_comesTo_0 : decode cX10_comesTo 0 = .ok (.iconst 1, 1) := by decide +kernel
theorem dX10_comesTo_1 : decode cX10_comesTo 1 = .ok (.aload_n 0, 1) := by decide +kernel
theorem dX10_comesTo_2 : decode cX10_comesTo 2 = .ok (.iload_n 1, 1) := by decide +kernel
theorem dX10_comesTo_3 : decode cX10_comesTo 3 = .ok (.invokevirtual 97, 3) := by decide +kernel
theorem dX10_comesTo_6 : decode cX10_comesTo 6 = .ok (.ishl, 1) := by decide +kernel
theorem dX10_comesTo_7 : decode cX10_comesTo 7 = .ok (.istore_n 2, 1) := by decide +kernel
theorem dX10_comesTo_8 : decode cX10_comesTo 8 = .ok (.iconst 0, 1) := by decide +kernel
theorem dX10_comesTo_9 : decode cX10_comesTo 9 = .ok (.istore_n 3, 1) := by decide +kernel
theorem dX10_comesTo_10 : decode cX10_comesTo 10 = .ok (.iload_n 2, 1) := by decide +kernel
theorem dX10_comesTo_11 : decode cX10_comesTo 11 = .ok (.iload_n 3, 1) := by decide +kernel
theorem dX10_comesTo_12 : decode cX10_comesTo 12 = .ok (.if_icmp .eq 63, 3) := by decide +kernel
theorem dX10_comesTo_15 : decode cX10_comesTo 15 = .ok (.iload_n 2, 1) := by decide +kernel
theorem dX10_comesTo_16 : decode cX10_comesTo 16 = .ok (.istore_n 3, 1) := by decide +kernel
theorem dX10_comesTo_17 : decode cX10_comesTo 17 = .ok (.iconst 0, 1) := by decide +kernel
theorem dX10_comesTo_18 : decode cX10_comesTo 18 = .ok (.istore 4, 2) := by decide +kernel
theorem dX10_comesTo_20 : decode cX10_comesTo 20 = .ok (.iload 4, 2) := by decide +kernel
theorem dX10_comesTo_22 : decode cX10_comesTo 22 = .ok (.bipush 16, 2) := by decide +kernel
theorem dX10_comesTo_24 : decode cX10_comesTo 24 = .ok (.if_icmp .ge 48, 3) := by decide +kernel
theorem dX10_comesTo_27 : decode cX10_comesTo 27 = .ok (.iconst 0, 1) := by decide +kernel
theorem dX10_comesTo_28 : decode cX10_comesTo 28 = .ok (.istore 5, 2) := by decide +kernel
theorem dX10_comesTo_30 : decode cX10_comesTo 30 = .ok (.iload 5, 2) := by decide +kernel
theorem dX10_comesTo_32 : decode cX10_comesTo 32 = .ok (.iconst 4, 1) := by decide +kernel
theorem dX10_comesTo_33 : decode cX10_comesTo 33 = .ok (.if_icmp .ge 33, 3) := by decide +kernel
theorem dX10_comesTo_36 : decode cX10_comesTo 36 = .ok (.iload_n 3, 1) := by decide +kernel
theorem dX10_comesTo_37 : decode cX10_comesTo 37 = .ok (.iload 4, 2) := by decide +kernel
theorem dX10_comesTo_39 : decode cX10_comesTo 39 = .ok (.ishr, 1) := by decide +kernel
theorem dX10_comesTo_40 : decode cX10_comesTo 40 = .ok (.iconst 1, 1) := by decide +kernel
theorem dX10_comesTo_41 : decode cX10_comesTo 41 = .ok (.iand, 1) := by decide +kernel
theorem dX10_comesTo_42 : decode cX10_comesTo 42 = .ok (.iconst 1, 1) := by decide +kernel
theorem dX10_comesTo_43 : decode cX10_comesTo 43 = .ok (.if_icmp .ne 23, 3) := by decide +kernel
theorem dX10_comesTo_46 : decode cX10_comesTo 46 = .ok (.iload_n 2, 1) := by decide +kernel
theorem dX10_comesTo_47 : decode cX10_comesTo 47 = .ok (.iconst 1, 1) := by decide +kernel
theorem dX10_comesTo_48 : decode cX10_comesTo 48 = .ok (.aload_n 0, 1) := by decide +kernel
theorem dX10_comesTo_49 : decode cX10_comesTo 49 = .ok (.iload_n 1, 1) := by decide +kernel
theorem dX10_comesTo_50 : decode cX10_comesTo 50 = .ok (.iload 4, 2) := by decide +kernel
theorem dX10_comesTo_52 : decode cX10_comesTo 52 = .ok (.iload 5, 2) := by decide +kernel
theorem dX10_comesTo_54 : decode cX10_comesTo 54 = .ok (.invokevirtual 94, 3) := by decide +kernel
theorem dX10_comesTo_57 : decode cX10_comesTo 57 = .ok (.ishl, 1) := by decide +kernel
theorem dX10_comesTo_58 : decode cX10_comesTo 58 = .ok (.ior, 1) := by decide +kernel
theorem dX10_comesTo_59 : decode cX10_comesTo 59 = .ok (.istore_n 2, 1) := by decide +kernel
theorem dX10_comesTo_60 : decode cX10_comesTo 60 = .ok (.iinc 5 1, 3) := by decide +kernel
theorem dX10_comesTo_63 : decode cX10_comesTo 63 = .ok (.goto (-33), 3) := by decide +kernel
theorem dX10_comesTo_66 : decode cX10_comesTo 66 = .ok (.iinc 4 1, 3) := by decide +kernel
theorem dX10_comesTo_69 : decode cX10_comesTo 69 = .ok (.goto (-49), 3) := by decide +kernel
theorem dX10_comesTo_72 : decode cX10_comesTo 72 = .ok (.goto (-62), 3) := by decide +kernel
theorem dX10_comesTo_75 : decode cX10_comesTo 75 = .ok (.iload_n 2, 1) := by decide +kernel
theorem dX10_comesTo_76 : decode cX10_comesTo 76 = .ok (.ireturn, 1) := by decide +kernel
theorem dX10_steady_0 : decode cX10_steady 0 = .ok (.bipush 15, 2) := by decide +kernel
theorem dX10_steady_2 : decode cX10_steady 2 = .ok (.istore_n 2, 1) := by decide +kernel
theorem dX10_steady_3 : decode cX10_steady 3 = .ok (.aload_n 0, 1) := by decide +kernel
theorem dX10_steady_4 : decode cX10_steady 4 = .ok (.iload_n 1, 1) := by decide +kernel
theorem dX10_steady_5 : decode cX10_steady 5 = .ok (.invokevirtual 106, 3) := by decide +kernel
theorem dX10_steady_8 : decode cX10_steady 8 = .ok (.istore_n 3, 1) := by decide +kernel
theorem dX10_steady_9 : decode cX10_steady 9 = .ok (.iconst 0, 1) := by decide +kernel
theorem dX10_steady_10 : decode cX10_steady 10 = .ok (.istore 4, 2) := by decide +kernel
theorem dX10_steady_12 : decode cX10_steady 12 = .ok (.iload 4, 2) := by decide +kernel
theorem dX10_steady_14 : decode cX10_steady 14 = .ok (.bipush 16, 2) := by decide +kernel
theorem dX10_steady_16 : decode cX10_steady 16 = .ok (.if_icmp .ge 68, 3) := by decide +kernel
theorem dX10_steady_19 : decode cX10_steady 19 = .ok (.iconst 0, 1) := by decide +kernel
theorem dX10_steady_20 : decode cX10_steady 20 = .ok (.istore 5, 2) := by decide +kernel
theorem dX10_steady_22 : decode cX10_steady 22 = .ok (.iload 5, 2) := by decide +kernel
theorem dX10_steady_24 : decode cX10_steady 24 = .ok (.iconst 4, 1) := by decide +kernel
theorem dX10_steady_25 : decode cX10_steady 25 = .ok (.if_icmp .ge 53, 3) := by decide +kernel
theorem dX10_steady_28 : decode cX10_steady 28 = .ok (.iload_n 3, 1) := by decide +kernel
theorem dX10_steady_29 : decode cX10_steady 29 = .ok (.iload 4, 2) := by decide +kernel
theorem dX10_steady_31 : decode cX10_steady 31 = .ok (.ishr, 1) := by decide +kernel
theorem dX10_steady_32 : decode cX10_steady 32 = .ok (.iconst 1, 1) := by decide +kernel
theorem dX10_steady_33 : decode cX10_steady 33 = .ok (.iand, 1) := by decide +kernel
theorem dX10_steady_34 : decode cX10_steady 34 = .ok (.iconst 1, 1) := by decide +kernel
theorem dX10_steady_35 : decode cX10_steady 35 = .ok (.if_icmp .ne 43, 3) := by decide +kernel
theorem dX10_steady_38 : decode cX10_steady 38 = .ok (.iload_n 2, 1) := by decide +kernel
theorem dX10_steady_39 : decode cX10_steady 39 = .ok (.iload 4, 2) := by decide +kernel
theorem dX10_steady_41 : decode cX10_steady 41 = .ok (.iload 5, 2) := by decide +kernel
theorem dX10_steady_43 : decode cX10_steady 43 = .ok (.ishr, 1) := by decide +kernel
theorem dX10_steady_44 : decode cX10_steady 44 = .ok (.iconst 1, 1) := by decide +kernel
theorem dX10_steady_45 : decode cX10_steady 45 = .ok (.iand, 1) := by decide +kernel
theorem dX10_steady_46 : decode cX10_steady 46 = .ok (.aload_n 0, 1) := by decide +kernel
theorem dX10_steady_47 : decode cX10_steady 47 = .ok (.iload_n 1, 1) := by decide +kernel
theorem dX10_steady_48 : decode cX10_steady 48 = .ok (.bipush 6, 2) := by decide +kernel
theorem dX10_steady_50 : decode cX10_steady 50 = .ok (.iload 5, 2) := by decide +kernel
theorem dX10_steady_52 : decode cX10_steady 52 = .ok (.iadd, 1) := by decide +kernel
theorem dX10_steady_53 : decode cX10_steady 53 = .ok (.invokevirtual 69, 3) := by decide +kernel
theorem dX10_steady_56 : decode cX10_steady 56 = .ok (.if_icmp .ne 8, 3) := by decide +kernel
theorem dX10_steady_59 : decode cX10_steady 59 = .ok (.bipush 15, 2) := by decide +kernel
theorem dX10_steady_61 : decode cX10_steady 61 = .ok (.goto 9, 3) := by decide +kernel
theorem dX10_steady_64 : decode cX10_steady 64 = .ok (.iconst 1, 1) := by decide +kernel
theorem dX10_steady_65 : decode cX10_steady 65 = .ok (.iload 5, 2) := by decide +kernel
theorem dX10_steady_67 : decode cX10_steady 67 = .ok (.ishl, 1) := by decide +kernel
theorem dX10_steady_68 : decode cX10_steady 68 = .ok (.iconst (-1), 1) := by decide +kernel
theorem dX10_steady_69 : decode cX10_steady 69 = .ok (.ixor, 1) := by decide +kernel
theorem dX10_steady_70 : decode cX10_steady 70 = .ok (.iand, 1) := by decide +kernel
theorem dX10_steady_71 : decode cX10_steady 71 = .ok (.istore_n 2, 1) := by decide +kernel
theorem dX10_steady_72 : decode cX10_steady 72 = .ok (.iinc 5 1, 3) := by decide +kernel
theorem dX10_steady_75 : decode cX10_steady 75 = .ok (.goto (-53), 3) := by decide +kernel
theorem dX10_steady_78 : decode cX10_steady 78 = .ok (.iinc 4 1, 3) := by decide +kernel
theorem dX10_steady_81 : decode cX10_steady 81 = .ok (.goto (-69), 3) := by decide +kernel
theorem dX10_steady_84 : decode cX10_steady 84 = .ok (.iload_n 2, 1) := by decide +kernel
theorem dX10_steady_85 : decode cX10_steady 85 = .ok (.ireturn, 1) := by decide +kernel
theorem dX10_isAlike_0 : decode cX10_isAlike 0 = .ok (.iload 4, 2) := by decide +kernel
theorem dX10_isAlike_2 : decode cX10_isAlike 2 = .ok (.ifCond .ne 18, 3) := by decide +kernel
theorem dX10_isAlike_5 : decode cX10_isAlike 5 = .ok (.aload_n 0, 1) := by decide +kernel
theorem dX10_isAlike_6 : decode cX10_isAlike 6 = .ok (.getfield 50, 3) := by decide +kernel
theorem dX10_isAlike_9 : decode cX10_isAlike 9 = .ok (.iload_n 2, 1) := by decide +kernel
theorem dX10_isAlike_10 : decode cX10_isAlike 10 = .ok (.iaload, 1) := by decide +kernel
theorem dX10_isAlike_11 : decode cX10_isAlike 11 = .ok (.aload_n 0, 1) := by decide +kernel
theorem dX10_isAlike_12 : decode cX10_isAlike 12 = .ok (.getfield 50, 3) := by decide +kernel
theorem dX10_isAlike_15 : decode cX10_isAlike 15 = .ok (.iload_n 3, 1) := by decide +kernel
theorem dX10_isAlike_16 : decode cX10_isAlike 16 = .ok (.iaload, 1) := by decide +kernel
theorem dX10_isAlike_17 : decode cX10_isAlike 17 = .ok (.if_icmp .ne 7, 3) := by decide +kernel
theorem dX10_isAlike_20 : decode cX10_isAlike 20 = .ok (.iconst 1, 1) := by decide +kernel
theorem dX10_isAlike_21 : decode cX10_isAlike 21 = .ok (.goto 4, 3) := by decide +kernel
theorem dX10_isAlike_24 : decode cX10_isAlike 24 = .ok (.iconst 0, 1) := by decide +kernel
theorem dX10_isAlike_25 : decode cX10_isAlike 25 = .ok (.istore 5, 2) := by decide +kernel
theorem dX10_isAlike_27 : decode cX10_isAlike 27 = .ok (.iconst 0, 1) := by decide +kernel
theorem dX10_isAlike_28 : decode cX10_isAlike 28 = .ok (.istore 6, 2) := by decide +kernel
theorem dX10_isAlike_30 : decode cX10_isAlike 30 = .ok (.iload 6, 2) := by decide +kernel
theorem dX10_isAlike_32 : decode cX10_isAlike 32 = .ok (.iconst 4, 1) := by decide +kernel
theorem dX10_isAlike_33 : decode cX10_isAlike 33 = .ok (.if_icmp .ge 82, 3) := by decide +kernel
theorem dX10_isAlike_36 : decode cX10_isAlike 36 = .ok (.iload 5, 2) := by decide +kernel
theorem dX10_isAlike_38 : decode cX10_isAlike 38 = .ok (.ifCond .eq 77, 3) := by decide +kernel
theorem dX10_isAlike_41 : decode cX10_isAlike 41 = .ok (.iload 4, 2) := by decide +kernel
theorem dX10_isAlike_43 : decode cX10_isAlike 43 = .ok (.ifCond .eq 30, 3) := by decide +kernel
theorem dX10_isAlike_46 : decode cX10_isAlike 46 = .ok (.aload_n 0, 1) := by decide +kernel
theorem dX10_isAlike_47 : decode cX10_isAlike 47 = .ok (.iload_n 1, 1) := by decide +kernel
theorem dX10_isAlike_48 : decode cX10_isAlike 48 = .ok (.iload_n 2, 1) := by decide +kernel
theorem dX10_isAlike_49 : decode cX10_isAlike 49 = .ok (.iload 6, 2) := by decide +kernel
theorem dX10_isAlike_51 : decode cX10_isAlike 51 = .ok (.invokevirtual 100, 3) := by decide +kernel
theorem dX10_isAlike_54 : decode cX10_isAlike 54 = .ok (.aload_n 0, 1) := by decide +kernel
theorem dX10_isAlike_55 : decode cX10_isAlike 55 = .ok (.iload_n 1, 1) := by decide +kernel
theorem dX10_isAlike_56 : decode cX10_isAlike 56 = .ok (.iload_n 3, 1) := by decide +kernel
theorem dX10_isAlike_57 : decode cX10_isAlike 57 = .ok (.iload 6, 2) := by decide +kernel
theorem dX10_isAlike_59 : decode cX10_isAlike 59 = .ok (.invokevirtual 100, 3) := by decide +kernel
theorem dX10_isAlike_62 : decode cX10_isAlike 62 = .ok (.if_icmp .ne 7, 3) := by decide +kernel
theorem dX10_isAlike_65 : decode cX10_isAlike 65 = .ok (.iconst 1, 1) := by decide +kernel
theorem dX10_isAlike_66 : decode cX10_isAlike 66 = .ok (.goto 41, 3) := by decide +kernel
theorem dX10_isAlike_69 : decode cX10_isAlike 69 = .ok (.iconst 0, 1) := by decide +kernel
theorem dX10_isAlike_70 : decode cX10_isAlike 70 = .ok (.goto 37, 3) := by decide +kernel
theorem dX10_isAlike_73 : decode cX10_isAlike 73 = .ok (.aload_n 0, 1) := by decide +kernel
theorem dX10_isAlike_74 : decode cX10_isAlike 74 = .ok (.getfield 50, 3) := by decide +kernel
theorem dX10_isAlike_77 : decode cX10_isAlike 77 = .ok (.aload_n 0, 1) := by decide +kernel
theorem dX10_isAlike_78 : decode cX10_isAlike 78 = .ok (.iload_n 1, 1) := by decide +kernel
theorem dX10_isAlike_79 : decode cX10_isAlike 79 = .ok (.iload_n 2, 1) := by decide +kernel
theorem dX10_isAlike_80 : decode cX10_isAlike 80 = .ok (.iload 6, 2) := by decide +kernel
theorem dX10_isAlike_82 : decode cX10_isAlike 82 = .ok (.invokevirtual 94, 3) := by decide +kernel
theorem dX10_isAlike_85 : decode cX10_isAlike 85 = .ok (.iaload, 1) := by decide +kernel
theorem dX10_isAlike_86 : decode cX10_isAlike 86 = .ok (.aload_n 0, 1) := by decide +kernel
theorem dX10_isAlike_87 : decode cX10_isAlike 87 = .ok (.getfield 50, 3) := by decide +kernel
theorem dX10_isAlike_90 : decode cX10_isAlike 90 = .ok (.aload_n 0, 1) := by decide +kernel
theorem dX10_isAlike_91 : decode cX10_isAlike 91 = .ok (.iload_n 1, 1) := by decide +kernel
theorem dX10_isAlike_92 : decode cX10_isAlike 92 = .ok (.iload_n 3, 1) := by decide +kernel
theorem dX10_isAlike_93 : decode cX10_isAlike 93 = .ok (.iload 6, 2) := by decide +kernel
theorem dX10_isAlike_95 : decode cX10_isAlike 95 = .ok (.invokevirtual 94, 3) := by decide +kernel
theorem dX10_isAlike_98 : decode cX10_isAlike 98 = .ok (.iaload, 1) := by decide +kernel
theorem dX10_isAlike_99 : decode cX10_isAlike 99 = .ok (.if_icmp .ne 7, 3) := by decide +kernel
theorem dX10_isAlike_102 : decode cX10_isAlike 102 = .ok (.iconst 1, 1) := by decide +kernel
theorem dX10_isAlike_103 : decode cX10_isAlike 103 = .ok (.goto 4, 3) := by decide +kernel
theorem dX10_isAlike_106 : decode cX10_isAlike 106 = .ok (.iconst 0, 1) := by decide +kernel
theorem dX10_isAlike_107 : decode cX10_isAlike 107 = .ok (.istore 5, 2) := by decide +kernel
theorem dX10_isAlike_109 : decode cX10_isAlike 109 = .ok (.iinc 6 1, 3) := by decide +kernel
theorem dX10_isAlike_112 : decode cX10_isAlike 112 = .ok (.goto (-82), 3) := by decide +kernel
theorem dX10_isAlike_115 : decode cX10_isAlike 115 = .ok (.iload 5, 2) := by decide +kernel
theorem dX10_isAlike_117 : decode cX10_isAlike 117 = .ok (.ireturn, 1) := by decide +kernel
theorem dX10_refines_0 : decode cX10_refines 0 = .ok (.iconst 0, 1) := by decide +kernel
theorem dX10_refines_1 : decode cX10_refines 1 = .ok (.istore_n 3, 1) := by decide +kernel
theorem dX10_refines_2 : decode cX10_refines 2 = .ok (.iload_n 3, 1) := by decide +kernel
theorem dX10_refines_3 : decode cX10_refines 3 = .ok (.bipush 16, 2) := by decide +kernel
theorem dX10_refines_5 : decode cX10_refines 5 = .ok (.if_icmp .ge 61, 3) := by decide +kernel
theorem dX10_refines_8 : decode cX10_refines 8 = .ok (.aload_n 0, 1) := by decide +kernel
theorem dX10_refines_9 : decode cX10_refines 9 = .ok (.getfield 53, 3) := by decide +kernel
theorem dX10_refines_12 : decode cX10_refines 12 = .ok (.iload_n 3, 1) := by decide +kernel
theorem dX10_refines_13 : decode cX10_refines 13 = .ok (.iload_n 3, 1) := by decide +kernel
theorem dX10_refines_14 : decode cX10_refines 14 = .ok (.iastore, 1) := by decide +kernel
theorem dX10_refines_15 : decode cX10_refines 15 = .ok (.iload_n 3, 1) := by decide +kernel
theorem dX10_refines_16 : decode cX10_refines 16 = .ok (.iconst 1, 1) := by decide +kernel
theorem dX10_refines_17 : decode cX10_refines 17 = .ok (.isub, 1) := by decide +kernel
theorem dX10_refines_18 : decode cX10_refines 18 = .ok (.istore 4, 2) := by decide +kernel
theorem dX10_refines_20 : decode cX10_refines 20 = .ok (.iload 4, 2) := by decide +kernel
theorem dX10_refines_22 : decode cX10_refines 22 = .ok (.ifCond .lt 38, 3) := by decide +kernel
theorem dX10_refines_25 : decode cX10_refines 25 = .ok (.aload_n 0, 1) := by decide +kernel
theorem dX10_refines_26 : decode cX10_refines 26 = .ok (.getfield 53, 3) := by decide +kernel
theorem dX10_refines_29 : decode cX10_refines 29 = .ok (.iload_n 3, 1) := by decide +kernel
theorem dX10_refines_30 : decode cX10_refines 30 = .ok (.aload_n 0, 1) := by decide +kernel
theorem dX10_refines_31 : decode cX10_refines 31 = .ok (.iload_n 1, 1) := by decide +kernel
theorem dX10_refines_32 : decode cX10_refines 32 = .ok (.iload_n 3, 1) := by decide +kernel
theorem dX10_refines_33 : decode cX10_refines 33 = .ok (.iload 4, 2) := by decide +kernel
theorem dX10_refines_35 : decode cX10_refines 35 = .ok (.iload_n 2, 1) := by decide +kernel
theorem dX10_refines_36 : decode cX10_refines 36 = .ok (.invokevirtual 109, 3) := by decide +kernel
theorem dX10_refines_39 : decode cX10_refines 39 = .ok (.ifCond .eq 8, 3) := by decide +kernel
theorem dX10_refines_42 : decode cX10_refines 42 = .ok (.iload 4, 2) := by decide +kernel
theorem dX10_refines_44 : decode cX10_refines 44 = .ok (.goto 9, 3) := by decide +kernel
theorem dX10_refines_47 : decode cX10_refines 47 = .ok (.aload_n 0, 1) := by decide +kernel
theorem dX10_refines_48 : decode cX10_refines 48 = .ok (.getfield 53, 3) := by decide +kernel
theorem dX10_refines_51 : decode cX10_refines 51 = .ok (.iload_n 3, 1) := by decide +kernel
theorem dX10_refines_52 : decode cX10_refines 52 = .ok (.iaload, 1) := by decide +kernel
theorem dX10_refines_53 : decode cX10_refines 53 = .ok (.iastore, 1) := by decide +kernel
theorem dX10_refines_54 : decode cX10_refines 54 = .ok (.iinc 4 (-1), 3) := by decide +kernel
theorem dX10_refines_57 : decode cX10_refines 57 = .ok (.goto (-37), 3) := by decide +kernel
theorem dX10_refines_60 : decode cX10_refines 60 = .ok (.iinc 3 1, 3) := by decide +kernel
theorem dX10_refines_63 : decode cX10_refines 63 = .ok (.goto (-61), 3) := by decide +kernel
theorem dX10_refines_66 : decode cX10_refines 66 = .ok (.iconst 0, 1) := by decide +kernel
theorem dX10_refines_67 : decode cX10_refines 67 = .ok (.istore_n 3, 1) := by decide +kernel
theorem dX10_refines_68 : decode cX10_refines 68 = .ok (.iload_n 3, 1) := by decide +kernel
theorem dX10_refines_69 : decode cX10_refines 69 = .ok (.bipush 16, 2) := by decide +kernel
theorem dX10_refines_71 : decode cX10_refines 71 = .ok (.if_icmp .ge 21, 3) := by decide +kernel
theorem dX10_refines_74 : decode cX10_refines 74 = .ok (.aload_n 0, 1) := by decide +kernel
theorem dX10_refines_75 : decode cX10_refines 75 = .ok (.getfield 50, 3) := by decide +kernel
theorem dX10_refines_78 : decode cX10_refines 78 = .ok (.iload_n 3, 1) := by decide +kernel
theorem dX10_refines_79 : decode cX10_refines 79 = .ok (.aload_n 0, 1) := by decide +kernel
theorem dX10_refines_80 : decode cX10_refines 80 = .ok (.getfield 53, 3) := by decide +kernel
theorem dX10_refines_83 : decode cX10_refines 83 = .ok (.iload_n 3, 1) := by decide +kernel
theorem dX10_refines_84 : decode cX10_refines 84 = .ok (.iaload, 1) := by decide +kernel
theorem dX10_refines_85 : decode cX10_refines 85 = .ok (.iastore, 1) := by decide +kernel
theorem dX10_refines_86 : decode cX10_refines 86 = .ok (.iinc 3 1, 3) := by decide +kernel
theorem dX10_refines_89 : decode cX10_refines 89 = .ok (.goto (-21), 3) := by decide +kernel
theorem dX10_refines_92 : decode cX10_refines 92 = .ok (.return_, 1) := by decide +kernel
theorem dX10_classes_0 : decode cX10_classes 0 = .ok (.aload_n 0, 1) := by decide +kernel
theorem dX10_classes_1 : decode cX10_classes 1 = .ok (.iload_n 1, 1) := by decide +kernel
theorem dX10_classes_2 : decode cX10_classes 2 = .ok (.iconst 1, 1) := by decide +kernel
theorem dX10_classes_3 : decode cX10_classes 3 = .ok (.invokevirtual 113, 3) := by decide +kernel
theorem dX10_classes_6 : decode cX10_classes 6 = .ok (.iconst 0, 1) := by decide +kernel
theorem dX10_classes_7 : decode cX10_classes 7 = .ok (.istore_n 2, 1) := by decide +kernel
theorem dX10_classes_8 : decode cX10_classes 8 = .ok (.iload_n 2, 1) := by decide +kernel
theorem dX10_classes_9 : decode cX10_classes 9 = .ok (.bipush 16, 2) := by decide +kernel
theorem dX10_classes_11 : decode cX10_classes 11 = .ok (.if_icmp .ge 15, 3) := by decide +kernel
theorem dX10_classes_14 : decode cX10_classes 14 = .ok (.aload_n 0, 1) := by decide +kernel
theorem dX10_classes_15 : decode cX10_classes 15 = .ok (.iload_n 1, 1) := by decide +kernel
theorem dX10_classes_16 : decode cX10_classes 16 = .ok (.iconst 0, 1) := by decide +kernel
theorem dX10_classes_17 : decode cX10_classes 17 = .ok (.invokevirtual 113, 3) := by decide +kernel
theorem dX10_classes_20 : decode cX10_classes 20 = .ok (.iinc 2 1, 3) := by decide +kernel
theorem dX10_classes_23 : decode cX10_classes 23 = .ok (.goto (-15), 3) := by decide +kernel
theorem dX10_classes_26 : decode cX10_classes 26 = .ok (.aload_n 0, 1) := by decide +kernel
theorem dX10_classes_27 : decode cX10_classes 27 = .ok (.iload_n 1, 1) := by decide +kernel
theorem dX10_classes_28 : decode cX10_classes 28 = .ok (.invokevirtual 106, 3) := by decide +kernel
theorem dX10_classes_31 : decode cX10_classes 31 = .ok (.istore_n 2, 1) := by decide +kernel
theorem dX10_classes_32 : decode cX10_classes 32 = .ok (.iconst 0, 1) := by decide +kernel
theorem dX10_classes_33 : decode cX10_classes 33 = .ok (.istore_n 3, 1) := by decide +kernel
theorem dX10_classes_34 : decode cX10_classes 34 = .ok (.iconst 0, 1) := by decide +kernel
theorem dX10_classes_35 : decode cX10_classes 35 = .ok (.istore 4, 2) := by decide +kernel
theorem dX10_classes_37 : decode cX10_classes 37 = .ok (.iload 4, 2) := by decide +kernel
theorem dX10_classes_39 : decode cX10_classes 39 = .ok (.bipush 16, 2) := by decide +kernel
theorem dX10_classes_41 : decode cX10_classes 41 = .ok (.if_icmp .ge 35, 3) := by decide +kernel
theorem dX10_classes_44 : decode cX10_classes 44 = .ok (.iload_n 3, 1) := by decide +kernel
theorem dX10_classes_45 : decode cX10_classes 45 = .ok (.iload_n 2, 1) := by decide +kernel
theorem dX10_classes_46 : decode cX10_classes 46 = .ok (.iload 4, 2) := by decide +kernel
theorem dX10_classes_48 : decode cX10_classes 48 = .ok (.ishr, 1) := by decide +kernel
theorem dX10_classes_49 : decode cX10_classes 49 = .ok (.iconst 1, 1) := by decide +kernel
theorem dX10_classes_50 : decode cX10_classes 50 = .ok (.iand, 1) := by decide +kernel
theorem dX10_classes_51 : decode cX10_classes 51 = .ok (.iconst 1, 1) := by decide +kernel
theorem dX10_classes_52 : decode cX10_classes 52 = .ok (.if_icmp .ne 15, 3) := by decide +kernel
theorem dX10_classes_55 : decode cX10_classes 55 = .ok (.iconst 1, 1) := by decide +kernel
theorem dX10_classes_56 : decode cX10_classes 56 = .ok (.aload_n 0, 1) := by decide +kernel
theorem dX10_classes_57 : decode cX10_classes 57 = .ok (.getfield 50, 3) := by decide +kernel
theorem dX10_classes_60 : decode cX10_classes 60 = .ok (.iload 4, 2) := by decide +kernel
theorem dX10_classes_62 : decode cX10_classes 62 = .ok (.iaload, 1) := by decide +kernel
theorem dX10_classes_63 : decode cX10_classes 63 = .ok (.ishl, 1) := by decide +kernel
theorem dX10_classes_64 : decode cX10_classes 64 = .ok (.goto 4, 3) := by decide +kernel
theorem dX10_classes_67 : decode cX10_classes 67 = .ok (.iconst 0, 1) := by decide +kernel
theorem dX10_classes_68 : decode cX10_classes 68 = .ok (.ior, 1) := by decide +kernel
theorem dX10_classes_69 : decode cX10_classes 69 = .ok (.istore_n 3, 1) := by decide +kernel
theorem dX10_classes_70 : decode cX10_classes 70 = .ok (.iinc 4 1, 3) := by decide +kernel
theorem dX10_classes_73 : decode cX10_classes 73 = .ok (.goto (-36), 3) := by decide +kernel
theorem dX10_classes_76 : decode cX10_classes 76 = .ok (.iconst 0, 1) := by decide +kernel
theorem dX10_classes_77 : decode cX10_classes 77 = .ok (.istore 4, 2) := by decide +kernel
theorem dX10_classes_79 : decode cX10_classes 79 = .ok (.iconst 0, 1) := by decide +kernel
theorem dX10_classes_80 : decode cX10_classes 80 = .ok (.istore 5, 2) := by decide +kernel
theorem dX10_classes_82 : decode cX10_classes 82 = .ok (.iload 5, 2) := by decide +kernel
theorem dX10_classes_84 : decode cX10_classes 84 = .ok (.bipush 16, 2) := by decide +kernel
theorem dX10_classes_86 : decode cX10_classes 86 = .ok (.if_icmp .ge 20, 3) := by decide +kernel
theorem dX10_classes_89 : decode cX10_classes 89 = .ok (.iload 4, 2) := by decide +kernel
theorem dX10_classes_91 : decode cX10_classes 91 = .ok (.iload_n 3, 1) := by decide +kernel
theorem dX10_classes_92 : decode cX10_classes 92 = .ok (.iload 5, 2) := by decide +kernel
theorem dX10_classes_94 : decode cX10_classes 94 = .ok (.ishr, 1) := by decide +kernel
theorem dX10_classes_95 : decode cX10_classes 95 = .ok (.iconst 1, 1) := by decide +kernel
theorem dX10_classes_96 : decode cX10_classes 96 = .ok (.iand, 1) := by decide +kernel
theorem dX10_classes_97 : decode cX10_classes 97 = .ok (.iadd, 1) := by decide +kernel
theorem dX10_classes_98 : decode cX10_classes 98 = .ok (.istore 4, 2) := by decide +kernel
theorem dX10_classes_100 : decode cX10_classes 100 = .ok (.iinc 5 1, 3) := by decide +kernel
theorem dX10_classes_103 : decode cX10_classes 103 = .ok (.goto (-21), 3) := by decide +kernel
theorem dX10_classes_106 : decode cX10_classes 106 = .ok (.iload 4, 2) := by decide +kernel
theorem dX10_classes_108 : decode cX10_classes 108 = .ok (.ireturn, 1) := by decide +kernel
theorem dX10_depends_0 : decode cX10_depends 0 = .ok (.iconst 1, 1) := by decide +kernel
theorem dX10_depends_1 : decode cX10_depends 1 = .ok (.aload_n 0, 1) := by decide +kernel
theorem dX10_depends_2 : decode cX10_depends 2 = .ok (.iload_n 1, 1) := by decide +kernel
theorem dX10_depends_3 : decode cX10_depends 3 = .ok (.iconst 1, 1) := by decide +kernel
theorem dX10_depends_4 : decode cX10_depends 4 = .ok (.invokevirtual 69, 3) := by decide +kernel
theorem dX10_depends_7 : decode cX10_depends 7 = .ok (.ishl, 1) := by decide +kernel
theorem dX10_depends_8 : decode cX10_depends 8 = .ok (.istore_n 2, 1) := by decide +kernel
theorem dX10_depends_9 : decode cX10_depends 9 = .ok (.aload_n 0, 1) := by decide +kernel
theorem dX10_depends_10 : decode cX10_depends 10 = .ok (.iload_n 1, 1) := by decide +kernel
theorem dX10_depends_11 : decode cX10_depends 11 = .ok (.iconst 0, 1) := by decide +kernel
theorem dX10_depends_12 : decode cX10_depends 12 = .ok (.invokevirtual 69, 3) := by decide +kernel
theorem dX10_depends_15 : decode cX10_depends 15 = .ok (.iconst 1, 1) := by decide +kernel
theorem dX10_depends_16 : decode cX10_depends 16 = .ok (.isub, 1) := by decide +kernel
theorem dX10_depends_17 : decode cX10_depends 17 = .ok (.istore_n 3, 1) := by decide +kernel
theorem dX10_depends_18 : decode cX10_depends 18 = .ok (.iload_n 3, 1) := by decide +kernel
theorem dX10_depends_19 : decode cX10_depends 19 = .ok (.ifCond .lt 72, 3) := by decide +kernel
theorem dX10_depends_22 : decode cX10_depends 22 = .ok (.bipush 10, 2) := by decide +kernel
theorem dX10_depends_24 : decode cX10_depends 24 = .ok (.iconst 3, 1) := by decide +kernel
theorem dX10_depends_25 : decode cX10_depends 25 = .ok (.iload_n 3, 1) := by decide +kernel
theorem dX10_depends_26 : decode cX10_depends 26 = .ok (.imul, 1) := by decide +kernel
theorem dX10_depends_27 : decode cX10_depends 27 = .ok (.iadd, 1) := by decide +kernel
theorem dX10_depends_28 : decode cX10_depends 28 = .ok (.istore 4, 2) := by decide +kernel
theorem dX10_depends_30 : decode cX10_depends 30 = .ok (.iload_n 2, 1) := by decide +kernel
theorem dX10_depends_31 : decode cX10_depends 31 = .ok (.bipush 6, 2) := by decide +kernel
theorem dX10_depends_33 : decode cX10_depends 33 = .ok (.iload_n 3, 1) := by decide +kernel
theorem dX10_depends_34 : decode cX10_depends 34 = .ok (.iadd, 1) := by decide +kernel
theorem dX10_depends_35 : decode cX10_depends 35 = .ok (.ishr, 1) := by decide +kernel
theorem dX10_depends_36 : decode cX10_depends 36 = .ok (.iconst 1, 1) := by decide +kernel
theorem dX10_depends_37 : decode cX10_depends 37 = .ok (.iand, 1) := by decide +kernel
theorem dX10_depends_38 : decode cX10_depends 38 = .ok (.iconst 1, 1) := by decide +kernel
theorem dX10_depends_39 : decode cX10_depends 39 = .ok (.if_icmp .ne 46, 3) := by decide +kernel
theorem dX10_depends_42 : decode cX10_depends 42 = .ok (.iload_n 2, 1) := by decide +kernel
theorem dX10_depends_43 : decode cX10_depends 43 = .ok (.iconst 1, 1) := by decide +kernel
theorem dX10_depends_44 : decode cX10_depends 44 = .ok (.aload_n 0, 1) := by decide +kernel
theorem dX10_depends_45 : decode cX10_depends 45 = .ok (.iload_n 1, 1) := by decide +kernel
theorem dX10_depends_46 : decode cX10_depends 46 = .ok (.iload 4, 2) := by decide +kernel
theorem dX10_depends_48 : decode cX10_depends 48 = .ok (.iconst 1, 1) := by decide +kernel
theorem dX10_depends_49 : decode cX10_depends 49 = .ok (.iadd, 1) := by decide +kernel
theorem dX10_depends_50 : decode cX10_depends 50 = .ok (.invokevirtual 69, 3) := by decide +kernel
theorem dX10_depends_53 : decode cX10_depends 53 = .ok (.ishl, 1) := by decide +kernel
theorem dX10_depends_54 : decode cX10_depends 54 = .ok (.ior, 1) := by decide +kernel
theorem dX10_depends_55 : decode cX10_depends 55 = .ok (.istore_n 2, 1) := by decide +kernel
theorem dX10_depends_56 : decode cX10_depends 56 = .ok (.iload_n 2, 1) := by decide +kernel
theorem dX10_depends_57 : decode cX10_depends 57 = .ok (.aload_n 0, 1) := by decide +kernel
theorem dX10_depends_58 : decode cX10_depends 58 = .ok (.iload_n 1, 1) := by decide +kernel
theorem dX10_depends_59 : decode cX10_depends 59 = .ok (.iload 4, 2) := by decide +kernel
theorem dX10_depends_61 : decode cX10_depends 61 = .ok (.invokevirtual 69, 3) := by decide +kernel
theorem dX10_depends_64 : decode cX10_depends 64 = .ok (.iconst 4, 1) := by decide +kernel
theorem dX10_depends_65 : decode cX10_depends 65 = .ok (.if_icmp .ge 17, 3) := by decide +kernel
theorem dX10_depends_68 : decode cX10_depends 68 = .ok (.iconst 1, 1) := by decide +kernel
theorem dX10_depends_69 : decode cX10_depends 69 = .ok (.aload_n 0, 1) := by decide +kernel
theorem dX10_depends_70 : decode cX10_depends 70 = .ok (.iload_n 1, 1) := by decide +kernel
theorem dX10_depends_71 : decode cX10_depends 71 = .ok (.iload 4, 2) := by decide +kernel
theorem dX10_depends_73 : decode cX10_depends 73 = .ok (.iconst 2, 1) := by decide +kernel
theorem dX10_depends_74 : decode cX10_depends 74 = .ok (.iadd, 1) := by decide +kernel
theorem dX10_depends_75 : decode cX10_depends 75 = .ok (.invokevirtual 69, 3) := by decide +kernel
theorem dX10_depends_78 : decode cX10_depends 78 = .ok (.ishl, 1) := by decide +kernel
theorem dX10_depends_79 : decode cX10_depends 79 = .ok (.goto 4, 3) := by decide +kernel
theorem dX10_depends_82 : decode cX10_depends 82 = .ok (.iconst 0, 1) := by decide +kernel
theorem dX10_depends_83 : decode cX10_depends 83 = .ok (.ior, 1) := by decide +kernel
theorem dX10_depends_84 : decode cX10_depends 84 = .ok (.istore_n 2, 1) := by decide +kernel
theorem dX10_depends_85 : decode cX10_depends 85 = .ok (.iinc 3 (-1), 3) := by decide +kernel
theorem dX10_depends_88 : decode cX10_depends 88 = .ok (.goto (-70), 3) := by decide +kernel
theorem dX10_depends_91 : decode cX10_depends 91 = .ok (.iload_n 2, 1) := by decide +kernel
theorem dX10_depends_92 : decode cX10_depends 92 = .ok (.bipush 6, 2) := by decide +kernel
theorem dX10_depends_94 : decode cX10_depends 94 = .ok (.ishr, 1) := by decide +kernel
theorem dX10_depends_95 : decode cX10_depends 95 = .ok (.iconst 1, 1) := by decide +kernel
theorem dX10_depends_96 : decode cX10_depends 96 = .ok (.aload_n 0, 1) := by decide +kernel
theorem dX10_depends_97 : decode cX10_depends 97 = .ok (.iload_n 1, 1) := by decide +kernel
theorem dX10_depends_98 : decode cX10_depends 98 = .ok (.iconst 0, 1) := by decide +kernel
theorem dX10_depends_99 : decode cX10_depends 99 = .ok (.invokevirtual 69, 3) := by decide +kernel
theorem dX10_depends_102 : decode cX10_depends 102 = .ok (.ishl, 1) := by decide +kernel
theorem dX10_depends_103 : decode cX10_depends 103 = .ok (.iconst 1, 1) := by decide +kernel
theorem dX10_depends_104 : decode cX10_depends 104 = .ok (.isub, 1) := by decide +kernel
theorem dX10_depends_105 : decode cX10_depends 105 = .ok (.iand, 1) := by decide +kernel
theorem dX10_depends_106 : decode cX10_depends 106 = .ok (.ireturn, 1) := by decide +kernel
theorem dX10_circuitOf_0 : decode cX10_circuitOf 0 = .ok (.iload_n 2, 1) := by decide +kernel
theorem dX10_circuitOf_1 : decode cX10_circuitOf 1 = .ok (.bipush 10, 2) := by decide +kernel
theorem dX10_circuitOf_3 : decode cX10_circuitOf 3 = .ok (.bipush 17, 2) := by decide +kernel
theorem dX10_circuitOf_5 : decode cX10_circuitOf 5 = .ok (.invokestatic 65, 3) := by decide +kernel
theorem dX10_circuitOf_8 : decode cX10_circuitOf 8 = .ok (.ifCond .ne 25, 3) := by decide +kernel
theorem dX10_circuitOf_11 : decode cX10_circuitOf 11 = .ok (.iload_n 2, 1) := by decide +kernel
theorem dX10_circuitOf_12 : decode cX10_circuitOf 12 = .ok (.bipush 20, 2) := by decide +kernel
theorem dX10_circuitOf_14 : decode cX10_circuitOf 14 = .ok (.bipush 27, 2) := by decide +kernel
theorem dX10_circuitOf_16 : decode cX10_circuitOf 16 = .ok (.invokestatic 65, 3) := by decide +kernel
theorem dX10_circuitOf_19 : decode cX10_circuitOf 19 = .ok (.ifCond .ne 14, 3) := by decide +kernel
theorem dX10_circuitOf_22 : decode cX10_circuitOf 22 = .ok (.iload_n 2, 1) := by decide +kernel
theorem dX10_circuitOf_23 : decode cX10_circuitOf 23 = .ok (.bipush 30, 2) := by decide +kernel
theorem dX10_circuitOf_25 : decode cX10_circuitOf 25 = .ok (.bipush 37, 2) := by decide +kernel
theorem dX10_circuitOf_27 : decode cX10_circuitOf 27 = .ok (.invokestatic 65, 3) := by decide +kernel
theorem dX10_circuitOf_30 : decode cX10_circuitOf 30 = .ok (.ifCond .eq 7, 3) := by decide +kernel
theorem dX10_circuitOf_33 : decode cX10_circuitOf 33 = .ok (.iconst 1, 1) := by decide +kernel
theorem dX10_circuitOf_34 : decode cX10_circuitOf 34 = .ok (.goto 4, 3) := by decide +kernel
theorem dX10_circuitOf_37 : decode cX10_circuitOf 37 = .ok (.iconst 0, 1) := by decide +kernel
theorem dX10_circuitOf_38 : decode cX10_circuitOf 38 = .ok (.istore_n 3, 1) := by decide +kernel
theorem dX10_circuitOf_39 : decode cX10_circuitOf 39 = .ok (.iload_n 1, 1) := by decide +kernel
theorem dX10_circuitOf_40 : decode cX10_circuitOf 40 = .ok (.iconst 0, 1) := by decide +kernel
theorem dX10_circuitOf_41 : decode cX10_circuitOf 41 = .ok (.iconst 1, 1) := by decide +kernel
theorem dX10_circuitOf_42 : decode cX10_circuitOf 42 = .ok (.invokestatic 65, 3) := by decide +kernel
theorem dX10_circuitOf_45 : decode cX10_circuitOf 45 = .ok (.ifCond .eq 17, 3) := by decide +kernel
theorem dX10_circuitOf_48 : decode cX10_circuitOf 48 = .ok (.iload_n 2, 1) := by decide +kernel
theorem dX10_circuitOf_49 : decode cX10_circuitOf 49 = .ok (.iconst 0, 1) := by decide +kernel
theorem dX10_circuitOf_50 : decode cX10_circuitOf 50 = .ok (.bipush 6, 2) := by decide +kernel
theorem dX10_circuitOf_52 : decode cX10_circuitOf 52 = .ok (.invokestatic 65, 3) := by decide +kernel
theorem dX10_circuitOf_55 : decode cX10_circuitOf 55 = .ok (.ifCond .ne 10, 3) := by decide +kernel
theorem dX10_circuitOf_58 : decode cX10_circuitOf 58 = .ok (.iload_n 3, 1) := by decide +kernel
theorem dX10_circuitOf_59 : decode cX10_circuitOf 59 = .ok (.ifCond .ne 6, 3) := by decide +kernel
theorem dX10_circuitOf_62 : decode cX10_circuitOf 62 = .ok (.ldc 60, 2) := by decide +kernel
theorem dX10_circuitOf_64 : decode cX10_circuitOf 64 = .ok (.ireturn, 1) := by decide +kernel
theorem dX10_circuitOf_65 : decode cX10_circuitOf 65 = .ok (.iload_n 2, 1) := by decide +kernel
theorem dX10_circuitOf_66 : decode cX10_circuitOf 66 = .ok (.tableswitch 79 0 6 #[42, 42, 49, 55, 61, 67, 73], 42) := by decide +kernel
theorem dX10_circuitOf_108 : decode cX10_circuitOf 108 = .ok (.aload_n 0, 1) := by decide +kernel
theorem dX10_circuitOf_109 : decode cX10_circuitOf 109 = .ok (.iload_n 1, 1) := by decide +kernel
theorem dX10_circuitOf_110 : decode cX10_circuitOf 110 = .ok (.iload_n 2, 1) := by decide +kernel
theorem dX10_circuitOf_111 : decode cX10_circuitOf 111 = .ok (.invokevirtual 69, 3) := by decide +kernel
theorem dX10_circuitOf_114 : decode cX10_circuitOf 114 = .ok (.ireturn, 1) := by decide +kernel
theorem dX10_circuitOf_115 : decode cX10_circuitOf 115 = .ok (.aload_n 0, 1) := by decide +kernel
theorem dX10_circuitOf_116 : decode cX10_circuitOf 116 = .ok (.iload_n 1, 1) := by decide +kernel
theorem dX10_circuitOf_117 : decode cX10_circuitOf 117 = .ok (.invokevirtual 97, 3) := by decide +kernel
theorem dX10_circuitOf_120 : decode cX10_circuitOf 120 = .ok (.ireturn, 1) := by decide +kernel
theorem dX10_circuitOf_121 : decode cX10_circuitOf 121 = .ok (.aload_n 0, 1) := by decide +kernel
theorem dX10_circuitOf_122 : decode cX10_circuitOf 122 = .ok (.iload_n 1, 1) := by decide +kernel
theorem dX10_circuitOf_123 : decode cX10_circuitOf 123 = .ok (.invokevirtual 106, 3) := by decide +kernel
theorem dX10_circuitOf_126 : decode cX10_circuitOf 126 = .ok (.ireturn, 1) := by decide +kernel
theorem dX10_circuitOf_127 : decode cX10_circuitOf 127 = .ok (.aload_n 0, 1) := by decide +kernel
theorem dX10_circuitOf_128 : decode cX10_circuitOf 128 = .ok (.iload_n 1, 1) := by decide +kernel
theorem dX10_circuitOf_129 : decode cX10_circuitOf 129 = .ok (.invokevirtual 117, 3) := by decide +kernel
theorem dX10_circuitOf_132 : decode cX10_circuitOf 132 = .ok (.ireturn, 1) := by decide +kernel
theorem dX10_circuitOf_133 : decode cX10_circuitOf 133 = .ok (.aload_n 0, 1) := by decide +kernel
theorem dX10_circuitOf_134 : decode cX10_circuitOf 134 = .ok (.iload_n 1, 1) := by decide +kernel
theorem dX10_circuitOf_135 : decode cX10_circuitOf 135 = .ok (.invokevirtual 120, 3) := by decide +kernel
theorem dX10_circuitOf_138 : decode cX10_circuitOf 138 = .ok (.ireturn, 1) := by decide +kernel
theorem dX10_circuitOf_139 : decode cX10_circuitOf 139 = .ok (.aload_n 0, 1) := by decide +kernel
theorem dX10_circuitOf_140 : decode cX10_circuitOf 140 = .ok (.iload_n 1, 1) := by decide +kernel
theorem dX10_circuitOf_141 : decode cX10_circuitOf 141 = .ok (.invokevirtual 123, 3) := by decide +kernel
theorem dX10_circuitOf_144 : decode cX10_circuitOf 144 = .ok (.ireturn, 1) := by decide +kernel
theorem dX10_circuitOf_145 : decode cX10_circuitOf 145 = .ok (.iload_n 2, 1) := by decide +kernel
theorem dX10_circuitOf_146 : decode cX10_circuitOf 146 = .ok (.bipush 10, 2) := by decide +kernel
theorem dX10_circuitOf_148 : decode cX10_circuitOf 148 = .ok (.irem, 1) := by decide +kernel
theorem dX10_circuitOf_149 : decode cX10_circuitOf 149 = .ok (.aload_n 0, 1) := by decide +kernel
theorem dX10_circuitOf_150 : decode cX10_circuitOf 150 = .ok (.iload_n 1, 1) := by decide +kernel
theorem dX10_circuitOf_151 : decode cX10_circuitOf 151 = .ok (.iconst 0, 1) := by decide +kernel
theorem dX10_circuitOf_152 : decode cX10_circuitOf 152 = .ok (.invokevirtual 69, 3) := by decide +kernel
theorem dX10_circuitOf_155 : decode cX10_circuitOf 155 = .ok (.if_icmp .ge 27, 3) := by decide +kernel
theorem dX10_circuitOf_158 : decode cX10_circuitOf 158 = .ok (.aload_n 0, 1) := by decide +kernel
theorem dX10_circuitOf_159 : decode cX10_circuitOf 159 = .ok (.iload_n 1, 1) := by decide +kernel
theorem dX10_circuitOf_160 : decode cX10_circuitOf 160 = .ok (.bipush 10, 2) := by decide +kernel
theorem dX10_circuitOf_162 : decode cX10_circuitOf 162 = .ok (.iconst 3, 1) := by decide +kernel
theorem dX10_circuitOf_163 : decode cX10_circuitOf 163 = .ok (.iload_n 2, 1) := by decide +kernel
theorem dX10_circuitOf_164 : decode cX10_circuitOf 164 = .ok (.bipush 10, 2) := by decide +kernel
theorem dX10_circuitOf_166 : decode cX10_circuitOf 166 = .ok (.irem, 1) := by decide +kernel
theorem dX10_circuitOf_167 : decode cX10_circuitOf 167 = .ok (.imul, 1) := by decide +kernel
theorem dX10_circuitOf_168 : decode cX10_circuitOf 168 = .ok (.iadd, 1) := by decide +kernel
theorem dX10_circuitOf_169 : decode cX10_circuitOf 169 = .ok (.iload_n 2, 1) := by decide +kernel
theorem dX10_circuitOf_170 : decode cX10_circuitOf 170 = .ok (.bipush 10, 2) := by decide +kernel
theorem dX10_circuitOf_172 : decode cX10_circuitOf 172 = .ok (.idiv, 1) := by decide +kernel
theorem dX10_circuitOf_173 : decode cX10_circuitOf 173 = .ok (.iadd, 1) := by decide +kernel
theorem dX10_circuitOf_174 : decode cX10_circuitOf 174 = .ok (.iconst 1, 1) := by decide +kernel
theorem dX10_circuitOf_175 : decode cX10_circuitOf 175 = .ok (.isub, 1) := by decide +kernel
theorem dX10_circuitOf_176 : decode cX10_circuitOf 176 = .ok (.invokevirtual 69, 3) := by decide +kernel
theorem dX10_circuitOf_179 : decode cX10_circuitOf 179 = .ok (.goto 5, 3) := by decide +kernel
theorem dX10_circuitOf_182 : decode cX10_circuitOf 182 = .ok (.ldc 126, 2) := by decide +kernel
theorem dX10_circuitOf_184 : decode cX10_circuitOf 184 = .ok (.ireturn, 1) := by decide +kernel
theorem dX10_pairsUp_0 : decode cX10_pairsUp 0 = .ok (.iconst 0, 1) := by decide +kernel
theorem dX10_pairsUp_1 : decode cX10_pairsUp 1 = .ok (.istore_n 1, 1) := by decide +kernel
theorem dX10_pairsUp_2 : decode cX10_pairsUp 2 = .ok (.iload_n 1, 1) := by decide +kernel
theorem dX10_pairsUp_3 : decode cX10_pairsUp 3 = .ok (.sipush 256, 3) := by decide +kernel
theorem dX10_pairsUp_6 : decode cX10_pairsUp 6 = .ok (.if_icmp .ge 16, 3) := by decide +kernel
theorem dX10_pairsUp_9 : decode cX10_pairsUp 9 = .ok (.aload_n 0, 1) := by decide +kernel
theorem dX10_pairsUp_10 : decode cX10_pairsUp 10 = .ok (.getfield 41, 3) := by decide +kernel
theorem dX10_pairsUp_13 : decode cX10_pairsUp 13 = .ok (.iload_n 1, 1) := by decide +kernel
theorem dX10_pairsUp_14 : decode cX10_pairsUp 14 = .ok (.iconst 0, 1) := by decide +kernel
theorem dX10_pairsUp_15 : decode cX10_pairsUp 15 = .ok (.iastore, 1) := by decide +kernel
theorem dX10_pairsUp_16 : decode cX10_pairsUp 16 = .ok (.iinc 1 1, 3) := by decide +kernel
theorem dX10_pairsUp_19 : decode cX10_pairsUp 19 = .ok (.goto (-17), 3) := by decide +kernel
theorem dX10_pairsUp_22 : decode cX10_pairsUp 22 = .ok (.aload_n 0, 1) := by decide +kernel
theorem dX10_pairsUp_23 : decode cX10_pairsUp 23 = .ok (.getfield 29, 3) := by decide +kernel
theorem dX10_pairsUp_26 : decode cX10_pairsUp 26 = .ok (.iconst 0, 1) := by decide +kernel
theorem dX10_pairsUp_27 : decode cX10_pairsUp 27 = .ok (.bipush 16, 2) := by decide +kernel
theorem dX10_pairsUp_29 : decode cX10_pairsUp 29 = .ok (.aload_n 0, 1) := by decide +kernel
theorem dX10_pairsUp_30 : decode cX10_pairsUp 30 = .ok (.iconst 0, 1) := by decide +kernel
theorem dX10_pairsUp_31 : decode cX10_pairsUp 31 = .ok (.invokevirtual 97, 3) := by decide +kernel
theorem dX10_pairsUp_34 : decode cX10_pairsUp 34 = .ok (.imul, 1) := by decide +kernel
theorem dX10_pairsUp_35 : decode cX10_pairsUp 35 = .ok (.aload_n 0, 1) := by decide +kernel
theorem dX10_pairsUp_36 : decode cX10_pairsUp 36 = .ok (.iconst 1, 1) := by decide +kernel
theorem dX10_pairsUp_37 : decode cX10_pairsUp 37 = .ok (.invokevirtual 97, 3) := by decide +kernel
theorem dX10_pairsUp_40 : decode cX10_pairsUp 40 = .ok (.iadd, 1) := by decide +kernel
theorem dX10_pairsUp_41 : decode cX10_pairsUp 41 = .ok (.iastore, 1) := by decide +kernel
theorem dX10_pairsUp_42 : decode cX10_pairsUp 42 = .ok (.aload_n 0, 1) := by decide +kernel
theorem dX10_pairsUp_43 : decode cX10_pairsUp 43 = .ok (.getfield 41, 3) := by decide +kernel
theorem dX10_pairsUp_46 : decode cX10_pairsUp 46 = .ok (.aload_n 0, 1) := by decide +kernel
theorem dX10_pairsUp_47 : decode cX10_pairsUp 47 = .ok (.getfield 29, 3) := by decide +kernel
theorem dX10_pairsUp_50 : decode cX10_pairsUp 50 = .ok (.iconst 0, 1) := by decide +kernel
theorem dX10_pairsUp_51 : decode cX10_pairsUp 51 = .ok (.iaload, 1) := by decide +kernel
theorem dX10_pairsUp_52 : decode cX10_pairsUp 52 = .ok (.iconst 1, 1) := by decide +kernel
theorem dX10_pairsUp_53 : decode cX10_pairsUp 53 = .ok (.iastore, 1) := by decide +kernel
theorem dX10_pairsUp_54 : decode cX10_pairsUp 54 = .ok (.aload_n 0, 1) := by decide +kernel
theorem dX10_pairsUp_55 : decode cX10_pairsUp 55 = .ok (.getfield 32, 3) := by decide +kernel
theorem dX10_pairsUp_58 : decode cX10_pairsUp 58 = .ok (.iconst 0, 1) := by decide +kernel
theorem dX10_pairsUp_59 : decode cX10_pairsUp 59 = .ok (.iconst (-1), 1) := by decide +kernel
theorem dX10_pairsUp_60 : decode cX10_pairsUp 60 = .ok (.iastore, 1) := by decide +kernel
theorem dX10_pairsUp_61 : decode cX10_pairsUp 61 = .ok (.aload_n 0, 1) := by decide +kernel
theorem dX10_pairsUp_62 : decode cX10_pairsUp 62 = .ok (.getfield 38, 3) := by decide +kernel
theorem dX10_pairsUp_65 : decode cX10_pairsUp 65 = .ok (.iconst 0, 1) := by decide +kernel
theorem dX10_pairsUp_66 : decode cX10_pairsUp 66 = .ok (.iconst 0, 1) := by decide +kernel
theorem dX10_pairsUp_67 : decode cX10_pairsUp 67 = .ok (.iastore, 1) := by decide +kernel
theorem dX10_pairsUp_68 : decode cX10_pairsUp 68 = .ok (.aload_n 0, 1) := by decide +kernel
theorem dX10_pairsUp_69 : decode cX10_pairsUp 69 = .ok (.iconst 1, 1) := by decide +kernel
theorem dX10_pairsUp_70 : decode cX10_pairsUp 70 = .ok (.putfield 127, 3) := by decide +kernel
theorem dX10_pairsUp_73 : decode cX10_pairsUp 73 = .ok (.aload_n 0, 1) := by decide +kernel
theorem dX10_pairsUp_74 : decode cX10_pairsUp 74 = .ok (.iconst (-1), 1) := by decide +kernel
theorem dX10_pairsUp_75 : decode cX10_pairsUp 75 = .ok (.putfield 130, 3) := by decide +kernel
theorem dX10_pairsUp_78 : decode cX10_pairsUp 78 = .ok (.iconst 0, 1) := by decide +kernel
theorem dX10_pairsUp_79 : decode cX10_pairsUp 79 = .ok (.istore_n 1, 1) := by decide +kernel
theorem dX10_pairsUp_80 : decode cX10_pairsUp 80 = .ok (.iload_n 1, 1) := by decide +kernel
theorem dX10_pairsUp_81 : decode cX10_pairsUp 81 = .ok (.aload_n 0, 1) := by decide +kernel
theorem dX10_pairsUp_82 : decode cX10_pairsUp 82 = .ok (.getfield 127, 3) := by decide +kernel
theorem dX10_pairsUp_85 : decode cX10_pairsUp 85 = .ok (.if_icmp .ge 180, 3) := by decide +kernel
theorem dX10_pairsUp_88 : decode cX10_pairsUp 88 = .ok (.aload_n 0, 1) := by decide +kernel
theorem dX10_pairsUp_89 : decode cX10_pairsUp 89 = .ok (.getfield 29, 3) := by decide +kernel
theorem dX10_pairsUp_92 : decode cX10_pairsUp 92 = .ok (.iload_n 1, 1) := by decide +kernel
theorem dX10_pairsUp_93 : decode cX10_pairsUp 93 = .ok (.iaload, 1) := by decide +kernel
theorem dX10_pairsUp_94 : decode cX10_pairsUp 94 = .ok (.bipush 16, 2) := by decide +kernel
theorem dX10_pairsUp_96 : decode cX10_pairsUp 96 = .ok (.idiv, 1) := by decide +kernel
theorem dX10_pairsUp_97 : decode cX10_pairsUp 97 = .ok (.istore_n 2, 1) := by decide +kernel
theorem dX10_pairsUp_98 : decode cX10_pairsUp 98 = .ok (.aload_n 0, 1) := by decide +kernel
theorem dX10_pairsUp_99 : decode cX10_pairsUp 99 = .ok (.getfield 29, 3) := by decide +kernel
theorem dX10_pairsUp_102 : decode cX10_pairsUp 102 = .ok (.iload_n 1, 1) := by decide +kernel
theorem dX10_pairsUp_103 : decode cX10_pairsUp 103 = .ok (.iaload, 1) := by decide +kernel
theorem dX10_pairsUp_104 : decode cX10_pairsUp 104 = .ok (.bipush 16, 2) := by decide +kernel
theorem dX10_pairsUp_106 : decode cX10_pairsUp 106 = .ok (.irem, 1) := by decide +kernel
theorem dX10_pairsUp_107 : decode cX10_pairsUp 107 = .ok (.istore_n 3, 1) := by decide +kernel
theorem dX10_pairsUp_108 : decode cX10_pairsUp 108 = .ok (.iconst 0, 1) := by decide +kernel
theorem dX10_pairsUp_109 : decode cX10_pairsUp 109 = .ok (.istore 4, 2) := by decide +kernel
theorem dX10_pairsUp_111 : decode cX10_pairsUp 111 = .ok (.iload 4, 2) := by decide +kernel
theorem dX10_pairsUp_113 : decode cX10_pairsUp 113 = .ok (.iconst 4, 1) := by decide +kernel
theorem dX10_pairsUp_114 : decode cX10_pairsUp 114 = .ok (.if_icmp .ge 145, 3) := by decide +kernel
theorem dX10_pairsUp_117 : decode cX10_pairsUp 117 = .ok (.aload_n 0, 1) := by decide +kernel
theorem dX10_pairsUp_118 : decode cX10_pairsUp 118 = .ok (.getfield 130, 3) := by decide +kernel
theorem dX10_pairsUp_121 : decode cX10_pairsUp 121 = .ok (.ifCond .ge 33, 3) := by decide +kernel
theorem dX10_pairsUp_124 : decode cX10_pairsUp 124 = .ok (.aload_n 0, 1) := by decide +kernel
theorem dX10_pairsUp_125 : decode cX10_pairsUp 125 = .ok (.iconst 0, 1) := by decide +kernel
theorem dX10_pairsUp_126 : decode cX10_pairsUp 126 = .ok (.iload_n 2, 1) := by decide +kernel
theorem dX10_pairsUp_127 : decode cX10_pairsUp 127 = .ok (.iload 4, 2) := by decide +kernel
theorem dX10_pairsUp_129 : decode cX10_pairsUp 129 = .ok (.invokevirtual 100, 3) := by decide +kernel
theorem dX10_pairsUp_132 : decode cX10_pairsUp 132 = .ok (.aload_n 0, 1) := by decide +kernel
theorem dX10_pairsUp_133 : decode cX10_pairsUp 133 = .ok (.iconst 1, 1) := by decide +kernel
theorem dX10_pairsUp_134 : decode cX10_pairsUp 134 = .ok (.iload_n 3, 1) := by decide +kernel
theorem dX10_pairsUp_135 : decode cX10_pairsUp 135 = .ok (.iload 4, 2) := by decide +kernel
theorem dX10_pairsUp_137 : decode cX10_pairsUp 137 = .ok (.invokevirtual 100, 3) := by decide +kernel
theorem dX10_pairsUp_140 : decode cX10_pairsUp 140 = .ok (.if_icmp .eq 14, 3) := by decide +kernel
theorem dX10_pairsUp_143 : decode cX10_pairsUp 143 = .ok (.aload_n 0, 1) := by decide +kernel
theorem dX10_pairsUp_144 : decode cX10_pairsUp 144 = .ok (.iload_n 1, 1) := by decide +kernel
theorem dX10_pairsUp_145 : decode cX10_pairsUp 145 = .ok (.putfield 130, 3) := by decide +kernel
theorem dX10_pairsUp_148 : decode cX10_pairsUp 148 = .ok (.aload_n 0, 1) := by decide +kernel
theorem dX10_pairsUp_149 : decode cX10_pairsUp 149 = .ok (.iload 4, 2) := by decide +kernel
theorem dX10_pairsUp_151 : decode cX10_pairsUp 151 = .ok (.putfield 133, 3) := by decide +kernel
theorem dX10_pairsUp_154 : decode cX10_pairsUp 154 = .ok (.bipush 16, 2) := by decide +kernel
theorem dX10_pairsUp_156 : decode cX10_pairsUp 156 = .ok (.aload_n 0, 1) := by decide +kernel
theorem dX10_pairsUp_157 : decode cX10_pairsUp 157 = .ok (.iconst 0, 1) := by decide +kernel
theorem dX10_pairsUp_158 : decode cX10_pairsUp 158 = .ok (.iload_n 2, 1) := by decide +kernel
theorem dX10_pairsUp_159 : decode cX10_pairsUp 159 = .ok (.iload 4, 2) := by decide +kernel
theorem dX10_pairsUp_161 : decode cX10_pairsUp 161 = .ok (.invokevirtual 94, 3) := by decide +kernel
theorem dX10_pairsUp_164 : decode cX10_pairsUp 164 = .ok (.imul, 1) := by decide +kernel
theorem dX10_pairsUp_165 : decode cX10_pairsUp 165 = .ok (.aload_n 0, 1) := by decide +kernel
theorem dX10_pairsUp_166 : decode cX10_pairsUp 166 = .ok (.iconst 1, 1) := by decide +kernel
theorem dX10_pairsUp_167 : decode cX10_pairsUp 167 = .ok (.iload_n 3, 1) := by decide +kernel
theorem dX10_pairsUp_168 : decode cX10_pairsUp 168 = .ok (.iload 4, 2) := by decide +kernel
theorem dX10_pairsUp_170 : decode cX10_pairsUp 170 = .ok (.invokevirtual 94, 3) := by decide +kernel
theorem dX10_pairsUp_173 : decode cX10_pairsUp 173 = .ok (.iadd, 1) := by decide +kernel
theorem dX10_pairsUp_174 : decode cX10_pairsUp 174 = .ok (.istore 5, 2) := by decide +kernel
theorem dX10_pairsUp_176 : decode cX10_pairsUp 176 = .ok (.aload_n 0, 1) := by decide +kernel
theorem dX10_pairsUp_177 : decode cX10_pairsUp 177 = .ok (.getfield 41, 3) := by decide +kernel
theorem dX10_pairsUp_180 : decode cX10_pairsUp 180 = .ok (.iload 5, 2) := by decide +kernel
theorem dX10_pairsUp_182 : decode cX10_pairsUp 182 = .ok (.iaload, 1) := by decide +kernel
theorem dX10_pairsUp_183 : decode cX10_pairsUp 183 = .ok (.ifCond .ne 70, 3) := by decide +kernel
theorem dX10_pairsUp_186 : decode cX10_pairsUp 186 = .ok (.aload_n 0, 1) := by decide +kernel
theorem dX10_pairsUp_187 : decode cX10_pairsUp 187 = .ok (.getfield 41, 3) := by decide +kernel
theorem dX10_pairsUp_190 : decode cX10_pairsUp 190 = .ok (.iload 5, 2) := by decide +kernel
theorem dX10_pairsUp_192 : decode cX10_pairsUp 192 = .ok (.iconst 1, 1) := by decide +kernel
theorem dX10_pairsUp_193 : decode cX10_pairsUp 193 = .ok (.iastore, 1) := by decide +kernel
theorem dX10_pairsUp_194 : decode cX10_pairsUp 194 = .ok (.aload_n 0, 1) := by decide +kernel
theorem dX10_pairsUp_195 : decode cX10_pairsUp 195 = .ok (.getfield 29, 3) := by decide +kernel
theorem dX10_pairsUp_198 : decode cX10_pairsUp 198 = .ok (.aload_n 0, 1) := by decide +kernel
theorem dX10_pairsUp_199 : decode cX10_pairsUp 199 = .ok (.getfield 127, 3) := by decide +kernel
theorem dX10_pairsUp_202 : decode cX10_pairsUp 202 = .ok (.iload 5, 2) := by decide +kernel
theorem dX10_pairsUp_204 : decode cX10_pairsUp 204 = .ok (.iastore, 1) := by decide +kernel
theorem dX10_pairsUp_205 : decode cX10_pairsUp 205 = .ok (.aload_n 0, 1) := by decide +kernel
theorem dX10_pairsUp_206 : decode cX10_pairsUp 206 = .ok (.getfield 32, 3) := by decide +kernel
theorem dX10_pairsUp_209 : decode cX10_pairsUp 209 = .ok (.aload_n 0, 1) := by decide +kernel
theorem dX10_pairsUp_210 : decode cX10_pairsUp 210 = .ok (.getfield 127, 3) := by decide +kernel
theorem dX10_pairsUp_213 : decode cX10_pairsUp 213 = .ok (.iload_n 1, 1) := by decide +kernel
theorem dX10_pairsUp_214 : decode cX10_pairsUp 214 = .ok (.iastore, 1) := by decide +kernel
theorem dX10_pairsUp_215 : decode cX10_pairsUp 215 = .ok (.aload_n 0, 1) := by decide +kernel
theorem dX10_pairsUp_216 : decode cX10_pairsUp 216 = .ok (.getfield 35, 3) := by decide +kernel
theorem dX10_pairsUp_219 : decode cX10_pairsUp 219 = .ok (.aload_n 0, 1) := by decide +kernel
theorem dX10_pairsUp_220 : decode cX10_pairsUp 220 = .ok (.getfield 127, 3) := by decide +kernel
theorem dX10_pairsUp_223 : decode cX10_pairsUp 223 = .ok (.iload 4, 2) := by decide +kernel
theorem dX10_pairsUp_225 : decode cX10_pairsUp 225 = .ok (.iastore, 1) := by decide +kernel
theorem dX10_pairsUp_226 : decode cX10_pairsUp 226 = .ok (.aload_n 0, 1) := by decide +kernel
theorem dX10_pairsUp_227 : decode cX10_pairsUp 227 = .ok (.getfield 38, 3) := by decide +kernel
theorem dX10_pairsUp_230 : decode cX10_pairsUp 230 = .ok (.aload_n 0, 1) := by decide +kernel
theorem dX10_pairsUp_231 : decode cX10_pairsUp 231 = .ok (.getfield 127, 3) := by decide +kernel
theorem dX10_pairsUp_234 : decode cX10_pairsUp 234 = .ok (.aload_n 0, 1) := by decide +kernel
theorem dX10_pairsUp_235 : decode cX10_pairsUp 235 = .ok (.getfield 38, 3) := by decide +kernel
theorem dX10_pairsUp_238 : decode cX10_pairsUp 238 = .ok (.iload_n 1, 1) := by decide +kernel
theorem dX10_pairsUp_239 : decode cX10_pairsUp 239 = .ok (.iaload, 1) := by decide +kernel
theorem dX10_pairsUp_240 : decode cX10_pairsUp 240 = .ok (.iconst 1, 1) := by decide +kernel
theorem dX10_pairsUp_241 : decode cX10_pairsUp 241 = .ok (.iadd, 1) := by decide +kernel
theorem dX10_pairsUp_242 : decode cX10_pairsUp 242 = .ok (.iastore, 1) := by decide +kernel
theorem dX10_pairsUp_243 : decode cX10_pairsUp 243 = .ok (.aload_n 0, 1) := by decide +kernel
theorem dX10_pairsUp_244 : decode cX10_pairsUp 244 = .ok (.dup, 1) := by decide +kernel
theorem dX10_pairsUp_245 : decode cX10_pairsUp 245 = .ok (.getfield 127, 3) := by decide +kernel
theorem dX10_pairsUp_248 : decode cX10_pairsUp 248 = .ok (.iconst 1, 1) := by decide +kernel
theorem dX10_pairsUp_249 : decode cX10_pairsUp 249 = .ok (.iadd, 1) := by decide +kernel
theorem dX10_pairsUp_250 : decode cX10_pairsUp 250 = .ok (.putfield 127, 3) := by decide +kernel
theorem dX10_pairsUp_253 : decode cX10_pairsUp 253 = .ok (.iinc 4 1, 3) := by decide +kernel
theorem dX10_pairsUp_256 : decode cX10_pairsUp 256 = .ok (.goto (-145), 3) := by decide +kernel
theorem dX10_pairsUp_259 : decode cX10_pairsUp 259 = .ok (.iinc 1 1, 3) := by decide +kernel
theorem dX10_pairsUp_262 : decode cX10_pairsUp 262 = .ok (.goto (-182), 3) := by decide +kernel
theorem dX10_pairsUp_265 : decode cX10_pairsUp 265 = .ok (.return_, 1) := by decide +kernel
theorem dX10_rowAt_0 : decode cX10_rowAt 0 = .ok (.iload_n 1, 1) := by decide +kernel
theorem dX10_rowAt_1 : decode cX10_rowAt 1 = .ok (.istore_n 3, 1) := by decide +kernel
theorem dX10_rowAt_2 : decode cX10_rowAt 2 = .ok (.aload_n 0, 1) := by decide +kernel
theorem dX10_rowAt_3 : decode cX10_rowAt 3 = .ok (.getfield 38, 3) := by decide +kernel
theorem dX10_rowAt_6 : decode cX10_rowAt 6 = .ok (.iload_n 3, 1) := by decide +kernel
theorem dX10_rowAt_7 : decode cX10_rowAt 7 = .ok (.iaload, 1) := by decide +kernel
theorem dX10_rowAt_8 : decode cX10_rowAt 8 = .ok (.iload_n 2, 1) := by decide +kernel
theorem dX10_rowAt_9 : decode cX10_rowAt 9 = .ok (.iconst 1, 1) := by decide +kernel
theorem dX10_rowAt_10 : decode cX10_rowAt 10 = .ok (.iadd, 1) := by decide +kernel
theorem dX10_rowAt_11 : decode cX10_rowAt 11 = .ok (.if_icmp .le 13, 3) := by decide +kernel
theorem dX10_rowAt_14 : decode cX10_rowAt 14 = .ok (.aload_n 0, 1) := by decide +kernel
theorem dX10_rowAt_15 : decode cX10_rowAt 15 = .ok (.getfield 32, 3) := by decide +kernel
theorem dX10_rowAt_18 : decode cX10_rowAt 18 = .ok (.iload_n 3, 1) := by decide +kernel
theorem dX10_rowAt_19 : decode cX10_rowAt 19 = .ok (.iaload, 1) := by decide +kernel
theorem dX10_rowAt_20 : decode cX10_rowAt 20 = .ok (.istore_n 3, 1) := by decide +kernel
theorem dX10_rowAt_21 : decode cX10_rowAt 21 = .ok (.goto (-19), 3) := by decide +kernel
theorem dX10_rowAt_24 : decode cX10_rowAt 24 = .ok (.aload_n 0, 1) := by decide +kernel
theorem dX10_rowAt_25 : decode cX10_rowAt 25 = .ok (.getfield 35, 3) := by decide +kernel
theorem dX10_rowAt_28 : decode cX10_rowAt 28 = .ok (.iload_n 3, 1) := by decide +kernel
theorem dX10_rowAt_29 : decode cX10_rowAt 29 = .ok (.iaload, 1) := by decide +kernel
theorem dX10_rowAt_30 : decode cX10_rowAt 30 = .ok (.ireturn, 1) := by decide +kernel
theorem dX10_differs_0 : decode cX10_differs 0 = .ok (.iconst 0, 1) := by decide +kernel
theorem dX10_differs_1 : decode cX10_differs 1 = .ok (.istore_n 2, 1) := by decide +kernel
theorem dX10_differs_2 : decode cX10_differs 2 = .ok (.iconst 0, 1) := by decide +kernel
theorem dX10_differs_3 : decode cX10_differs 3 = .ok (.istore_n 3, 1) := by decide +kernel
theorem dX10_differs_4 : decode cX10_differs 4 = .ok (.iload_n 3, 1) := by decide +kernel
theorem dX10_differs_5 : decode cX10_differs 5 = .ok (.iconst 4, 1) := by decide +kernel
theorem dX10_differs_6 : decode cX10_differs 6 = .ok (.if_icmp .ge 52, 3) := by decide +kernel
theorem dX10_differs_9 : decode cX10_differs 9 = .ok (.iload_n 2, 1) := by decide +kernel
theorem dX10_differs_10 : decode cX10_differs 10 = .ok (.aload_n 0, 1) := by decide +kernel
theorem dX10_differs_11 : decode cX10_differs 11 = .ok (.iconst 0, 1) := by decide +kernel
theorem dX10_differs_12 : decode cX10_differs 12 = .ok (.aload_n 0, 1) := by decide +kernel
theorem dX10_differs_13 : decode cX10_differs 13 = .ok (.getfield 29, 3) := by decide +kernel
theorem dX10_differs_16 : decode cX10_differs 16 = .ok (.iload_n 1, 1) := by decide +kernel
theorem dX10_differs_17 : decode cX10_differs 17 = .ok (.iaload, 1) := by decide +kernel
theorem dX10_differs_18 : decode cX10_differs 18 = .ok (.bipush 16, 2) := by decide +kernel
theorem dX10_differs_20 : decode cX10_differs 20 = .ok (.idiv, 1) := by decide +kernel
theorem dX10_differs_21 : decode cX10_differs 21 = .ok (.iload_n 3, 1) := by decide +kernel
theorem dX10_differs_22 : decode cX10_differs 22 = .ok (.invokevirtual 100, 3) := by decide +kernel
theorem dX10_differs_25 : decode cX10_differs 25 = .ok (.aload_n 0, 1) := by decide +kernel
theorem dX10_differs_26 : decode cX10_differs 26 = .ok (.iconst 1, 1) := by decide +kernel
theorem dX10_differs_27 : decode cX10_differs 27 = .ok (.aload_n 0, 1) := by decide +kernel
theorem dX10_differs_28 : decode cX10_differs 28 = .ok (.getfield 29, 3) := by decide +kernel
theorem dX10_differs_31 : decode cX10_differs 31 = .ok (.iload_n 1, 1) := by decide +kernel
theorem dX10_differs_32 : decode cX10_differs 32 = .ok (.iaload, 1) := by decide +kernel
theorem dX10_differs_33 : decode cX10_differs 33 = .ok (.bipush 16, 2) := by decide +kernel
theorem dX10_differs_35 : decode cX10_differs 35 = .ok (.irem, 1) := by decide +kernel
theorem dX10_differs_36 : decode cX10_differs 36 = .ok (.iload_n 3, 1) := by decide +kernel
theorem dX10_differs_37 : decode cX10_differs 37 = .ok (.invokevirtual 100, 3) := by decide +kernel
theorem dX10_differs_40 : decode cX10_differs 40 = .ok (.if_icmp .eq 9, 3) := by decide +kernel
theorem dX10_differs_43 : decode cX10_differs 43 = .ok (.iconst 1, 1) := by decide +kernel
theorem dX10_differs_44 : decode cX10_differs 44 = .ok (.iload_n 3, 1) := by decide +kernel
theorem dX10_differs_45 : decode cX10_differs 45 = .ok (.ishl, 1) := by decide +kernel
theorem dX10_differs_46 : decode cX10_differs 46 = .ok (.goto 4, 3) := by decide +kernel
theorem dX10_differs_49 : decode cX10_differs 49 = .ok (.iconst 0, 1) := by decide +kernel
theorem dX10_differs_50 : decode cX10_differs 50 = .ok (.ior, 1) := by decide +kernel
theorem dX10_differs_51 : decode cX10_differs 51 = .ok (.istore_n 2, 1) := by decide +kernel
theorem dX10_differs_52 : decode cX10_differs 52 = .ok (.iinc 3 1, 3) := by decide +kernel
theorem dX10_differs_55 : decode cX10_differs 55 = .ok (.goto (-51), 3) := by decide +kernel
theorem dX10_differs_58 : decode cX10_differs 58 = .ok (.iload_n 2, 1) := by decide +kernel
theorem dX10_differs_59 : decode cX10_differs 59 = .ok (.ireturn, 1) := by decide +kernel
theorem dX10_pairOf_0 : decode cX10_pairOf 0 = .ok (.iload_n 1, 1) := by decide +kernel
theorem dX10_pairOf_1 : decode cX10_pairOf 1 = .ok (.ifCond .lt 24, 3) := by decide +kernel
theorem dX10_pairOf_4 : decode cX10_pairOf 4 = .ok (.iload_n 2, 1) := by decide +kernel
theorem dX10_pairOf_5 : decode cX10_pairOf 5 = .ok (.iconst 0, 1) := by decide +kernel
theorem dX10_pairOf_6 : decode cX10_pairOf 6 = .ok (.iconst 3, 1) := by decide +kernel
theorem dX10_pairOf_7 : decode cX10_pairOf 7 = .ok (.invokestatic 65, 3) := by decide +kernel
theorem dX10_pairOf_10 : decode cX10_pairOf 10 = .ok (.ifCond .ne 18, 3) := by decide +kernel
theorem dX10_pairOf_13 : decode cX10_pairOf 13 = .ok (.iload_n 2, 1) := by decide +kernel
theorem dX10_pairOf_14 : decode cX10_pairOf 14 = .ok (.bipush 10, 2) := by decide +kernel
theorem dX10_pairOf_16 : decode cX10_pairOf 16 = .ok (.sipush 265, 3) := by decide +kernel
theorem dX10_pairOf_19 : decode cX10_pairOf 19 = .ok (.invokestatic 65, 3) := by decide +kernel
theorem dX10_pairOf_22 : decode cX10_pairOf 22 = .ok (.ifCond .ne 6, 3) := by decide +kernel
theorem dX10_pairOf_25 : decode cX10_pairOf 25 = .ok (.ldc 60, 2) := by decide +kernel
theorem dX10_pairOf_27 : decode cX10_pairOf 27 = .ok (.ireturn, 1) := by decide +kernel
theorem dX10_pairOf_28 : decode cX10_pairOf 28 = .ok (.aload_n 0, 1) := by decide +kernel
theorem dX10_pairOf_29 : decode cX10_pairOf 29 = .ok (.invokevirtual 136, 3) := by decide +kernel
theorem dX10_pairOf_32 : decode cX10_pairOf 32 = .ok (.iload_n 1, 1) := by decide +kernel
theorem dX10_pairOf_33 : decode cX10_pairOf 33 = .ok (.aload_n 0, 1) := by decide +kernel
theorem dX10_pairOf_34 : decode cX10_pairOf 34 = .ok (.getfield 127, 3) := by decide +kernel
theorem dX10_pairOf_37 : decode cX10_pairOf 37 = .ok (.if_icmp .ge 16, 3) := by decide +kernel
theorem dX10_pairOf_40 : decode cX10_pairOf 40 = .ok (.iload_n 2, 1) := by decide +kernel
theorem dX10_pairOf_41 : decode cX10_pairOf 41 = .ok (.bipush 10, 2) := by decide +kernel
theorem dX10_pairOf_43 : decode cX10_pairOf 43 = .ok (.isub, 1) := by decide +kernel
theorem dX10_pairOf_44 : decode cX10_pairOf 44 = .ok (.aload_n 0, 1) := by decide +kernel
theorem dX10_pairOf_45 : decode cX10_pairOf 45 = .ok (.getfield 38, 3) := by decide +kernel
theorem dX10_pairOf_48 : decode cX10_pairOf 48 = .ok (.iload_n 1, 1) := by decide +kernel
theorem dX10_pairOf_49 : decode cX10_pairOf 49 = .ok (.iaload, 1) := by decide +kernel
theorem dX10_pairOf_50 : decode cX10_pairOf 50 = .ok (.if_icmp .lt 6, 3) := by decide +kernel
theorem dX10_pairOf_53 : decode cX10_pairOf 53 = .ok (.ldc 126, 2) := by decide +kernel
theorem dX10_pairOf_55 : decode cX10_pairOf 55 = .ok (.ireturn, 1) := by decide +kernel
theorem dX10_pairOf_56 : decode cX10_pairOf 56 = .ok (.iload_n 2, 1) := by decide +kernel
theorem dX10_pairOf_57 : decode cX10_pairOf 57 = .ok (.tableswitch 64 0 3 #[31, 41, 51, 58], 31) := by decide +kernel
theorem dX10_pairOf_88 : decode cX10_pairOf 88 = .ok (.aload_n 0, 1) := by decide +kernel
theorem dX10_pairOf_89 : decode cX10_pairOf 89 = .ok (.getfield 29, 3) := by decide +kernel
theorem dX10_pairOf_92 : decode cX10_pairOf 92 = .ok (.iload_n 1, 1) := by decide +kernel
theorem dX10_pairOf_93 : decode cX10_pairOf 93 = .ok (.iaload, 1) := by decide +kernel
theorem dX10_pairOf_94 : decode cX10_pairOf 94 = .ok (.bipush 16, 2) := by decide +kernel
theorem dX10_pairOf_96 : decode cX10_pairOf 96 = .ok (.idiv, 1) := by decide +kernel
theorem dX10_pairOf_97 : decode cX10_pairOf 97 = .ok (.ireturn, 1) := by decide +kernel
theorem dX10_pairOf_98 : decode cX10_pairOf 98 = .ok (.aload_n 0, 1) := by decide +kernel
theorem dX10_pairOf_99 : decode cX10_pairOf 99 = .ok (.getfield 29, 3) := by decide +kernel
theorem dX10_pairOf_102 : decode cX10_pairOf 102 = .ok (.iload_n 1, 1) := by decide +kernel
theorem dX10_pairOf_103 : decode cX10_pairOf 103 = .ok (.iaload, 1) := by decide +kernel
theorem dX10_pairOf_104 : decode cX10_pairOf 104 = .ok (.bipush 16, 2) := by decide +kernel
theorem dX10_pairOf_106 : decode cX10_pairOf 106 = .ok (.irem, 1) := by decide +kernel
theorem dX10_pairOf_107 : decode cX10_pairOf 107 = .ok (.ireturn, 1) := by decide +kernel
theorem dX10_pairOf_108 : decode cX10_pairOf 108 = .ok (.aload_n 0, 1) := by decide +kernel
theorem dX10_pairOf_109 : decode cX10_pairOf 109 = .ok (.getfield 38, 3) := by decide +kernel
theorem dX10_pairOf_112 : decode cX10_pairOf 112 = .ok (.iload_n 1, 1) := by decide +kernel
theorem dX10_pairOf_113 : decode cX10_pairOf 113 = .ok (.iaload, 1) := by decide +kernel
theorem dX10_pairOf_114 : decode cX10_pairOf 114 = .ok (.ireturn, 1) := by decide +kernel
theorem dX10_pairOf_115 : decode cX10_pairOf 115 = .ok (.aload_n 0, 1) := by decide +kernel
theorem dX10_pairOf_116 : decode cX10_pairOf 116 = .ok (.iload_n 1, 1) := by decide +kernel
theorem dX10_pairOf_117 : decode cX10_pairOf 117 = .ok (.invokevirtual 139, 3) := by decide +kernel
theorem dX10_pairOf_120 : decode cX10_pairOf 120 = .ok (.ireturn, 1) := by decide +kernel
theorem dX10_pairOf_121 : decode cX10_pairOf 121 = .ok (.aload_n 0, 1) := by decide +kernel
theorem dX10_pairOf_122 : decode cX10_pairOf 122 = .ok (.iload_n 1, 1) := by decide +kernel
theorem dX10_pairOf_123 : decode cX10_pairOf 123 = .ok (.iload_n 2, 1) := by decide +kernel
theorem dX10_pairOf_124 : decode cX10_pairOf 124 = .ok (.bipush 10, 2) := by decide +kernel
theorem dX10_pairOf_126 : decode cX10_pairOf 126 = .ok (.isub, 1) := by decide +kernel
theorem dX10_pairOf_127 : decode cX10_pairOf 127 = .ok (.invokevirtual 142, 3) := by decide +kernel
theorem dX10_pairOf_130 : decode cX10_pairOf 130 = .ok (.ireturn, 1) := by decide +kernel
theorem dX10_pairs_0 : decode cX10_pairs 0 = .ok (.aload_n 0, 1) := by decide +kernel
theorem dX10_pairs_1 : decode cX10_pairs 1 = .ok (.invokevirtual 136, 3) := by decide +kernel
theorem dX10_pairs_4 : decode cX10_pairs 4 = .ok (.aload_n 0, 1) := by decide +kernel
theorem dX10_pairs_5 : decode cX10_pairs 5 = .ok (.getfield 127, 3) := by decide +kernel
theorem dX10_pairs_8 : decode cX10_pairs 8 = .ok (.ireturn, 1) := by decide +kernel
theorem dX10_apart_0 : decode cX10_apart 0 = .ok (.iload_n 1, 1) := by decide +kernel
theorem dX10_apart_1 : decode cX10_apart 1 = .ok (.iconst (-1), 1) := by decide +kernel
theorem dX10_apart_2 : decode cX10_apart 2 = .ok (.if_icmp .ge 6, 3) := by decide +kernel
theorem dX10_apart_5 : decode cX10_apart 5 = .ok (.ldc 60, 2) := by decide +kernel
theorem dX10_apart_7 : decode cX10_apart 7 = .ok (.ireturn, 1) := by decide +kernel
theorem dX10_apart_8 : decode cX10_apart 8 = .ok (.aload_n 0, 1) := by decide +kernel
theorem dX10_apart_9 : decode cX10_apart 9 = .ok (.invokevirtual 136, 3) := by decide +kernel
theorem dX10_apart_12 : decode cX10_apart 12 = .ok (.aload_n 0, 1) := by decide +kernel
theorem dX10_apart_13 : decode cX10_apart 13 = .ok (.getfield 130, 3) := by decide +kernel
theorem dX10_apart_16 : decode cX10_apart 16 = .ok (.ifCond .lt 16, 3) := by decide +kernel
theorem dX10_apart_19 : decode cX10_apart 19 = .ok (.iload_n 1, 1) := by decide +kernel
theorem dX10_apart_20 : decode cX10_apart 20 = .ok (.aload_n 0, 1) := by decide +kernel
theorem dX10_apart_21 : decode cX10_apart 21 = .ok (.getfield 38, 3) := by decide +kernel
theorem dX10_apart_24 : decode cX10_apart 24 = .ok (.aload_n 0, 1) := by decide +kernel
theorem dX10_apart_25 : decode cX10_apart 25 = .ok (.getfield 130, 3) := by decide +kernel
theorem dX10_apart_28 : decode cX10_apart 28 = .ok (.iaload, 1) := by decide +kernel
theorem dX10_apart_29 : decode cX10_apart 29 = .ok (.if_icmp .le 6, 3) := by decide +kernel
theorem dX10_apart_32 : decode cX10_apart 32 = .ok (.ldc 126, 2) := by decide +kernel
theorem dX10_apart_34 : decode cX10_apart 34 = .ok (.ireturn, 1) := by decide +kernel
theorem dX10_apart_35 : decode cX10_apart 35 = .ok (.iload_n 1, 1) := by decide +kernel
theorem dX10_apart_36 : decode cX10_apart 36 = .ok (.ifCond .ge 17, 3) := by decide +kernel
theorem dX10_apart_39 : decode cX10_apart 39 = .ok (.aload_n 0, 1) := by decide +kernel
theorem dX10_apart_40 : decode cX10_apart 40 = .ok (.getfield 38, 3) := by decide +kernel
theorem dX10_apart_43 : decode cX10_apart 43 = .ok (.aload_n 0, 1) := by decide +kernel
theorem dX10_apart_44 : decode cX10_apart 44 = .ok (.getfield 130, 3) := by decide +kernel
theorem dX10_apart_47 : decode cX10_apart 47 = .ok (.iaload, 1) := by decide +kernel
theorem dX10_apart_48 : decode cX10_apart 48 = .ok (.iconst 1, 1) := by decide +kernel
theorem dX10_apart_49 : decode cX10_apart 49 = .ok (.iadd, 1) := by decide +kernel
theorem dX10_apart_50 : decode cX10_apart 50 = .ok (.goto 32, 3) := by decide +kernel
theorem dX10_apart_53 : decode cX10_apart 53 = .ok (.iload_n 1, 1) := by decide +kernel
theorem dX10_apart_54 : decode cX10_apart 54 = .ok (.aload_n 0, 1) := by decide +kernel
theorem dX10_apart_55 : decode cX10_apart 55 = .ok (.getfield 38, 3) := by decide +kernel
theorem dX10_apart_58 : decode cX10_apart 58 = .ok (.aload_n 0, 1) := by decide +kernel
theorem dX10_apart_59 : decode cX10_apart 59 = .ok (.getfield 130, 3) := by decide +kernel
theorem dX10_apart_62 : decode cX10_apart 62 = .ok (.iaload, 1) := by decide +kernel
theorem dX10_apart_63 : decode cX10_apart 63 = .ok (.if_icmp .ne 10, 3) := by decide +kernel
theorem dX10_apart_66 : decode cX10_apart 66 = .ok (.aload_n 0, 1) := by decide +kernel
theorem dX10_apart_67 : decode cX10_apart 67 = .ok (.getfield 133, 3) := by decide +kernel
theorem dX10_apart_70 : decode cX10_apart 70 = .ok (.goto 12, 3) := by decide +kernel
theorem dX10_apart_73 : decode cX10_apart 73 = .ok (.aload_n 0, 1) := by decide +kernel
theorem dX10_apart_74 : decode cX10_apart 74 = .ok (.aload_n 0, 1) := by decide +kernel
theorem dX10_apart_75 : decode cX10_apart 75 = .ok (.getfield 130, 3) := by decide +kernel
theorem dX10_apart_78 : decode cX10_apart 78 = .ok (.iload_n 1, 1) := by decide +kernel
theorem dX10_apart_79 : decode cX10_apart 79 = .ok (.invokevirtual 142, 3) := by decide +kernel
theorem dX10_apart_82 : decode cX10_apart 82 = .ok (.ireturn, 1) := by decide +kernel
theorem dX10_isLate_0 : decode cX10_isLate 0 = .ok (.iconst 0, 1) := by decide +kernel
theorem dX10_isLate_1 : decode cX10_isLate 1 = .ok (.istore_n 2, 1) := by decide +kernel
theorem dX10_isLate_2 : decode cX10_isLate 2 = .ok (.iload_n 2, 1) := by decide +kernel
theorem dX10_isLate_3 : decode cX10_isLate 3 = .ok (.sipush 20480, 3) := by decide +kernel
theorem dX10_isLate_6 : decode cX10_isLate 6 = .ok (.if_icmp .ge 16, 3) := by decide +kernel
theorem dX10_isLate_9 : decode cX10_isLate 9 = .ok (.aload_n 0, 1) := by decide +kernel
theorem dX10_isLate_10 : decode cX10_isLate 10 = .ok (.getfield 47, 3) := by decide +kernel
theorem dX10_isLate_13 : decode cX10_isLate 13 = .ok (.iload_n 2, 1) := by decide +kernel
theorem dX10_isLate_14 : decode cX10_isLate 14 = .ok (.iconst 0, 1) := by decide +kernel
theorem dX10_isLate_15 : decode cX10_isLate 15 = .ok (.iastore, 1) := by decide +kernel
theorem dX10_isLate_16 : decode cX10_isLate 16 = .ok (.iinc 2 1, 3) := by decide +kernel
theorem dX10_isLate_19 : decode cX10_isLate 19 = .ok (.goto (-17), 3) := by decide +kernel
theorem dX10_isLate_22 : decode cX10_isLate 22 = .ok (.iconst 1, 1) := by decide +kernel
theorem dX10_isLate_23 : decode cX10_isLate 23 = .ok (.iload_n 1, 1) := by decide +kernel
theorem dX10_isLate_24 : decode cX10_isLate 24 = .ok (.ishl, 1) := by decide +kernel
theorem dX10_isLate_25 : decode cX10_isLate 25 = .ok (.iconst 1, 1) := by decide +kernel
theorem dX10_isLate_26 : decode cX10_isLate 26 = .ok (.isub, 1) := by decide +kernel
theorem dX10_isLate_27 : decode cX10_isLate 27 = .ok (.istore_n 2, 1) := by decide +kernel
theorem dX10_isLate_28 : decode cX10_isLate 28 = .ok (.iconst 1, 1) := by decide +kernel
theorem dX10_isLate_29 : decode cX10_isLate 29 = .ok (.istore_n 3, 1) := by decide +kernel
theorem dX10_isLate_30 : decode cX10_isLate 30 = .ok (.aload_n 0, 1) := by decide +kernel
theorem dX10_isLate_31 : decode cX10_isLate 31 = .ok (.getfield 44, 3) := by decide +kernel
theorem dX10_isLate_34 : decode cX10_isLate 34 = .ok (.iconst 0, 1) := by decide +kernel
theorem dX10_isLate_35 : decode cX10_isLate 35 = .ok (.bipush 16, 2) := by decide +kernel
theorem dX10_isLate_37 : decode cX10_isLate 37 = .ok (.aload_n 0, 1) := by decide +kernel
theorem dX10_isLate_38 : decode cX10_isLate 38 = .ok (.iconst 0, 1) := by decide +kernel
theorem dX10_isLate_39 : decode cX10_isLate 39 = .ok (.invokevirtual 97, 3) := by decide +kernel
theorem dX10_isLate_42 : decode cX10_isLate 42 = .ok (.imul, 1) := by decide +kernel
theorem dX10_isLate_43 : decode cX10_isLate 43 = .ok (.aload_n 0, 1) := by decide +kernel
theorem dX10_isLate_44 : decode cX10_isLate 44 = .ok (.iconst 1, 1) := by decide +kernel
theorem dX10_isLate_45 : decode cX10_isLate 45 = .ok (.invokevirtual 97, 3) := by decide +kernel
theorem dX10_isLate_48 : decode cX10_isLate 48 = .ok (.iadd, 1) := by decide +kernel
theorem dX10_isLate_49 : decode cX10_isLate 49 = .ok (.iastore, 1) := by decide +kernel
theorem dX10_isLate_50 : decode cX10_isLate 50 = .ok (.aload_n 0, 1) := by decide +kernel
theorem dX10_isLate_51 : decode cX10_isLate 51 = .ok (.getfield 47, 3) := by decide +kernel
theorem dX10_isLate_54 : decode cX10_isLate 54 = .ok (.aload_n 0, 1) := by decide +kernel
theorem dX10_isLate_55 : decode cX10_isLate 55 = .ok (.getfield 44, 3) := by decide +kernel
theorem dX10_isLate_58 : decode cX10_isLate 58 = .ok (.iconst 0, 1) := by decide +kernel
theorem dX10_isLate_59 : decode cX10_isLate 59 = .ok (.iaload, 1) := by decide +kernel
theorem dX10_isLate_60 : decode cX10_isLate 60 = .ok (.iconst 1, 1) := by decide +kernel
theorem dX10_isLate_61 : decode cX10_isLate 61 = .ok (.iastore, 1) := by decide +kernel
theorem dX10_isLate_62 : decode cX10_isLate 62 = .ok (.iconst 0, 1) := by decide +kernel
theorem dX10_isLate_63 : decode cX10_isLate 63 = .ok (.istore 4, 2) := by decide +kernel
theorem dX10_isLate_65 : decode cX10_isLate 65 = .ok (.iload 4, 2) := by decide +kernel
theorem dX10_isLate_67 : decode cX10_isLate 67 = .ok (.iload_n 3, 1) := by decide +kernel
theorem dX10_isLate_68 : decode cX10_isLate 68 = .ok (.if_icmp .ge 218, 3) := by decide +kernel
theorem dX10_isLate_71 : decode cX10_isLate 71 = .ok (.aload_n 0, 1) := by decide +kernel
theorem dX10_isLate_72 : decode cX10_isLate 72 = .ok (.getfield 44, 3) := by decide +kernel
theorem dX10_isLate_75 : decode cX10_isLate 75 = .ok (.iload 4, 2) := by decide +kernel
theorem dX10_isLate_77 : decode cX10_isLate 77 = .ok (.iaload, 1) := by decide +kernel
theorem dX10_isLate_78 : decode cX10_isLate 78 = .ok (.sipush 4096, 3) := by decide +kernel
theorem dX10_isLate_81 : decode cX10_isLate 81 = .ok (.idiv, 1) := by decide +kernel
theorem dX10_isLate_82 : decode cX10_isLate 82 = .ok (.istore 5, 2) := by decide +kernel
theorem dX10_isLate_84 : decode cX10_isLate 84 = .ok (.aload_n 0, 1) := by decide +kernel
theorem dX10_isLate_85 : decode cX10_isLate 85 = .ok (.getfield 44, 3) := by decide +kernel
theorem dX10_isLate_88 : decode cX10_isLate 88 = .ok (.iload 4, 2) := by decide +kernel
theorem dX10_isLate_90 : decode cX10_isLate 90 = .ok (.iaload, 1) := by decide +kernel
theorem dX10_isLate_91 : decode cX10_isLate 91 = .ok (.sipush 256, 3) := by decide +kernel
theorem dX10_isLate_94 : decode cX10_isLate 94 = .ok (.idiv, 1) := by decide +kernel
theorem dX10_isLate_95 : decode cX10_isLate 95 = .ok (.bipush 16, 2) := by decide +kernel
theorem dX10_isLate_97 : decode cX10_isLate 97 = .ok (.irem, 1) := by decide +kernel
theorem dX10_isLate_98 : decode cX10_isLate 98 = .ok (.istore 6, 2) := by decide +kernel
theorem dX10_isLate_100 : decode cX10_isLate 100 = .ok (.aload_n 0, 1) := by decide +kernel
theorem dX10_isLate_101 : decode cX10_isLate 101 = .ok (.getfield 44, 3) := by decide +kernel
theorem dX10_isLate_104 : decode cX10_isLate 104 = .ok (.iload 4, 2) := by decide +kernel
theorem dX10_isLate_106 : decode cX10_isLate 106 = .ok (.iaload, 1) := by decide +kernel
theorem dX10_isLate_107 : decode cX10_isLate 107 = .ok (.bipush 16, 2) := by decide +kernel
theorem dX10_isLate_109 : decode cX10_isLate 109 = .ok (.idiv, 1) := by decide +kernel
theorem dX10_isLate_110 : decode cX10_isLate 110 = .ok (.bipush 16, 2) := by decide +kernel
theorem dX10_isLate_112 : decode cX10_isLate 112 = .ok (.irem, 1) := by decide +kernel
theorem dX10_isLate_113 : decode cX10_isLate 113 = .ok (.istore 7, 2) := by decide +kernel
theorem dX10_isLate_115 : decode cX10_isLate 115 = .ok (.aload_n 0, 1) := by decide +kernel
theorem dX10_isLate_116 : decode cX10_isLate 116 = .ok (.getfield 44, 3) := by decide +kernel
theorem dX10_isLate_119 : decode cX10_isLate 119 = .ok (.iload 4, 2) := by decide +kernel
theorem dX10_isLate_121 : decode cX10_isLate 121 = .ok (.iaload, 1) := by decide +kernel
theorem dX10_isLate_122 : decode cX10_isLate 122 = .ok (.bipush 16, 2) := by decide +kernel
theorem dX10_isLate_124 : decode cX10_isLate 124 = .ok (.irem, 1) := by decide +kernel
theorem dX10_isLate_125 : decode cX10_isLate 125 = .ok (.istore 8, 2) := by decide +kernel
theorem dX10_isLate_127 : decode cX10_isLate 127 = .ok (.iconst 0, 1) := by decide +kernel
theorem dX10_isLate_128 : decode cX10_isLate 128 = .ok (.istore 9, 2) := by decide +kernel
theorem dX10_isLate_130 : decode cX10_isLate 130 = .ok (.iload 9, 2) := by decide +kernel
theorem dX10_isLate_132 : decode cX10_isLate 132 = .ok (.iconst 4, 1) := by decide +kernel
theorem dX10_isLate_133 : decode cX10_isLate 133 = .ok (.if_icmp .ge 147, 3) := by decide +kernel
theorem dX10_isLate_136 : decode cX10_isLate 136 = .ok (.aload_n 0, 1) := by decide +kernel
theorem dX10_isLate_137 : decode cX10_isLate 137 = .ok (.iconst 0, 1) := by decide +kernel
theorem dX10_isLate_138 : decode cX10_isLate 138 = .ok (.iload 7, 2) := by decide +kernel
theorem dX10_isLate_140 : decode cX10_isLate 140 = .ok (.iload 9, 2) := by decide +kernel
theorem dX10_isLate_142 : decode cX10_isLate 142 = .ok (.invokevirtual 100, 3) := by decide +kernel
theorem dX10_isLate_145 : decode cX10_isLate 145 = .ok (.istore 10, 2) := by decide +kernel
theorem dX10_isLate_147 : decode cX10_isLate 147 = .ok (.iload_n 1, 1) := by decide +kernel
theorem dX10_isLate_148 : decode cX10_isLate 148 = .ok (.ifCond .ne 8, 3) := by decide +kernel
theorem dX10_isLate_151 : decode cX10_isLate 151 = .ok (.iload 10, 2) := by decide +kernel
theorem dX10_isLate_153 : decode cX10_isLate 153 = .ok (.goto 11, 3) := by decide +kernel
theorem dX10_isLate_156 : decode cX10_isLate 156 = .ok (.iload 6, 2) := by decide +kernel
theorem dX10_isLate_158 : decode cX10_isLate 158 = .ok (.iload_n 1, 1) := by decide +kernel
theorem dX10_isLate_159 : decode cX10_isLate 159 = .ok (.iconst 1, 1) := by decide +kernel
theorem dX10_isLate_160 : decode cX10_isLate 160 = .ok (.isub, 1) := by decide +kernel
theorem dX10_isLate_161 : decode cX10_isLate 161 = .ok (.ishr, 1) := by decide +kernel
theorem dX10_isLate_162 : decode cX10_isLate 162 = .ok (.iconst 1, 1) := by decide +kernel
theorem dX10_isLate_163 : decode cX10_isLate 163 = .ok (.iand, 1) := by decide +kernel
theorem dX10_isLate_164 : decode cX10_isLate 164 = .ok (.istore 11, 2) := by decide +kernel
theorem dX10_isLate_166 : decode cX10_isLate 166 = .ok (.iload 5, 2) := by decide +kernel
theorem dX10_isLate_168 : decode cX10_isLate 168 = .ok (.iload_n 1, 1) := by decide +kernel
theorem dX10_isLate_169 : decode cX10_isLate 169 = .ok (.if_icmp .ne 19, 3) := by decide +kernel
theorem dX10_isLate_172 : decode cX10_isLate 172 = .ok (.aload_n 0, 1) := by decide +kernel
theorem dX10_isLate_173 : decode cX10_isLate 173 = .ok (.iconst 1, 1) := by decide +kernel
theorem dX10_isLate_174 : decode cX10_isLate 174 = .ok (.iload 8, 2) := by decide +kernel
theorem dX10_isLate_176 : decode cX10_isLate 176 = .ok (.iload 9, 2) := by decide +kernel
theorem dX10_isLate_178 : decode cX10_isLate 178 = .ok (.invokevirtual 100, 3) := by decide +kernel
theorem dX10_isLate_181 : decode cX10_isLate 181 = .ok (.iload 11, 2) := by decide +kernel
theorem dX10_isLate_183 : decode cX10_isLate 183 = .ok (.if_icmp .eq 5, 3) := by decide +kernel
theorem dX10_isLate_186 : decode cX10_isLate 186 = .ok (.iconst 0, 1) := by decide +kernel
theorem dX10_isLate_187 : decode cX10_isLate 187 = .ok (.ireturn, 1) := by decide +kernel
theorem dX10_isLate_188 : decode cX10_isLate 188 = .ok (.sipush 4096, 3) := by decide +kernel
theorem dX10_isLate_191 : decode cX10_isLate 191 = .ok (.iload 5, 2) := by decide +kernel
theorem dX10_isLate_193 : decode cX10_isLate 193 = .ok (.iload_n 1, 1) := by decide +kernel
theorem dX10_isLate_194 : decode cX10_isLate 194 = .ok (.if_icmp .ge 10, 3) := by decide +kernel
theorem dX10_isLate_197 : decode cX10_isLate 197 = .ok (.iload 5, 2) := by decide +kernel
theorem dX10_isLate_199 : decode cX10_isLate 199 = .ok (.iconst 1, 1) := by decide +kernel
theorem dX10_isLate_200 : decode cX10_isLate 200 = .ok (.iadd, 1) := by decide +kernel
theorem dX10_isLate_201 : decode cX10_isLate 201 = .ok (.goto 4, 3) := by decide +kernel
theorem dX10_isLate_204 : decode cX10_isLate 204 = .ok (.iload_n 1, 1) := by decide +kernel
theorem dX10_isLate_205 : decode cX10_isLate 205 = .ok (.imul, 1) := by decide +kernel
theorem dX10_isLate_206 : decode cX10_isLate 206 = .ok (.sipush 256, 3) := by decide +kernel
theorem dX10_isLate_209 : decode cX10_isLate 209 = .ok (.iconst 2, 1) := by decide +kernel
theorem dX10_isLate_210 : decode cX10_isLate 210 = .ok (.iload 6, 2) := by decide +kernel
theorem dX10_isLate_212 : decode cX10_isLate 212 = .ok (.imul, 1) := by decide +kernel
theorem dX10_isLate_213 : decode cX10_isLate 213 = .ok (.iload 10, 2) := by decide +kernel
theorem dX10_isLate_215 : decode cX10_isLate 215 = .ok (.iadd, 1) := by decide +kernel
theorem dX10_isLate_216 : decode cX10_isLate 216 = .ok (.iload_n 2, 1) := by decide +kernel
theorem dX10_isLate_217 : decode cX10_isLate 217 = .ok (.iand, 1) := by decide +kernel
theorem dX10_isLate_218 : decode cX10_isLate 218 = .ok (.imul, 1) := by decide +kernel
theorem dX10_isLate_219 : decode cX10_isLate 219 = .ok (.iadd, 1) := by decide +kernel
theorem dX10_isLate_220 : decode cX10_isLate 220 = .ok (.bipush 16, 2) := by decide +kernel
theorem dX10_isLate_222 : decode cX10_isLate 222 = .ok (.aload_n 0, 1) := by decide +kernel
theorem dX10_isLate_223 : decode cX10_isLate 223 = .ok (.iconst 0, 1) := by decide +kernel
theorem dX10_isLate_224 : decode cX10_isLate 224 = .ok (.iload 7, 2) := by decide +kernel
theorem dX10_isLate_226 : decode cX10_isLate 226 = .ok (.iload 9, 2) := by decide +kernel
theorem dX10_isLate_228 : decode cX10_isLate 228 = .ok (.invokevirtual 94, 3) := by decide +kernel
theorem dX10_isLate_231 : decode cX10_isLate 231 = .ok (.imul, 1) := by decide +kernel
theorem dX10_isLate_232 : decode cX10_isLate 232 = .ok (.iadd, 1) := by decide +kernel
theorem dX10_isLate_233 : decode cX10_isLate 233 = .ok (.aload_n 0, 1) := by decide +kernel
theorem dX10_isLate_234 : decode cX10_isLate 234 = .ok (.iconst 1, 1) := by decide +kernel
theorem dX10_isLate_235 : decode cX10_isLate 235 = .ok (.iload 8, 2) := by decide +kernel
theorem dX10_isLate_237 : decode cX10_isLate 237 = .ok (.iload 9, 2) := by decide +kernel
theorem dX10_isLate_239 : decode cX10_isLate 239 = .ok (.invokevirtual 94, 3) := by decide +kernel
theorem dX10_isLate_242 : decode cX10_isLate 242 = .ok (.iadd, 1) := by decide +kernel
theorem dX10_isLate_243 : decode cX10_isLate 243 = .ok (.istore 12, 2) := by decide +kernel
theorem dX10_isLate_245 : decode cX10_isLate 245 = .ok (.aload_n 0, 1) := by decide +kernel
theorem dX10_isLate_246 : decode cX10_isLate 246 = .ok (.getfield 47, 3) := by decide +kernel
theorem dX10_isLate_249 : decode cX10_isLate 249 = .ok (.iload 12, 2) := by decide +kernel
theorem dX10_isLate_251 : decode cX10_isLate 251 = .ok (.iaload, 1) := by decide +kernel
theorem dX10_isLate_252 : decode cX10_isLate 252 = .ok (.ifCond .ne 22, 3) := by decide +kernel
theorem dX10_isLate_255 : decode cX10_isLate 255 = .ok (.aload_n 0, 1) := by decide +kernel
theorem dX10_isLate_256 : decode cX10_isLate 256 = .ok (.getfield 47, 3) := by decide +kernel
theorem dX10_isLate_259 : decode cX10_isLate 259 = .ok (.iload 12, 2) := by decide +kernel
theorem dX10_isLate_261 : decode cX10_isLate 261 = .ok (.iconst 1, 1) := by decide +kernel
theorem dX10_isLate_262 : decode cX10_isLate 262 = .ok (.iastore, 1) := by decide +kernel
theorem dX10_isLate_263 : decode cX10_isLate 263 = .ok (.aload_n 0, 1) := by decide +kernel
theorem dX10_isLate_264 : decode cX10_isLate 264 = .ok (.getfield 44, 3) := by decide +kernel
theorem dX10_isLate_267 : decode cX10_isLate 267 = .ok (.iload_n 3, 1) := by decide +kernel
theorem dX10_isLate_268 : decode cX10_isLate 268 = .ok (.iload 12, 2) := by decide +kernel
theorem dX10_isLate_270 : decode cX10_isLate 270 = .ok (.iastore, 1) := by decide +kernel
theorem dX10_isLate_271 : decode cX10_isLate 271 = .ok (.iinc 3 1, 3) := by decide +kernel
theorem dX10_isLate_274 : decode cX10_isLate 274 = .ok (.iinc 9 1, 3) := by decide +kernel
theorem dX10_isLate_277 : decode cX10_isLate 277 = .ok (.goto (-147), 3) := by decide +kernel
theorem dX10_isLate_280 : decode cX10_isLate 280 = .ok (.iinc 4 1, 3) := by decide +kernel
theorem dX10_isLate_283 : decode cX10_isLate 283 = .ok (.goto (-218), 3) := by decide +kernel
theorem dX10_isLate_286 : decode cX10_isLate 286 = .ok (.iconst 1, 1) := by decide +kernel
theorem dX10_isLate_287 : decode cX10_isLate 287 = .ok (.ireturn, 1) := by decide +kernel
theorem dX10_late_0 : decode cX10_late 0 = .ok (.iconst 0, 1) := by decide +kernel
theorem dX10_late_1 : decode cX10_late 1 = .ok (.istore_n 1, 1) := by decide +kernel
theorem dX10_late_2 : decode cX10_late 2 = .ok (.iload_n 1, 1) := by decide +kernel
theorem dX10_late_3 : decode cX10_late 3 = .ok (.iconst 5, 1) := by decide +kernel
theorem dX10_late_4 : decode cX10_late 4 = .ok (.if_icmp .ge 19, 3) := by decide +kernel
theorem dX10_late_7 : decode cX10_late 7 = .ok (.aload_n 0, 1) := by decide +kernel
theorem dX10_late_8 : decode cX10_late 8 = .ok (.iload_n 1, 1) := by decide +kernel
theorem dX10_late_9 : decode cX10_late 9 = .ok (.invokevirtual 145, 3) := by decide +kernel
theorem dX10_late_12 : decode cX10_late 12 = .ok (.ifCond .eq 5, 3) := by decide +kernel
theorem dX10_late_15 : decode cX10_late 15 = .ok (.iload_n 1, 1) := by decide +kernel
theorem dX10_late_16 : decode cX10_late 16 = .ok (.ireturn, 1) := by decide +kernel
theorem dX10_late_17 : decode cX10_late 17 = .ok (.iinc 1 1, 3) := by decide +kernel
theorem dX10_late_20 : decode cX10_late 20 = .ok (.goto (-18), 3) := by decide +kernel
theorem dX10_late_23 : decode cX10_late 23 = .ok (.ldc 126, 2) := by decide +kernel
theorem dX10_late_25 : decode cX10_late 25 = .ok (.ireturn, 1) := by decide +kernel
theorem dX10_same_0 : decode cX10_same 0 = .ok (.iload_n 1, 1) := by decide +kernel
theorem dX10_same_1 : decode cX10_same 1 = .ok (.iconst 0, 1) := by decide +kernel
theorem dX10_same_2 : decode cX10_same 2 = .ok (.iconst 3, 1) := by decide +kernel
theorem dX10_same_3 : decode cX10_same 3 = .ok (.invokestatic 65, 3) := by decide +kernel
theorem dX10_same_6 : decode cX10_same 6 = .ok (.ifCond .ne 6, 3) := by decide +kernel
theorem dX10_same_9 : decode cX10_same 9 = .ok (.ldc 60, 2) := by decide +kernel
theorem dX10_same_11 : decode cX10_same 11 = .ok (.ireturn, 1) := by decide +kernel
theorem dX10_same_12 : decode cX10_same 12 = .ok (.aload_n 0, 1) := by decide +kernel
theorem dX10_same_13 : decode cX10_same 13 = .ok (.invokevirtual 136, 3) := by decide +kernel
theorem dX10_same_16 : decode cX10_same 16 = .ok (.bipush 15, 2) := by decide +kernel
theorem dX10_same_18 : decode cX10_same 18 = .ok (.istore_n 2, 1) := by decide +kernel
theorem dX10_same_19 : decode cX10_same 19 = .ok (.iconst 0, 1) := by decide +kernel
theorem dX10_same_20 : decode cX10_same 20 = .ok (.istore_n 3, 1) := by decide +kernel
theorem dX10_same_21 : decode cX10_same 21 = .ok (.iload_n 3, 1) := by decide +kernel
theorem dX10_same_22 : decode cX10_same 22 = .ok (.aload_n 0, 1) := by decide +kernel
theorem dX10_same_23 : decode cX10_same 23 = .ok (.getfield 127, 3) := by decide +kernel
theorem dX10_same_26 : decode cX10_same 26 = .ok (.if_icmp .ge 57, 3) := by decide +kernel
theorem dX10_same_29 : decode cX10_same 29 = .ok (.aload_n 0, 1) := by decide +kernel
theorem dX10_same_30 : decode cX10_same 30 = .ok (.getfield 29, 3) := by decide +kernel
theorem dX10_same_33 : decode cX10_same 33 = .ok (.iload_n 3, 1) := by decide +kernel
theorem dX10_same_34 : decode cX10_same 34 = .ok (.iaload, 1) := by decide +kernel
theorem dX10_same_35 : decode cX10_same 35 = .ok (.bipush 16, 2) := by decide +kernel
theorem dX10_same_37 : decode cX10_same 37 = .ok (.idiv, 1) := by decide +kernel
theorem dX10_same_38 : decode cX10_same 38 = .ok (.iload_n 1, 1) := by decide +kernel
theorem dX10_same_39 : decode cX10_same 39 = .ok (.ishr, 1) := by decide +kernel
theorem dX10_same_40 : decode cX10_same 40 = .ok (.iconst 1, 1) := by decide +kernel
theorem dX10_same_41 : decode cX10_same 41 = .ok (.iand, 1) := by decide +kernel
theorem dX10_same_42 : decode cX10_same 42 = .ok (.istore 4, 2) := by decide +kernel
theorem dX10_same_44 : decode cX10_same 44 = .ok (.iload_n 2, 1) := by decide +kernel
theorem dX10_same_45 : decode cX10_same 45 = .ok (.iload 4, 2) := by decide +kernel
theorem dX10_same_47 : decode cX10_same 47 = .ok (.iconst 1, 1) := by decide +kernel
theorem dX10_same_48 : decode cX10_same 48 = .ok (.if_icmp .ne 15, 3) := by decide +kernel
theorem dX10_same_51 : decode cX10_same 51 = .ok (.aload_n 0, 1) := by decide +kernel
theorem dX10_same_52 : decode cX10_same 52 = .ok (.getfield 29, 3) := by decide +kernel
theorem dX10_same_55 : decode cX10_same 55 = .ok (.iload_n 3, 1) := by decide +kernel
theorem dX10_same_56 : decode cX10_same 56 = .ok (.iaload, 1) := by decide +kernel
theorem dX10_same_57 : decode cX10_same 57 = .ok (.bipush 16, 2) := by decide +kernel
theorem dX10_same_59 : decode cX10_same 59 = .ok (.irem, 1) := by decide +kernel
theorem dX10_same_60 : decode cX10_same 60 = .ok (.goto 15, 3) := by decide +kernel
theorem dX10_same_63 : decode cX10_same 63 = .ok (.bipush 15, 2) := by decide +kernel
theorem dX10_same_65 : decode cX10_same 65 = .ok (.aload_n 0, 1) := by decide +kernel
theorem dX10_same_66 : decode cX10_same 66 = .ok (.getfield 29, 3) := by decide +kernel
theorem dX10_same_69 : decode cX10_same 69 = .ok (.iload_n 3, 1) := by decide +kernel
theorem dX10_same_70 : decode cX10_same 70 = .ok (.iaload, 1) := by decide +kernel
theorem dX10_same_71 : decode cX10_same 71 = .ok (.bipush 16, 2) := by decide +kernel
theorem dX10_same_73 : decode cX10_same 73 = .ok (.irem, 1) := by decide +kernel
theorem dX10_same_74 : decode cX10_same 74 = .ok (.isub, 1) := by decide +kernel
theorem dX10_same_75 : decode cX10_same 75 = .ok (.iand, 1) := by decide +kernel
theorem dX10_same_76 : decode cX10_same 76 = .ok (.istore_n 2, 1) := by decide +kernel
theorem dX10_same_77 : decode cX10_same 77 = .ok (.iinc 3 1, 3) := by decide +kernel
theorem dX10_same_80 : decode cX10_same 80 = .ok (.goto (-59), 3) := by decide +kernel
theorem dX10_same_83 : decode cX10_same 83 = .ok (.iload_n 2, 1) := by decide +kernel
theorem dX10_same_84 : decode cX10_same 84 = .ok (.ireturn, 1) := by decide +kernel
theorem dX10_kinds_0 : decode cX10_kinds 0 = .ok (.iload_n 1, 1) := by decide +kernel
theorem dX10_kinds_1 : decode cX10_kinds 1 = .ok (.iconst 0, 1) := by decide +kernel
theorem dX10_kinds_2 : decode cX10_kinds 2 = .ok (.bipush 7, 2) := by decide +kernel
theorem dX10_kinds_4 : decode cX10_kinds 4 = .ok (.invokestatic 65, 3) := by decide +kernel
theorem dX10_kinds_7 : decode cX10_kinds 7 = .ok (.ifCond .ne 6, 3) := by decide +kernel
theorem dX10_kinds_10 : decode cX10_kinds 10 = .ok (.ldc 60, 2) := by decide +kernel
theorem dX10_kinds_12 : decode cX10_kinds 12 = .ok (.ireturn, 1) := by decide +kernel
theorem dX10_kinds_13 : decode cX10_kinds 13 = .ok (.iload_n 1, 1) := by decide +kernel
theorem dX10_kinds_14 : decode cX10_kinds 14 = .ok (.aload_n 0, 1) := by decide +kernel
theorem dX10_kinds_15 : decode cX10_kinds 15 = .ok (.getfield 7, 3) := by decide +kernel
theorem dX10_kinds_18 : decode cX10_kinds 18 = .ok (.iconst 0, 1) := by decide +kernel
theorem dX10_kinds_19 : decode cX10_kinds 19 = .ok (.iaload, 1) := by decide +kernel
theorem dX10_kinds_20 : decode cX10_kinds 20 = .ok (.if_icmp .lt 6, 3) := by decide +kernel
theorem dX10_kinds_23 : decode cX10_kinds 23 = .ok (.ldc 126, 2) := by decide +kernel
theorem dX10_kinds_25 : decode cX10_kinds 25 = .ok (.ireturn, 1) := by decide +kernel
theorem dX10_kinds_26 : decode cX10_kinds 26 = .ok (.aload_n 0, 1) := by decide +kernel
theorem dX10_kinds_27 : decode cX10_kinds 27 = .ok (.getfield 7, 3) := by decide +kernel
theorem dX10_kinds_30 : decode cX10_kinds 30 = .ok (.bipush 10, 2) := by decide +kernel
theorem dX10_kinds_32 : decode cX10_kinds 32 = .ok (.iconst 3, 1) := by decide +kernel
theorem dX10_kinds_33 : decode cX10_kinds 33 = .ok (.iload_n 1, 1) := by decide +kernel
theorem dX10_kinds_34 : decode cX10_kinds 34 = .ok (.imul, 1) := by decide +kernel
theorem dX10_kinds_35 : decode cX10_kinds 35 = .ok (.iadd, 1) := by decide +kernel
theorem dX10_kinds_36 : decode cX10_kinds 36 = .ok (.iaload, 1) := by decide +kernel
theorem dX10_kinds_37 : decode cX10_kinds 37 = .ok (.istore_n 2, 1) := by decide +kernel
theorem dX10_kinds_38 : decode cX10_kinds 38 = .ok (.iconst 0, 1) := by decide +kernel
theorem dX10_kinds_39 : decode cX10_kinds 39 = .ok (.istore_n 3, 1) := by decide +kernel
theorem dX10_kinds_40 : decode cX10_kinds 40 = .ok (.iconst 0, 1) := by decide +kernel
theorem dX10_kinds_41 : decode cX10_kinds 41 = .ok (.istore 4, 2) := by decide +kernel
theorem dX10_kinds_43 : decode cX10_kinds 43 = .ok (.iload 4, 2) := by decide +kernel
theorem dX10_kinds_45 : decode cX10_kinds 45 = .ok (.bipush 6, 2) := by decide +kernel
theorem dX10_kinds_47 : decode cX10_kinds 47 = .ok (.if_icmp .ge 44, 3) := by decide +kernel
theorem dX10_kinds_50 : decode cX10_kinds 50 = .ok (.aload_n 0, 1) := by decide +kernel
theorem dX10_kinds_51 : decode cX10_kinds 51 = .ok (.getfield 7, 3) := by decide +kernel
theorem dX10_kinds_54 : decode cX10_kinds 54 = .ok (.bipush 10, 2) := by decide +kernel
theorem dX10_kinds_56 : decode cX10_kinds 56 = .ok (.iconst 3, 1) := by decide +kernel
theorem dX10_kinds_57 : decode cX10_kinds 57 = .ok (.iload_n 1, 1) := by decide +kernel
theorem dX10_kinds_58 : decode cX10_kinds 58 = .ok (.imul, 1) := by decide +kernel
theorem dX10_kinds_59 : decode cX10_kinds 59 = .ok (.iadd, 1) := by decide +kernel
theorem dX10_kinds_60 : decode cX10_kinds 60 = .ok (.iload 4, 2) := by decide +kernel
theorem dX10_kinds_62 : decode cX10_kinds 62 = .ok (.iastore, 1) := by decide +kernel
theorem dX10_kinds_63 : decode cX10_kinds 63 = .ok (.aload_n 0, 1) := by decide +kernel
theorem dX10_kinds_64 : decode cX10_kinds 64 = .ok (.invokevirtual 136, 3) := by decide +kernel
theorem dX10_kinds_67 : decode cX10_kinds 67 = .ok (.iload_n 3, 1) := by decide +kernel
theorem dX10_kinds_68 : decode cX10_kinds 68 = .ok (.aload_n 0, 1) := by decide +kernel
theorem dX10_kinds_69 : decode cX10_kinds 69 = .ok (.getfield 130, 3) := by decide +kernel
theorem dX10_kinds_72 : decode cX10_kinds 72 = .ok (.ifCond .ge 10, 3) := by decide +kernel
theorem dX10_kinds_75 : decode cX10_kinds 75 = .ok (.iconst 1, 1) := by decide +kernel
theorem dX10_kinds_76 : decode cX10_kinds 76 = .ok (.iload 4, 2) := by decide +kernel
theorem dX10_kinds_78 : decode cX10_kinds 78 = .ok (.ishl, 1) := by decide +kernel
theorem dX10_kinds_79 : decode cX10_kinds 79 = .ok (.goto 4, 3) := by decide +kernel
theorem dX10_kinds_82 : decode cX10_kinds 82 = .ok (.iconst 0, 1) := by decide +kernel
theorem dX10_kinds_83 : decode cX10_kinds 83 = .ok (.ior, 1) := by decide +kernel
theorem dX10_kinds_84 : decode cX10_kinds 84 = .ok (.istore_n 3, 1) := by decide +kernel
theorem dX10_kinds_85 : decode cX10_kinds 85 = .ok (.iinc 4 1, 3) := by decide +kernel
theorem dX10_kinds_88 : decode cX10_kinds 88 = .ok (.goto (-45), 3) := by decide +kernel
theorem dX10_kinds_91 : decode cX10_kinds 91 = .ok (.aload_n 0, 1) := by decide +kernel
theorem dX10_kinds_92 : decode cX10_kinds 92 = .ok (.getfield 7, 3) := by decide +kernel
theorem dX10_kinds_95 : decode cX10_kinds 95 = .ok (.bipush 10, 2) := by decide +kernel
theorem dX10_kinds_97 : decode cX10_kinds 97 = .ok (.iconst 3, 1) := by decide +kernel
theorem dX10_kinds_98 : decode cX10_kinds 98 = .ok (.iload_n 1, 1) := by decide +kernel
theorem dX10_kinds_99 : decode cX10_kinds 99 = .ok (.imul, 1) := by decide +kernel
theorem dX10_kinds_100 : decode cX10_kinds 100 = .ok (.iadd, 1) := by decide +kernel
theorem dX10_kinds_101 : decode cX10_kinds 101 = .ok (.iload_n 2, 1) := by decide +kernel
theorem dX10_kinds_102 : decode cX10_kinds 102 = .ok (.iastore, 1) := by decide +kernel
theorem dX10_kinds_103 : decode cX10_kinds 103 = .ok (.iload_n 3, 1) := by decide +kernel
theorem dX10_kinds_104 : decode cX10_kinds 104 = .ok (.ireturn, 1) := by decide +kernel
theorem dX10_count_0 : decode cX10_count 0 = .ok (.aload_n 0, 1) := by decide +kernel
theorem dX10_count_1 : decode cX10_count 1 = .ok (.invokevirtual 136, 3) := by decide +kernel
theorem dX10_count_4 : decode cX10_count 4 = .ok (.iload_n 1, 1) := by decide +kernel
theorem dX10_count_5 : decode cX10_count 5 = .ok (.tableswitch 68 0 3 #[31, 45, 58, 63], 31) := by decide +kernel
theorem dX10_count_36 : decode cX10_count 36 = .ok (.aload_n 0, 1) := by decide +kernel
theorem dX10_count_37 : decode cX10_count 37 = .ok (.iconst 0, 1) := by decide +kernel
theorem dX10_count_38 : decode cX10_count 38 = .ok (.iconst 0, 1) := by decide +kernel
theorem dX10_count_39 : decode cX10_count 39 = .ok (.invokevirtual 69, 3) := by decide +kernel
theorem dX10_count_42 : decode cX10_count 42 = .ok (.aload_n 0, 1) := by decide +kernel
theorem dX10_count_43 : decode cX10_count 43 = .ok (.iconst 1, 1) := by decide +kernel
theorem dX10_count_44 : decode cX10_count 44 = .ok (.iconst 0, 1) := by decide +kernel
theorem dX10_count_45 : decode cX10_count 45 = .ok (.invokevirtual 69, 3) := by decide +kernel
theorem dX10_count_48 : decode cX10_count 48 = .ok (.iadd, 1) := by decide +kernel
theorem dX10_count_49 : decode cX10_count 49 = .ok (.ireturn, 1) := by decide +kernel
theorem dX10_count_50 : decode cX10_count 50 = .ok (.aload_n 0, 1) := by decide +kernel
theorem dX10_count_51 : decode cX10_count 51 = .ok (.getfield 130, 3) := by decide +kernel
theorem dX10_count_54 : decode cX10_count 54 = .ok (.ifCond .ge 7, 3) := by decide +kernel
theorem dX10_count_57 : decode cX10_count 57 = .ok (.iconst 1, 1) := by decide +kernel
theorem dX10_count_58 : decode cX10_count 58 = .ok (.goto 4, 3) := by decide +kernel
theorem dX10_count_61 : decode cX10_count 61 = .ok (.iconst 0, 1) := by decide +kernel
theorem dX10_count_62 : decode cX10_count 62 = .ok (.ireturn, 1) := by decide +kernel
theorem dX10_count_63 : decode cX10_count 63 = .ok (.aload_n 0, 1) := by decide +kernel
theorem dX10_count_64 : decode cX10_count 64 = .ok (.getfield 61, 3) := by decide +kernel
theorem dX10_count_67 : decode cX10_count 67 = .ok (.ireturn, 1) := by decide +kernel
theorem dX10_count_68 : decode cX10_count 68 = .ok (.aload_n 0, 1) := by decide +kernel
theorem dX10_count_69 : decode cX10_count 69 = .ok (.getfield 149, 3) := by decide +kernel
theorem dX10_count_72 : decode cX10_count 72 = .ok (.ireturn, 1) := by decide +kernel
theorem dX10_count_73 : decode cX10_count 73 = .ok (.ldc 60, 2) := by decide +kernel
theorem dX10_count_75 : decode cX10_count 75 = .ok (.ireturn, 1) := by decide +kernel
theorem dX10_undo_0 : decode cX10_undo 0 = .ok (.aload_n 0, 1) := by decide +kernel
theorem dX10_undo_1 : decode cX10_undo 1 = .ok (.getfield 61, 3) := by decide +kernel
theorem dX10_undo_4 : decode cX10_undo 4 = .ok (.ifCond .ne 6, 3) := by decide +kernel
theorem dX10_undo_7 : decode cX10_undo 7 = .ok (.ldc 85, 2) := by decide +kernel
theorem dX10_undo_9 : decode cX10_undo 9 = .ok (.ireturn, 1) := by decide +kernel
theorem dX10_undo_10 : decode cX10_undo 10 = .ok (.aload_n 0, 1) := by decide +kernel
theorem dX10_undo_11 : decode cX10_undo 11 = .ok (.dup, 1) := by decide +kernel
theorem dX10_undo_12 : decode cX10_undo 12 = .ok (.getfield 61, 3) := by decide +kernel
theorem dX10_undo_15 : decode cX10_undo 15 = .ok (.iconst 1, 1) := by decide +kernel
theorem dX10_undo_16 : decode cX10_undo 16 = .ok (.isub, 1) := by decide +kernel
theorem dX10_undo_17 : decode cX10_undo 17 = .ok (.putfield 61, 3) := by decide +kernel
theorem dX10_undo_20 : decode cX10_undo 20 = .ok (.iconst 0, 1) := by decide +kernel
theorem dX10_undo_21 : decode cX10_undo 21 = .ok (.istore_n 1, 1) := by decide +kernel
theorem dX10_undo_22 : decode cX10_undo 22 = .ok (.iload_n 1, 1) := by decide +kernel
theorem dX10_undo_23 : decode cX10_undo 23 = .ok (.bipush 68, 2) := by decide +kernel
theorem dX10_undo_25 : decode cX10_undo 25 = .ok (.if_icmp .ge 29, 3) := by decide +kernel
theorem dX10_undo_28 : decode cX10_undo 28 = .ok (.aload_n 0, 1) := by decide +kernel
theorem dX10_undo_29 : decode cX10_undo 29 = .ok (.getfield 7, 3) := by decide +kernel
theorem dX10_undo_32 : decode cX10_undo 32 = .ok (.iload_n 1, 1) := by decide +kernel
theorem dX10_undo_33 : decode cX10_undo 33 = .ok (.aload_n 0, 1) := by decide +kernel
theorem dX10_undo_34 : decode cX10_undo 34 = .ok (.getfield 13, 3) := by decide +kernel
theorem dX10_undo_37 : decode cX10_undo 37 = .ok (.bipush 68, 2) := by decide +kernel
theorem dX10_undo_39 : decode cX10_undo 39 = .ok (.aload_n 0, 1) := by decide +kernel
theorem dX10_undo_40 : decode cX10_undo 40 = .ok (.getfield 61, 3) := by decide +kernel
theorem dX10_undo_43 : decode cX10_undo 43 = .ok (.imul, 1) := by decide +kernel
theorem dX10_undo_44 : decode cX10_undo 44 = .ok (.iload_n 1, 1) := by decide +kernel
theorem dX10_undo_45 : decode cX10_undo 45 = .ok (.iadd, 1) := by decide +kernel
theorem dX10_undo_46 : decode cX10_undo 46 = .ok (.iaload, 1) := by decide +kernel
theorem dX10_undo_47 : decode cX10_undo 47 = .ok (.iastore, 1) := by decide +kernel
theorem dX10_undo_48 : decode cX10_undo 48 = .ok (.iinc 1 1, 3) := by decide +kernel
theorem dX10_undo_51 : decode cX10_undo 51 = .ok (.goto (-29), 3) := by decide +kernel
theorem dX10_undo_54 : decode cX10_undo 54 = .ok (.aload_n 0, 1) := by decide +kernel
theorem dX10_undo_55 : decode cX10_undo 55 = .ok (.getfield 61, 3) := by decide +kernel
theorem dX10_undo_58 : decode cX10_undo 58 = .ok (.ireturn, 1) := by decide +kernel
theorem dX10_type_0 : decode cX10_type 0 = .ok (.iload_n 1, 1) := by decide +kernel
theorem dX10_type_1 : decode cX10_type 1 = .ok (.bipush 32, 2) := by decide +kernel
theorem dX10_type_3 : decode cX10_type 3 = .ok (.bipush 126, 2) := by decide +kernel
theorem dX10_type_5 : decode cX10_type 5 = .ok (.invokestatic 65, 3) := by decide +kernel
theorem dX10_type_8 : decode cX10_type 8 = .ok (.ifCond .ne 6, 3) := by decide +kernel
theorem dX10_type_11 : decode cX10_type 11 = .ok (.ldc 60, 2) := by decide +kernel
theorem dX10_type_13 : decode cX10_type 13 = .ok (.ireturn, 1) := by decide +kernel
theorem dX10_type_14 : decode cX10_type 14 = .ok (.aload_n 0, 1) := by decide +kernel
theorem dX10_type_15 : decode cX10_type 15 = .ok (.getfield 149, 3) := by decide +kernel
theorem dX10_type_18 : decode cX10_type 18 = .ok (.bipush 80, 2) := by decide +kernel
theorem dX10_type_20 : decode cX10_type 20 = .ok (.if_icmp .ne 6, 3) := by decide +kernel
theorem dX10_type_23 : decode cX10_type 23 = .ok (.ldc 77, 2) := by decide +kernel
theorem dX10_type_25 : decode cX10_type 25 = .ok (.ireturn, 1) := by decide +kernel
theorem dX10_type_26 : decode cX10_type 26 = .ok (.aload_n 0, 1) := by decide +kernel
theorem dX10_type_27 : decode cX10_type 27 = .ok (.getfield 19, 3) := by decide +kernel
theorem dX10_type_30 : decode cX10_type 30 = .ok (.aload_n 0, 1) := by decide +kernel
theorem dX10_type_31 : decode cX10_type 31 = .ok (.getfield 149, 3) := by decide +kernel
theorem dX10_type_34 : decode cX10_type 34 = .ok (.iload_n 1, 1) := by decide +kernel
theorem dX10_type_35 : decode cX10_type 35 = .ok (.i2c, 1) := by decide +kernel
theorem dX10_type_36 : decode cX10_type 36 = .ok (.castore, 1) := by decide +kernel
theorem dX10_type_37 : decode cX10_type 37 = .ok (.aload_n 0, 1) := by decide +kernel
theorem dX10_type_38 : decode cX10_type 38 = .ok (.dup, 1) := by decide +kernel
theorem dX10_type_39 : decode cX10_type 39 = .ok (.getfield 149, 3) := by decide +kernel
theorem dX10_type_42 : decode cX10_type 42 = .ok (.iconst 1, 1) := by decide +kernel
theorem dX10_type_43 : decode cX10_type 43 = .ok (.iadd, 1) := by decide +kernel
theorem dX10_type_44 : decode cX10_type 44 = .ok (.putfield 149, 3) := by decide +kernel
theorem dX10_type_47 : decode cX10_type 47 = .ok (.aload_n 0, 1) := by decide +kernel
theorem dX10_type_48 : decode cX10_type 48 = .ok (.getfield 149, 3) := by decide +kernel
theorem dX10_type_51 : decode cX10_type 51 = .ok (.ireturn, 1) := by decide +kernel
theorem dX10_clearText_0 : decode cX10_clearText 0 = .ok (.aload_n 0, 1) := by decide +kernel
theorem dX10_clearText_1 : decode cX10_clearText 1 = .ok (.getfield 149, 3) := by decide +kernel
theorem dX10_clearText_4 : decode cX10_clearText 4 = .ok (.istore_n 1, 1) := by decide +kernel
theorem dX10_clearText_5 : decode cX10_clearText 5 = .ok (.aload_n 0, 1) := by decide +kernel
theorem dX10_clearText_6 : decode cX10_clearText 6 = .ok (.iconst 0, 1) := by decide +kernel
theorem dX10_clearText_7 : decode cX10_clearText 7 = .ok (.putfield 149, 3) := by decide +kernel
theorem dX10_clearText_10 : decode cX10_clearText 10 = .ok (.iload_n 1, 1) := by decide +kernel
theorem dX10_clearText_11 : decode cX10_clearText 11 = .ok (.ireturn, 1) := by decide +kernel
theorem dX10_sign_0 : decode cX10_sign 0 = .ok (.iload_n 1, 1) := by decide +kernel
theorem dX10_sign_1 : decode cX10_sign 1 = .ok (.aload_n 0, 1) := by decide +kernel
theorem dX10_sign_2 : decode cX10_sign 2 = .ok (.getfield 149, 3) := by decide +kernel
theorem dX10_sign_5 : decode cX10_sign 5 = .ok (.if_icmp .ge 12, 3) := by decide +kernel
theorem dX10_sign_8 : decode cX10_sign 8 = .ok (.aload_n 0, 1) := by decide +kernel
theorem dX10_sign_9 : decode cX10_sign 9 = .ok (.getfield 19, 3) := by decide +kernel
theorem dX10_sign_12 : decode cX10_sign 12 = .ok (.iload_n 1, 1) := by decide +kernel
theorem dX10_sign_13 : decode cX10_sign 13 = .ok (.caload, 1) := by decide +kernel
theorem dX10_sign_14 : decode cX10_sign 14 = .ok (.goto 4, 3) := by decide +kernel
theorem dX10_sign_17 : decode cX10_sign 17 = .ok (.iconst (-1), 1) := by decide +kernel
theorem dX10_sign_18 : decode cX10_sign 18 = .ok (.ireturn, 1) := by decide +kernel
theorem dX10_wireAt_0 : decode cX10_wireAt 0 = .ok (.aload_n 0, 1) := by decide +kernel
theorem dX10_wireAt_1 : decode cX10_wireAt 1 = .ok (.iload_n 1, 1) := by decide +kernel
theorem dX10_wireAt_2 : decode cX10_wireAt 2 = .ok (.invokevirtual 152, 3) := by decide +kernel
theorem dX10_wireAt_5 : decode cX10_wireAt 5 = .ok (.istore_n 2, 1) := by decide +kernel
theorem dX10_wireAt_6 : decode cX10_wireAt 6 = .ok (.iload_n 2, 1) := by decide +kernel
theorem dX10_wireAt_7 : decode cX10_wireAt 7 = .ok (.bipush 48, 2) := by decide +kernel
theorem dX10_wireAt_9 : decode cX10_wireAt 9 = .ok (.bipush 57, 2) := by decide +kernel
theorem dX10_wireAt_11 : decode cX10_wireAt 11 = .ok (.invokestatic 65, 3) := by decide +kernel
theorem dX10_wireAt_14 : decode cX10_wireAt 14 = .ok (.ifCond .eq 10, 3) := by decide +kernel
theorem dX10_wireAt_17 : decode cX10_wireAt 17 = .ok (.iload_n 2, 1) := by decide +kernel
theorem dX10_wireAt_18 : decode cX10_wireAt 18 = .ok (.bipush 48, 2) := by decide +kernel
theorem dX10_wireAt_20 : decode cX10_wireAt 20 = .ok (.isub, 1) := by decide +kernel
theorem dX10_wireAt_21 : decode cX10_wireAt 21 = .ok (.goto 25, 3) := by decide +kernel
theorem dX10_wireAt_24 : decode cX10_wireAt 24 = .ok (.iload_n 2, 1) := by decide +kernel
theorem dX10_wireAt_25 : decode cX10_wireAt 25 = .ok (.bipush 97, 2) := by decide +kernel
theorem dX10_wireAt_27 : decode cX10_wireAt 27 = .ok (.bipush 102, 2) := by decide +kernel
theorem dX10_wireAt_29 : decode cX10_wireAt 29 = .ok (.invokestatic 65, 3) := by decide +kernel
theorem dX10_wireAt_32 : decode cX10_wireAt 32 = .ok (.ifCond .eq 13, 3) := by decide +kernel
theorem dX10_wireAt_35 : decode cX10_wireAt 35 = .ok (.iload_n 2, 1) := by decide +kernel
theorem dX10_wireAt_36 : decode cX10_wireAt 36 = .ok (.bipush 97, 2) := by decide +kernel
theorem dX10_wireAt_38 : decode cX10_wireAt 38 = .ok (.isub, 1) := by decide +kernel
theorem dX10_wireAt_39 : decode cX10_wireAt 39 = .ok (.bipush 10, 2) := by decide +kernel
theorem dX10_wireAt_41 : decode cX10_wireAt 41 = .ok (.iadd, 1) := by decide +kernel
theorem dX10_wireAt_42 : decode cX10_wireAt 42 = .ok (.goto 4, 3) := by decide +kernel
theorem dX10_wireAt_45 : decode cX10_wireAt 45 = .ok (.iconst (-1), 1) := by decide +kernel
theorem dX10_wireAt_46 : decode cX10_wireAt 46 = .ok (.ireturn, 1) := by decide +kernel
theorem dX10_doesGate_0 : decode cX10_doesGate 0 = .ok (.aload_n 0, 1) := by decide +kernel
theorem dX10_doesGate_1 : decode cX10_doesGate 1 = .ok (.aload_n 0, 1) := by decide +kernel
theorem dX10_doesGate_2 : decode cX10_doesGate 2 = .ok (.getfield 155, 3) := by decide +kernel
theorem dX10_doesGate_5 : decode cX10_doesGate 5 = .ok (.iconst 1, 1) := by decide +kernel
theorem dX10_doesGate_6 : decode cX10_doesGate 6 = .ok (.iadd, 1) := by decide +kernel
theorem dX10_doesGate_7 : decode cX10_doesGate 7 = .ok (.invokevirtual 158, 3) := by decide +kernel
theorem dX10_doesGate_10 : decode cX10_doesGate 10 = .ok (.istore_n 2, 1) := by decide +kernel
theorem dX10_doesGate_11 : decode cX10_doesGate 11 = .ok (.aload_n 0, 1) := by decide +kernel
theorem dX10_doesGate_12 : decode cX10_doesGate 12 = .ok (.aload_n 0, 1) := by decide +kernel
theorem dX10_doesGate_13 : decode cX10_doesGate 13 = .ok (.getfield 155, 3) := by decide +kernel
theorem dX10_doesGate_16 : decode cX10_doesGate 16 = .ok (.iconst 2, 1) := by decide +kernel
theorem dX10_doesGate_17 : decode cX10_doesGate 17 = .ok (.iadd, 1) := by decide +kernel
theorem dX10_doesGate_18 : decode cX10_doesGate 18 = .ok (.invokevirtual 158, 3) := by decide +kernel
theorem dX10_doesGate_21 : decode cX10_doesGate 21 = .ok (.istore_n 3, 1) := by decide +kernel
theorem dX10_doesGate_22 : decode cX10_doesGate 22 = .ok (.iload_n 2, 1) := by decide +kernel
theorem dX10_doesGate_23 : decode cX10_doesGate 23 = .ok (.ifCond .lt 22, 3) := by decide +kernel
theorem dX10_doesGate_26 : decode cX10_doesGate 26 = .ok (.iload_n 3, 1) := by decide +kernel
theorem dX10_doesGate_27 : decode cX10_doesGate 27 = .ok (.ifCond .lt 18, 3) := by decide +kernel
theorem dX10_doesGate_30 : decode cX10_doesGate 30 = .ok (.aload_n 0, 1) := by decide +kernel
theorem dX10_doesGate_31 : decode cX10_doesGate 31 = .ok (.aload_n 0, 1) := by decide +kernel
theorem dX10_doesGate_32 : decode cX10_doesGate 32 = .ok (.getfield 155, 3) := by decide +kernel
theorem dX10_doesGate_35 : decode cX10_doesGate 35 = .ok (.iconst 3, 1) := by decide +kernel
theorem dX10_doesGate_36 : decode cX10_doesGate 36 = .ok (.iadd, 1) := by decide +kernel
theorem dX10_doesGate_37 : decode cX10_doesGate 37 = .ok (.invokevirtual 152, 3) := by decide +kernel
theorem dX10_doesGate_40 : decode cX10_doesGate 40 = .ok (.bipush 59, 2) := by decide +kernel
theorem dX10_doesGate_42 : decode cX10_doesGate 42 = .ok (.if_icmp .eq 5, 3) := by decide +kernel
theorem dX10_doesGate_45 : decode cX10_doesGate 45 = .ok (.iconst 1, 1) := by decide +kernel
theorem dX10_doesGate_46 : decode cX10_doesGate 46 = .ok (.ireturn, 1) := by decide +kernel
theorem dX10_doesGate_47 : decode cX10_doesGate 47 = .ok (.aload_n 0, 1) := by decide +kernel
theorem dX10_doesGate_48 : decode cX10_doesGate 48 = .ok (.getfield 23, 3) := by decide +kernel
theorem dX10_doesGate_51 : decode cX10_doesGate 51 = .ok (.iconst 0, 1) := by decide +kernel
theorem dX10_doesGate_52 : decode cX10_doesGate 52 = .ok (.iaload, 1) := by decide +kernel
theorem dX10_doesGate_53 : decode cX10_doesGate 53 = .ok (.istore 4, 2) := by decide +kernel
theorem dX10_doesGate_55 : decode cX10_doesGate 55 = .ok (.iload 4, 2) := by decide +kernel
theorem dX10_doesGate_57 : decode cX10_doesGate 57 = .ok (.bipush 8, 2) := by decide +kernel
theorem dX10_doesGate_59 : decode cX10_doesGate 59 = .ok (.if_icmp .ne 5, 3) := by decide +kernel
theorem dX10_doesGate_62 : decode cX10_doesGate 62 = .ok (.iconst 2, 1) := by decide +kernel
theorem dX10_doesGate_63 : decode cX10_doesGate 63 = .ok (.ireturn, 1) := by decide +kernel
theorem dX10_doesGate_64 : decode cX10_doesGate 64 = .ok (.iload 4, 2) := by decide +kernel
theorem dX10_doesGate_66 : decode cX10_doesGate 66 = .ok (.iload_n 2, 1) := by decide +kernel
theorem dX10_doesGate_67 : decode cX10_doesGate 67 = .ok (.invokestatic 73, 3) := by decide +kernel
theorem dX10_doesGate_70 : decode cX10_doesGate 70 = .ok (.ifCond .eq 12, 3) := by decide +kernel
theorem dX10_doesGate_73 : decode cX10_doesGate 73 = .ok (.iload 4, 2) := by decide +kernel
theorem dX10_doesGate_75 : decode cX10_doesGate 75 = .ok (.iload_n 3, 1) := by decide +kernel
theorem dX10_doesGate_76 : decode cX10_doesGate 76 = .ok (.invokestatic 73, 3) := by decide +kernel
theorem dX10_doesGate_79 : decode cX10_doesGate 79 = .ok (.ifCond .ne 5, 3) := by decide +kernel
theorem dX10_doesGate_82 : decode cX10_doesGate 82 = .ok (.iconst 3, 1) := by decide +kernel
theorem dX10_doesGate_83 : decode cX10_doesGate 83 = .ok (.ireturn, 1) := by decide +kernel
theorem dX10_doesGate_84 : decode cX10_doesGate 84 = .ok (.aload_n 0, 1) := by decide +kernel
theorem dX10_doesGate_85 : decode cX10_doesGate 85 = .ok (.getfield 23, 3) := by decide +kernel
theorem dX10_doesGate_88 : decode cX10_doesGate 88 = .ok (.bipush 10, 2) := by decide +kernel
theorem dX10_doesGate_90 : decode cX10_doesGate 90 = .ok (.iconst 3, 1) := by decide +kernel
theorem dX10_doesGate_91 : decode cX10_doesGate 91 = .ok (.iload 4, 2) := by decide +kernel
theorem dX10_doesGate_93 : decode cX10_doesGate 93 = .ok (.imul, 1) := by decide +kernel
theorem dX10_doesGate_94 : decode cX10_doesGate 94 = .ok (.iadd, 1) := by decide +kernel
theorem dX10_doesGate_95 : decode cX10_doesGate 95 = .ok (.iload_n 1, 1) := by decide +kernel
theorem dX10_doesGate_96 : decode cX10_doesGate 96 = .ok (.iastore, 1) := by decide +kernel
theorem dX10_doesGate_97 : decode cX10_doesGate 97 = .ok (.aload_n 0, 1) := by decide +kernel
theorem dX10_doesGate_98 : decode cX10_doesGate 98 = .ok (.getfield 23, 3) := by decide +kernel
theorem dX10_doesGate_101 : decode cX10_doesGate 101 = .ok (.bipush 10, 2) := by decide +kernel
theorem dX10_doesGate_103 : decode cX10_doesGate 103 = .ok (.iconst 3, 1) := by decide +kernel
theorem dX10_doesGate_104 : decode cX10_doesGate 104 = .ok (.iload 4, 2) := by decide +kernel
theorem dX10_doesGate_106 : decode cX10_doesGate 106 = .ok (.imul, 1) := by decide +kernel
theorem dX10_doesGate_107 : decode cX10_doesGate 107 = .ok (.iadd, 1) := by decide +kernel
theorem dX10_doesGate_108 : decode cX10_doesGate 108 = .ok (.iconst 1, 1) := by decide +kernel
theorem dX10_doesGate_109 : decode cX10_doesGate 109 = .ok (.iadd, 1) := by decide +kernel
theorem dX10_doesGate_110 : decode cX10_doesGate 110 = .ok (.iload_n 2, 1) := by decide +kernel
theorem dX10_doesGate_111 : decode cX10_doesGate 111 = .ok (.iastore, 1) := by decide +kernel
theorem dX10_doesGate_112 : decode cX10_doesGate 112 = .ok (.aload_n 0, 1) := by decide +kernel
theorem dX10_doesGate_113 : decode cX10_doesGate 113 = .ok (.getfield 23, 3) := by decide +kernel
theorem dX10_doesGate_116 : decode cX10_doesGate 116 = .ok (.bipush 10, 2) := by decide +kernel
theorem dX10_doesGate_118 : decode cX10_doesGate 118 = .ok (.iconst 3, 1) := by decide +kernel
theorem dX10_doesGate_119 : decode cX10_doesGate 119 = .ok (.iload 4, 2) := by decide +kernel
theorem dX10_doesGate_121 : decode cX10_doesGate 121 = .ok (.imul, 1) := by decide +kernel
theorem dX10_doesGate_122 : decode cX10_doesGate 122 = .ok (.iadd, 1) := by decide +kernel
theorem dX10_doesGate_123 : decode cX10_doesGate 123 = .ok (.iconst 2, 1) := by decide +kernel
theorem dX10_doesGate_124 : decode cX10_doesGate 124 = .ok (.iadd, 1) := by decide +kernel
theorem dX10_doesGate_125 : decode cX10_doesGate 125 = .ok (.iload_n 3, 1) := by decide +kernel
theorem dX10_doesGate_126 : decode cX10_doesGate 126 = .ok (.iastore, 1) := by decide +kernel
theorem dX10_doesGate_127 : decode cX10_doesGate 127 = .ok (.aload_n 0, 1) := by decide +kernel
theorem dX10_doesGate_128 : decode cX10_doesGate 128 = .ok (.getfield 23, 3) := by decide +kernel
theorem dX10_doesGate_131 : decode cX10_doesGate 131 = .ok (.iconst 0, 1) := by decide +kernel
theorem dX10_doesGate_132 : decode cX10_doesGate 132 = .ok (.dup2, 1) := by decide +kernel
theorem dX10_doesGate_133 : decode cX10_doesGate 133 = .ok (.iaload, 1) := by decide +kernel
theorem dX10_doesGate_134 : decode cX10_doesGate 134 = .ok (.iconst 1, 1) := by decide +kernel
theorem dX10_doesGate_135 : decode cX10_doesGate 135 = .ok (.iadd, 1) := by decide +kernel
theorem dX10_doesGate_136 : decode cX10_doesGate 136 = .ok (.iastore, 1) := by decide +kernel
theorem dX10_doesGate_137 : decode cX10_doesGate 137 = .ok (.aload_n 0, 1) := by decide +kernel
theorem dX10_doesGate_138 : decode cX10_doesGate 138 = .ok (.dup, 1) := by decide +kernel
theorem dX10_doesGate_139 : decode cX10_doesGate 139 = .ok (.getfield 155, 3) := by decide +kernel
theorem dX10_doesGate_142 : decode cX10_doesGate 142 = .ok (.iconst 4, 1) := by decide +kernel
theorem dX10_doesGate_143 : decode cX10_doesGate 143 = .ok (.iadd, 1) := by decide +kernel
theorem dX10_doesGate_144 : decode cX10_doesGate 144 = .ok (.putfield 155, 3) := by decide +kernel
theorem dX10_doesGate_147 : decode cX10_doesGate 147 = .ok (.iconst 0, 1) := by decide +kernel
theorem dX10_doesGate_148 : decode cX10_doesGate 148 = .ok (.ireturn, 1) := by decide +kernel
theorem dX10_doesRegister_0 : decode cX10_doesRegister 0 = .ok (.aload_n 0, 1) := by decide +kernel
theorem dX10_doesRegister_1 : decode cX10_doesRegister 1 = .ok (.aload_n 0, 1) := by decide +kernel
theorem dX10_doesRegister_2 : decode cX10_doesRegister 2 = .ok (.getfield 155, 3) := by decide +kernel
theorem dX10_doesRegister_5 : decode cX10_doesRegister 5 = .ok (.iconst 1, 1) := by decide +kernel
theorem dX10_doesRegister_6 : decode cX10_doesRegister 6 = .ok (.iadd, 1) := by decide +kernel
theorem dX10_doesRegister_7 : decode cX10_doesRegister 7 = .ok (.invokevirtual 152, 3) := by decide +kernel
theorem dX10_doesRegister_10 : decode cX10_doesRegister 10 = .ok (.bipush 48, 2) := by decide +kernel
theorem dX10_doesRegister_12 : decode cX10_doesRegister 12 = .ok (.isub, 1) := by decide +kernel
theorem dX10_doesRegister_13 : decode cX10_doesRegister 13 = .ok (.istore_n 1, 1) := by decide +kernel
theorem dX10_doesRegister_14 : decode cX10_doesRegister 14 = .ok (.aload_n 0, 1) := by decide +kernel
theorem dX10_doesRegister_15 : decode cX10_doesRegister 15 = .ok (.aload_n 0, 1) := by decide +kernel
theorem dX10_doesRegister_16 : decode cX10_doesRegister 16 = .ok (.getfield 155, 3) := by decide +kernel
theorem dX10_doesRegister_19 : decode cX10_doesRegister 19 = .ok (.iconst 2, 1) := by decide +kernel
theorem dX10_doesRegister_20 : decode cX10_doesRegister 20 = .ok (.iadd, 1) := by decide +kernel
theorem dX10_doesRegister_21 : decode cX10_doesRegister 21 = .ok (.invokevirtual 158, 3) := by decide +kernel
theorem dX10_doesRegister_24 : decode cX10_doesRegister 24 = .ok (.istore_n 2, 1) := by decide +kernel
theorem dX10_doesRegister_25 : decode cX10_doesRegister 25 = .ok (.aload_n 0, 1) := by decide +kernel
theorem dX10_doesRegister_26 : decode cX10_doesRegister 26 = .ok (.aload_n 0, 1) := by decide +kernel
theorem dX10_doesRegister_27 : decode cX10_doesRegister 27 = .ok (.getfield 155, 3) := by decide +kernel
theorem dX10_doesRegister_30 : decode cX10_doesRegister 30 = .ok (.iconst 3, 1) := by decide +kernel
theorem dX10_doesRegister_31 : decode cX10_doesRegister 31 = .ok (.iadd, 1) := by decide +kernel
theorem dX10_doesRegister_32 : decode cX10_doesRegister 32 = .ok (.invokevirtual 152, 3) := by decide +kernel
theorem dX10_doesRegister_35 : decode cX10_doesRegister 35 = .ok (.bipush 48, 2) := by decide +kernel
theorem dX10_doesRegister_37 : decode cX10_doesRegister 37 = .ok (.isub, 1) := by decide +kernel
theorem dX10_doesRegister_38 : decode cX10_doesRegister 38 = .ok (.istore_n 3, 1) := by decide +kernel
theorem dX10_doesRegister_39 : decode cX10_doesRegister 39 = .ok (.iload_n 1, 1) := by decide +kernel
theorem dX10_doesRegister_40 : decode cX10_doesRegister 40 = .ok (.iconst 0, 1) := by decide +kernel
theorem dX10_doesRegister_41 : decode cX10_doesRegister 41 = .ok (.iconst 3, 1) := by decide +kernel
theorem dX10_doesRegister_42 : decode cX10_doesRegister 42 = .ok (.invokestatic 65, 3) := by decide +kernel
theorem dX10_doesRegister_45 : decode cX10_doesRegister 45 = .ok (.ifCond .eq 31, 3) := by decide +kernel
theorem dX10_doesRegister_48 : decode cX10_doesRegister 48 = .ok (.iload_n 2, 1) := by decide +kernel
theorem dX10_doesRegister_49 : decode cX10_doesRegister 49 = .ok (.ifCond .lt 27, 3) := by decide +kernel
theorem dX10_doesRegister_52 : decode cX10_doesRegister 52 = .ok (.iload_n 3, 1) := by decide +kernel
theorem dX10_doesRegister_53 : decode cX10_doesRegister 53 = .ok (.iconst 0, 1) := by decide +kernel
theorem dX10_doesRegister_54 : decode cX10_doesRegister 54 = .ok (.iconst 1, 1) := by decide +kernel
theorem dX10_doesRegister_55 : decode cX10_doesRegister 55 = .ok (.invokestatic 65, 3) := by decide +kernel
theorem dX10_doesRegister_58 : decode cX10_doesRegister 58 = .ok (.ifCond .eq 18, 3) := by decide +kernel
theorem dX10_doesRegister_61 : decode cX10_doesRegister 61 = .ok (.aload_n 0, 1) := by decide +kernel
theorem dX10_doesRegister_62 : decode cX10_doesRegister 62 = .ok (.aload_n 0, 1) := by decide +kernel
theorem dX10_doesRegister_63 : decode cX10_doesRegister 63 = .ok (.getfield 155, 3) := by decide +kernel
theorem dX10_doesRegister_66 : decode cX10_doesRegister 66 = .ok (.iconst 4, 1) := by decide +kernel
theorem dX10_doesRegister_67 : decode cX10_doesRegister 67 = .ok (.iadd, 1) := by decide +kernel
theorem dX10_doesRegister_68 : decode cX10_doesRegister 68 = .ok (.invokevirtual 152, 3) := by decide +kernel
theorem dX10_doesRegister_71 : decode cX10_doesRegister 71 = .ok (.bipush 59, 2) := by decide +kernel
theorem dX10_doesRegister_73 : decode cX10_doesRegister 73 = .ok (.if_icmp .eq 5, 3) := by decide +kernel
theorem dX10_doesRegister_76 : decode cX10_doesRegister 76 = .ok (.iconst 1, 1) := by decide +kernel
theorem dX10_doesRegister_77 : decode cX10_doesRegister 77 = .ok (.ireturn, 1) := by decide +kernel
theorem dX10_doesRegister_78 : decode cX10_doesRegister 78 = .ok (.aload_n 0, 1) := by decide +kernel
theorem dX10_doesRegister_79 : decode cX10_doesRegister 79 = .ok (.getfield 161, 3) := by decide +kernel
theorem dX10_doesRegister_82 : decode cX10_doesRegister 82 = .ok (.iload_n 1, 1) := by decide +kernel
theorem dX10_doesRegister_83 : decode cX10_doesRegister 83 = .ok (.ishr, 1) := by decide +kernel
theorem dX10_doesRegister_84 : decode cX10_doesRegister 84 = .ok (.iconst 1, 1) := by decide +kernel
theorem dX10_doesRegister_85 : decode cX10_doesRegister 85 = .ok (.iand, 1) := by decide +kernel
theorem dX10_doesRegister_86 : decode cX10_doesRegister 86 = .ok (.iconst 1, 1) := by decide +kernel
theorem dX10_doesRegister_87 : decode cX10_doesRegister 87 = .ok (.if_icmp .ne 5, 3) := by decide +kernel
theorem dX10_doesRegister_90 : decode cX10_doesRegister 90 = .ok (.iconst 4, 1) := by decide +kernel
theorem dX10_doesRegister_91 : decode cX10_doesRegister 91 = .ok (.ireturn, 1) := by decide +kernel
theorem dX10_doesRegister_92 : decode cX10_doesRegister 92 = .ok (.aload_n 0, 1) := by decide +kernel
theorem dX10_doesRegister_93 : decode cX10_doesRegister 93 = .ok (.dup, 1) := by decide +kernel
theorem dX10_doesRegister_94 : decode cX10_doesRegister 94 = .ok (.getfield 161, 3) := by decide +kernel
theorem dX10_doesRegister_97 : decode cX10_doesRegister 97 = .ok (.iconst 1, 1) := by decide +kernel
theorem dX10_doesRegister_98 : decode cX10_doesRegister 98 = .ok (.iload_n 1, 1) := by decide +kernel
theorem dX10_doesRegister_99 : decode cX10_doesRegister 99 = .ok (.ishl, 1) := by decide +kernel
theorem dX10_doesRegister_100 : decode cX10_doesRegister 100 = .ok (.ior, 1) := by decide +kernel
theorem dX10_doesRegister_101 : decode cX10_doesRegister 101 = .ok (.putfield 161, 3) := by decide +kernel
theorem dX10_doesRegister_104 : decode cX10_doesRegister 104 = .ok (.aload_n 0, 1) := by decide +kernel
theorem dX10_doesRegister_105 : decode cX10_doesRegister 105 = .ok (.getfield 23, 3) := by decide +kernel
theorem dX10_doesRegister_108 : decode cX10_doesRegister 108 = .ok (.iconst 2, 1) := by decide +kernel
theorem dX10_doesRegister_109 : decode cX10_doesRegister 109 = .ok (.iload_n 1, 1) := by decide +kernel
theorem dX10_doesRegister_110 : decode cX10_doesRegister 110 = .ok (.iadd, 1) := by decide +kernel
theorem dX10_doesRegister_111 : decode cX10_doesRegister 111 = .ok (.iload_n 2, 1) := by decide +kernel
theorem dX10_doesRegister_112 : decode cX10_doesRegister 112 = .ok (.iastore, 1) := by decide +kernel
theorem dX10_doesRegister_113 : decode cX10_doesRegister 113 = .ok (.aload_n 0, 1) := by decide +kernel
theorem dX10_doesRegister_114 : decode cX10_doesRegister 114 = .ok (.getfield 23, 3) := by decide +kernel
theorem dX10_doesRegister_117 : decode cX10_doesRegister 117 = .ok (.bipush 6, 2) := by decide +kernel
theorem dX10_doesRegister_119 : decode cX10_doesRegister 119 = .ok (.iload_n 1, 1) := by decide +kernel
theorem dX10_doesRegister_120 : decode cX10_doesRegister 120 = .ok (.iadd, 1) := by decide +kernel
theorem dX10_doesRegister_121 : decode cX10_doesRegister 121 = .ok (.iload_n 3, 1) := by decide +kernel
theorem dX10_doesRegister_122 : decode cX10_doesRegister 122 = .ok (.iastore, 1) := by decide +kernel
theorem dX10_doesRegister_123 : decode cX10_doesRegister 123 = .ok (.aload_n 0, 1) := by decide +kernel
theorem dX10_doesRegister_124 : decode cX10_doesRegister 124 = .ok (.dup, 1) := by decide +kernel
theorem dX10_doesRegister_125 : decode cX10_doesRegister 125 = .ok (.getfield 155, 3) := by decide +kernel
theorem dX10_doesRegister_128 : decode cX10_doesRegister 128 = .ok (.iconst 5, 1) := by decide +kernel
theorem dX10_doesRegister_129 : decode cX10_doesRegister 129 = .ok (.iadd, 1) := by decide +kernel
theorem dX10_doesRegister_130 : decode cX10_doesRegister 130 = .ok (.putfield 155, 3) := by decide +kernel
theorem dX10_doesRegister_133 : decode cX10_doesRegister 133 = .ok (.iconst 0, 1) := by decide +kernel
theorem dX10_doesRegister_134 : decode cX10_doesRegister 134 = .ok (.ireturn, 1) := by decide +kernel
theorem dX10_doesOutput_0 : decode cX10_doesOutput 0 = .ok (.aload_n 0, 1) := by decide +kernel
theorem dX10_doesOutput_1 : decode cX10_doesOutput 1 = .ok (.aload_n 0, 1) := by decide +kernel
theorem dX10_doesOutput_2 : decode cX10_doesOutput 2 = .ok (.getfield 155, 3) := by decide +kernel
theorem dX10_doesOutput_5 : decode cX10_doesOutput 5 = .ok (.iconst 1, 1) := by decide +kernel
theorem dX10_doesOutput_6 : decode cX10_doesOutput 6 = .ok (.iadd, 1) := by decide +kernel
theorem dX10_doesOutput_7 : decode cX10_doesOutput 7 = .ok (.invokevirtual 158, 3) := by decide +kernel
theorem dX10_doesOutput_10 : decode cX10_doesOutput 10 = .ok (.istore_n 1, 1) := by decide +kernel
theorem dX10_doesOutput_11 : decode cX10_doesOutput 11 = .ok (.iload_n 1, 1) := by decide +kernel
theorem dX10_doesOutput_12 : decode cX10_doesOutput 12 = .ok (.ifCond .lt 18, 3) := by decide +kernel
theorem dX10_doesOutput_15 : decode cX10_doesOutput 15 = .ok (.aload_n 0, 1) := by decide +kernel
theorem dX10_doesOutput_16 : decode cX10_doesOutput 16 = .ok (.aload_n 0, 1) := by decide +kernel
theorem dX10_doesOutput_17 : decode cX10_doesOutput 17 = .ok (.getfield 155, 3) := by decide +kernel
theorem dX10_doesOutput_20 : decode cX10_doesOutput 20 = .ok (.iconst 2, 1) := by decide +kernel
theorem dX10_doesOutput_21 : decode cX10_doesOutput 21 = .ok (.iadd, 1) := by decide +kernel
theorem dX10_doesOutput_22 : decode cX10_doesOutput 22 = .ok (.invokevirtual 152, 3) := by decide +kernel
theorem dX10_doesOutput_25 : decode cX10_doesOutput 25 = .ok (.bipush 59, 2) := by decide +kernel
theorem dX10_doesOutput_27 : decode cX10_doesOutput 27 = .ok (.if_icmp .eq 5, 3) := by decide +kernel
theorem dX10_doesOutput_30 : decode cX10_doesOutput 30 = .ok (.iconst 1, 1) := by decide +kernel
theorem dX10_doesOutput_31 : decode cX10_doesOutput 31 = .ok (.ireturn, 1) := by decide +kernel
theorem dX10_doesOutput_32 : decode cX10_doesOutput 32 = .ok (.aload_n 0, 1) := by decide +kernel
theorem dX10_doesOutput_33 : decode cX10_doesOutput 33 = .ok (.getfield 161, 3) := by decide +kernel
theorem dX10_doesOutput_36 : decode cX10_doesOutput 36 = .ok (.iconst 4, 1) := by decide +kernel
theorem dX10_doesOutput_37 : decode cX10_doesOutput 37 = .ok (.ishr, 1) := by decide +kernel
theorem dX10_doesOutput_38 : decode cX10_doesOutput 38 = .ok (.iconst 1, 1) := by decide +kernel
theorem dX10_doesOutput_39 : decode cX10_doesOutput 39 = .ok (.iand, 1) := by decide +kernel
theorem dX10_doesOutput_40 : decode cX10_doesOutput 40 = .ok (.iconst 1, 1) := by decide +kernel
theorem dX10_doesOutput_41 : decode cX10_doesOutput 41 = .ok (.if_icmp .ne 5, 3) := by decide +kernel
theorem dX10_doesOutput_44 : decode cX10_doesOutput 44 = .ok (.iconst 4, 1) := by decide +kernel
theorem dX10_doesOutput_45 : decode cX10_doesOutput 45 = .ok (.ireturn, 1) := by decide +kernel
theorem dX10_doesOutput_46 : decode cX10_doesOutput 46 = .ok (.aload_n 0, 1) := by decide +kernel
theorem dX10_doesOutput_47 : decode cX10_doesOutput 47 = .ok (.dup, 1) := by decide +kernel
theorem dX10_doesOutput_48 : decode cX10_doesOutput 48 = .ok (.getfield 161, 3) := by decide +kernel
theorem dX10_doesOutput_51 : decode cX10_doesOutput 51 = .ok (.bipush 16, 2) := by decide +kernel
theorem dX10_doesOutput_53 : decode cX10_doesOutput 53 = .ok (.ior, 1) := by decide +kernel
theorem dX10_doesOutput_54 : decode cX10_doesOutput 54 = .ok (.putfield 161, 3) := by decide +kernel
theorem dX10_doesOutput_57 : decode cX10_doesOutput 57 = .ok (.aload_n 0, 1) := by decide +kernel
theorem dX10_doesOutput_58 : decode cX10_doesOutput 58 = .ok (.getfield 23, 3) := by decide +kernel
theorem dX10_doesOutput_61 : decode cX10_doesOutput 61 = .ok (.iconst 1, 1) := by decide +kernel
theorem dX10_doesOutput_62 : decode cX10_doesOutput 62 = .ok (.iload_n 1, 1) := by decide +kernel
theorem dX10_doesOutput_63 : decode cX10_doesOutput 63 = .ok (.iastore, 1) := by decide +kernel
theorem dX10_doesOutput_64 : decode cX10_doesOutput 64 = .ok (.aload_n 0, 1) := by decide +kernel
theorem dX10_doesOutput_65 : decode cX10_doesOutput 65 = .ok (.dup, 1) := by decide +kernel
theorem dX10_doesOutput_66 : decode cX10_doesOutput 66 = .ok (.getfield 155, 3) := by decide +kernel
theorem dX10_doesOutput_69 : decode cX10_doesOutput 69 = .ok (.iconst 3, 1) := by decide +kernel
theorem dX10_doesOutput_70 : decode cX10_doesOutput 70 = .ok (.iadd, 1) := by decide +kernel
theorem dX10_doesOutput_71 : decode cX10_doesOutput 71 = .ok (.putfield 155, 3) := by decide +kernel
theorem dX10_doesOutput_74 : decode cX10_doesOutput 74 = .ok (.iconst 0, 1) := by decide +kernel
theorem dX10_doesOutput_75 : decode cX10_doesOutput 75 = .ok (.ireturn, 1) := by decide +kernel
theorem dX10_faulty_0 : decode cX10_faulty 0 = .ok (.aload_n 0, 1) := by decide +kernel
theorem dX10_faulty_1 : decode cX10_faulty 1 = .ok (.getfield 23, 3) := by decide +kernel
theorem dX10_faulty_4 : decode cX10_faulty 4 = .ok (.iconst 0, 1) := by decide +kernel
theorem dX10_faulty_5 : decode cX10_faulty 5 = .ok (.invokestatic 56, 3) := by decide +kernel
theorem dX10_faulty_8 : decode cX10_faulty 8 = .ok (.aload_n 0, 1) := by decide +kernel
theorem dX10_faulty_9 : decode cX10_faulty 9 = .ok (.iconst 0, 1) := by decide +kernel
theorem dX10_faulty_10 : decode cX10_faulty 10 = .ok (.putfield 161, 3) := by decide +kernel
theorem dX10_faulty_13 : decode cX10_faulty 13 = .ok (.aload_n 0, 1) := by decide +kernel
theorem dX10_faulty_14 : decode cX10_faulty 14 = .ok (.iconst 0, 1) := by decide +kernel
theorem dX10_faulty_15 : decode cX10_faulty 15 = .ok (.putfield 155, 3) := by decide +kernel
theorem dX10_faulty_18 : decode cX10_faulty 18 = .ok (.aload_n 0, 1) := by decide +kernel
theorem dX10_faulty_19 : decode cX10_faulty 19 = .ok (.getfield 155, 3) := by decide +kernel
theorem dX10_faulty_22 : decode cX10_faulty 22 = .ok (.aload_n 0, 1) := by decide +kernel
theorem dX10_faulty_23 : decode cX10_faulty 23 = .ok (.getfield 149, 3) := by decide +kernel
theorem dX10_faulty_26 : decode cX10_faulty 26 = .ok (.if_icmp .ge 80, 3) := by decide +kernel
theorem dX10_faulty_29 : decode cX10_faulty 29 = .ok (.aload_n 0, 1) := by decide +kernel
theorem dX10_faulty_30 : decode cX10_faulty 30 = .ok (.aload_n 0, 1) := by decide +kernel
theorem dX10_faulty_31 : decode cX10_faulty 31 = .ok (.getfield 155, 3) := by decide +kernel
theorem dX10_faulty_34 : decode cX10_faulty 34 = .ok (.invokevirtual 152, 3) := by decide +kernel
theorem dX10_faulty_37 : decode cX10_faulty 37 = .ok (.istore_n 1, 1) := by decide +kernel
theorem dX10_faulty_38 : decode cX10_faulty 38 = .ok (.aload_n 0, 1) := by decide +kernel
theorem dX10_faulty_39 : decode cX10_faulty 39 = .ok (.iload_n 1, 1) := by decide +kernel
theorem dX10_faulty_40 : decode cX10_faulty 40 = .ok (.bipush 114, 2) := by decide +kernel
theorem dX10_faulty_42 : decode cX10_faulty 42 = .ok (.if_icmp .ne 10, 3) := by decide +kernel
theorem dX10_faulty_45 : decode cX10_faulty 45 = .ok (.aload_n 0, 1) := by decide +kernel
theorem dX10_faulty_46 : decode cX10_faulty 46 = .ok (.invokevirtual 164, 3) := by decide +kernel
theorem dX10_faulty_49 : decode cX10_faulty 49 = .ok (.goto 39, 3) := by decide +kernel
theorem dX10_faulty_52 : decode cX10_faulty 52 = .ok (.iload_n 1, 1) := by decide +kernel
theorem dX10_faulty_53 : decode cX10_faulty 53 = .ok (.bipush 111, 2) := by decide +kernel
theorem dX10_faulty_55 : decode cX10_faulty 55 = .ok (.if_icmp .ne 10, 3) := by decide +kernel
theorem dX10_faulty_58 : decode cX10_faulty 58 = .ok (.aload_n 0, 1) := by decide +kernel
theorem dX10_faulty_59 : decode cX10_faulty 59 = .ok (.invokevirtual 168, 3) := by decide +kernel
theorem dX10_faulty_62 : decode cX10_faulty 62 = .ok (.goto 26, 3) := by decide +kernel
theorem dX10_faulty_65 : decode cX10_faulty 65 = .ok (.iload_n 1, 1) := by decide +kernel
theorem dX10_faulty_66 : decode cX10_faulty 66 = .ok (.bipush 48, 2) := by decide +kernel
theorem dX10_faulty_68 : decode cX10_faulty 68 = .ok (.bipush 53, 2) := by decide +kernel
theorem dX10_faulty_70 : decode cX10_faulty 70 = .ok (.invokestatic 65, 3) := by decide +kernel
theorem dX10_faulty_73 : decode cX10_faulty 73 = .ok (.ifCond .eq 14, 3) := by decide +kernel
theorem dX10_faulty_76 : decode cX10_faulty 76 = .ok (.aload_n 0, 1) := by decide +kernel
theorem dX10_faulty_77 : decode cX10_faulty 77 = .ok (.iload_n 1, 1) := by decide +kernel
theorem dX10_faulty_78 : decode cX10_faulty 78 = .ok (.bipush 48, 2) := by decide +kernel
theorem dX10_faulty_80 : decode cX10_faulty 80 = .ok (.isub, 1) := by decide +kernel
theorem dX10_faulty_81 : decode cX10_faulty 81 = .ok (.invokevirtual 171, 3) := by decide +kernel
theorem dX10_faulty_84 : decode cX10_faulty 84 = .ok (.goto 4, 3) := by decide +kernel
theorem dX10_faulty_87 : decode cX10_faulty 87 = .ok (.iconst 1, 1) := by decide +kernel
theorem dX10_faulty_88 : decode cX10_faulty 88 = .ok (.putfield 174, 3) := by decide +kernel
theorem dX10_faulty_91 : decode cX10_faulty 91 = .ok (.aload_n 0, 1) := by decide +kernel
theorem dX10_faulty_92 : decode cX10_faulty 92 = .ok (.getfield 174, 3) := by decide +kernel
theorem dX10_faulty_95 : decode cX10_faulty 95 = .ok (.ifCond .le 8, 3) := by decide +kernel
theorem dX10_faulty_98 : decode cX10_faulty 98 = .ok (.aload_n 0, 1) := by decide +kernel
theorem dX10_faulty_99 : decode cX10_faulty 99 = .ok (.getfield 155, 3) := by decide +kernel
theorem dX10_faulty_102 : decode cX10_faulty 102 = .ok (.ireturn, 1) := by decide +kernel
theorem dX10_faulty_103 : decode cX10_faulty 103 = .ok (.goto (-85), 3) := by decide +kernel
theorem dX10_faulty_106 : decode cX10_faulty 106 = .ok (.ldc 126, 2) := by decide +kernel
theorem dX10_faulty_108 : decode cX10_faulty 108 = .ok (.ireturn, 1) := by decide +kernel
theorem dX10_fault_0 : decode cX10_fault 0 = .ok (.iload_n 1, 1) := by decide +kernel
theorem dX10_fault_1 : decode cX10_fault 1 = .ok (.iconst 0, 1) := by decide +kernel
theorem dX10_fault_2 : decode cX10_fault 2 = .ok (.iconst 1, 1) := by decide +kernel
theorem dX10_fault_3 : decode cX10_fault 3 = .ok (.invokestatic 65, 3) := by decide +kernel
theorem dX10_fault_6 : decode cX10_fault 6 = .ok (.ifCond .ne 6, 3) := by decide +kernel
theorem dX10_fault_9 : decode cX10_fault 9 = .ok (.ldc 60, 2) := by decide +kernel
theorem dX10_fault_11 : decode cX10_fault 11 = .ok (.ireturn, 1) := by decide +kernel
theorem dX10_fault_12 : decode cX10_fault 12 = .ok (.aload_n 0, 1) := by decide +kernel
theorem dX10_fault_13 : decode cX10_fault 13 = .ok (.invokevirtual 177, 3) := by decide +kernel
theorem dX10_fault_16 : decode cX10_fault 16 = .ok (.istore_n 2, 1) := by decide +kernel
theorem dX10_fault_17 : decode cX10_fault 17 = .ok (.iload_n 2, 1) := by decide +kernel
theorem dX10_fault_18 : decode cX10_fault 18 = .ok (.ldc 126, 2) := by decide +kernel
theorem dX10_fault_20 : decode cX10_fault 20 = .ok (.if_icmp .eq 7, 3) := by decide +kernel
theorem dX10_fault_23 : decode cX10_fault 23 = .ok (.iload_n 1, 1) := by decide +kernel
theorem dX10_fault_24 : decode cX10_fault 24 = .ok (.ifCond .ne 7, 3) := by decide +kernel
theorem dX10_fault_27 : decode cX10_fault 27 = .ok (.iload_n 2, 1) := by decide +kernel
theorem dX10_fault_28 : decode cX10_fault 28 = .ok (.goto 7, 3) := by decide +kernel
theorem dX10_fault_31 : decode cX10_fault 31 = .ok (.aload_n 0, 1) := by decide +kernel
theorem dX10_fault_32 : decode cX10_fault 32 = .ok (.getfield 174, 3) := by decide +kernel
theorem dX10_fault_35 : decode cX10_fault 35 = .ok (.ireturn, 1) := by decide +kernel
theorem dX10_read_0 : decode cX10_read 0 = .ok (.iload_n 1, 1) := by decide +kernel
theorem dX10_read_1 : decode cX10_read 1 = .ok (.iconst 0, 1) := by decide +kernel
theorem dX10_read_2 : decode cX10_read 2 = .ok (.iconst 1, 1) := by decide +kernel
theorem dX10_read_3 : decode cX10_read 3 = .ok (.invokestatic 65, 3) := by decide +kernel
theorem dX10_read_6 : decode cX10_read 6 = .ok (.ifCond .ne 6, 3) := by decide +kernel
theorem dX10_read_9 : decode cX10_read 9 = .ok (.ldc 60, 2) := by decide +kernel
theorem dX10_read_11 : decode cX10_read 11 = .ok (.ireturn, 1) := by decide +kernel
theorem dX10_read_12 : decode cX10_read 12 = .ok (.aload_n 0, 1) := by decide +kernel
theorem dX10_read_13 : decode cX10_read 13 = .ok (.invokevirtual 177, 3) := by decide +kernel
theorem dX10_read_16 : decode cX10_read 16 = .ok (.ldc 126, 2) := by decide +kernel
theorem dX10_read_18 : decode cX10_read 18 = .ok (.if_icmp .eq 6, 3) := by decide +kernel
theorem dX10_read_21 : decode cX10_read 21 = .ok (.ldc 85, 2) := by decide +kernel
theorem dX10_read_23 : decode cX10_read 23 = .ok (.ireturn, 1) := by decide +kernel
theorem dX10_read_24 : decode cX10_read 24 = .ok (.aload_n 0, 1) := by decide +kernel
theorem dX10_read_25 : decode cX10_read 25 = .ok (.invokevirtual 78, 3) := by decide +kernel
theorem dX10_read_28 : decode cX10_read 28 = .ok (.iconst 0, 1) := by decide +kernel
theorem dX10_read_29 : decode cX10_read 29 = .ok (.istore_n 2, 1) := by decide +kernel
theorem dX10_read_30 : decode cX10_read 30 = .ok (.iload_n 2, 1) := by decide +kernel
theorem dX10_read_31 : decode cX10_read 31 = .ok (.bipush 34, 2) := by decide +kernel
theorem dX10_read_33 : decode cX10_read 33 = .ok (.if_icmp .ge 26, 3) := by decide +kernel
theorem dX10_read_36 : decode cX10_read 36 = .ok (.aload_n 0, 1) := by decide +kernel
theorem dX10_read_37 : decode cX10_read 37 = .ok (.getfield 7, 3) := by decide +kernel
theorem dX10_read_40 : decode cX10_read 40 = .ok (.bipush 34, 2) := by decide +kernel
theorem dX10_read_42 : decode cX10_read 42 = .ok (.iload_n 1, 1) := by decide +kernel
theorem dX10_read_43 : decode cX10_read 43 = .ok (.imul, 1) := by decide +kernel
theorem dX10_read_44 : decode cX10_read 44 = .ok (.iload_n 2, 1) := by decide +kernel
theorem dX10_read_45 : decode cX10_read 45 = .ok (.iadd, 1) := by decide +kernel
theorem dX10_read_46 : decode cX10_read 46 = .ok (.aload_n 0, 1) := by decide +kernel
theorem dX10_read_47 : decode cX10_read 47 = .ok (.getfield 23, 3) := by decide +kernel
theorem dX10_read_50 : decode cX10_read 50 = .ok (.iload_n 2, 1) := by decide +kernel
theorem dX10_read_51 : decode cX10_read 51 = .ok (.iaload, 1) := by decide +kernel
theorem dX10_read_52 : decode cX10_read 52 = .ok (.iastore, 1) := by decide +kernel
theorem dX10_read_53 : decode cX10_read 53 = .ok (.iinc 2 1, 3) := by decide +kernel
theorem dX10_read_56 : decode cX10_read 56 = .ok (.goto (-26), 3) := by decide +kernel
theorem dX10_read_59 : decode cX10_read 59 = .ok (.aload_n 0, 1) := by decide +kernel
theorem dX10_read_60 : decode cX10_read 60 = .ok (.aload_n 0, 1) := by decide +kernel
theorem dX10_read_61 : decode cX10_read 61 = .ok (.getfield 23, 3) := by decide +kernel
theorem dX10_read_64 : decode cX10_read 64 = .ok (.iconst 0, 1) := by decide +kernel
theorem dX10_read_65 : decode cX10_read 65 = .ok (.iaload, 1) := by decide +kernel
theorem dX10_read_66 : decode cX10_read 66 = .ok (.invokevirtual 81, 3) := by decide +kernel
theorem dX10_read_69 : decode cX10_read 69 = .ok (.ireturn, 1) := by decide +kernel
end
section
/-! THE FRAME: a pure picture of a world whose shape stands fast: cells by name, whole numbers in them; 'Ev': from here on the method ends so; 'Sem': a method's contract in these words. -/
abbrev Cc : Type := Nat ⊕ ((Fin 4 × Nat) ⊕ (Fin 3 × Nat))
abbrev Val : Type := Int ⊕ Cc
abbrev Sh : Type := (Bool × Nat) ⊕ (Nat × List (Option Cc))
abbrev Sy : Type := (Cc → Option Sh) × List Cc
abbrev Mem : Type := Cc → Nat → Int
abbrev Rng (x : Int) : Prop := -2147483648 ≤ x ∧ x < 2147483648
def TBL : List Cond := lw_tbl.filter goodWord
theorem gdT : GoodIn TBL TBL := fun w h => ⟨h, good_of_word (List.mem_filter.mp h).2⟩
theorem inTb {w : Cond} (h : w ∈ tables_1) (g : goodWord w = true) : w ∈ TBL := List.mem_filter.mpr ⟨List.mem_append_right _ h, g⟩
theorem inT1 {w : Cond} (i : Nat) (h : tables_1_1[i]? = some w) (g : goodWord w = true) : w ∈ TBL := inTb (List.mem_append_left _ (List.mem_of_getElem? h)) g
theorem inT2 {w : Cond} (i : Nat) (h : tables_1_2[i]? = some w) (g : goodWord w = true) : w ∈ TBL := inTb (List.mem_append_right _ (List.mem_append_left _ (List.mem_of_getElem? h))) g
theorem inT3 {w : Cond} (i : Nat) (h : tables_1_3[i]? = some w) (g : goodWord w = true) : w ∈ TBL := inTb (List.mem_append_right _ (List.mem_append_right _ (List.mem_append_left _ (List.mem_of_getElem? h)))) g
theorem inT4 {w : Cond} (i : Nat) (h : tables_1_4[i]? = some w) (g : goodWord w = true) : w ∈ TBL := inTb (List.mem_append_right _ (List.mem_append_right _ (List.mem_append_right _ (List.mem_of_getElem? h)))) g
theorem inTp {y : MethodName} {n : Nat} (i : Nat) (h : lw_privs[i]? = some (y, n)) (g : goodWord (Cond.selects y.cls y y) = true) : Cond.selects y.cls y y ∈ TBL := List.mem_filter.mpr ⟨List.mem_append_left _ (List.mem_map.mpr ⟨(y, n), List.mem_of_getElem? h, rfl⟩), g⟩
/-- the links of nest mates' private members: own class, place, method, host -/
def nestL : List (String × Nat × MethodName × String) := tables_1.filterMap (fun w => match w with | .methodLinkNest a i x h => some (a, i, x, h) | _ => none)
def NW (U : State) : Prop := ∀ q ∈ nestL, va_Nw (.methodLinkNest q.1 q.2.1 q.2.2.1 q.2.2.2) U
theorem NW.warm {s U : State} (hW : s.WarmedH U.vm) (h : NW s) : NW U := fun q hq => (h q hq).warmM hW
theorem NW.same {s U : State} (e : s.vm = U.vm) (h : NW s) : NW U := fun q hq => (h q hq).same rfl e
theorem NW.of {s : State} {args : Array Value} (h : ∀ w ∈ tables_1, w.before args s = true) : NW s := by
  intro q hq
  obtain ⟨w, hw, he⟩ := List.mem_filterMap.mp hq
  have h1 := h w hw
  split at he
  · cases he
    exact va_Nw.of rfl h1
  · cases he
/-- a method: its name, code, locals, answer; frames and locals below it -/
abbrev MI : Type := MethodName × ByteArray × Nat × Option FieldType × Nat × Nat
def miW (q : MI) : List Cond := .code q.1 q.2.1 q.2.2.1 q.2.2.2.1 :: TBL
abbrev miRm (q : MI) : Room := { frames := q.2.2.2.2.1, cells := 0, slots := 0, locals := q.2.2.2.2.2 }
def cvv (ad : Cc → Nat) : Val → Value
  | .inl x => .int (Int32.ofInt x)
  | .inr c => .ref (ad c)
def enF (ad : Cc → Nat) (M : Mem) (c : Cc) (k : Nat) : Option Cc → Value
  | none => .int (Int32.ofInt (M c k))
  | some d => .ref (ad d)
def enS (ad : Cc → Nat) (ty : Bool → ClassId) (M : Mem) (c : Cc) : Option Sh → va_E
  | some (.inl (b, n)) => .inl (ty b, n, .inl (fun j => Int32.ofInt (M c j)))
  | some (.inr (ci, fl)) => .inr (ci, fl.mapIdx (enF ad M c))
  | none => .inr (0, [])
def wl (S : Sy) (ad : Cc → Nat) (ty : Bool → ClassId) (M : Mem) : va_W := S.2.map (fun c => (ad c, enS ad ty M c (S.1 c)))
def AA (S : Sy) (ad : Cc → Nat) (sz : Nat) : Nat → Prop := fun q => (∃ c, c ∈ S.2 ∧ ad c = q) ∨ sz ≤ q
def SyOk (S : Sy) : Prop := S.2.Nodup ∧ ∀ c, S.1 c ≠ none → c ∈ S.2
def updM (M : Mem) (c : Cc) (k : Nat) (v : Int) : Mem := fun d j => if d = c ∧ j = k then v else M d j
theorem wl_at {S : Sy} {ad : Cc → Nat} {ty : Bool → ClassId} {M : Mem} {c : Cc} {k : Nat} (h : S.2[k]? = some c) : (wl S ad ty M)[k]? = some (ad c, enS ad ty M c (S.1 c)) := by
  simp [wl, h]
theorem wl_ix {S : Sy} (ok : SyOk S) {c : Cc} {x : Sh} (h : S.1 c = some x) : ∃ k : Nat, S.2[k]? = some c := List.getElem?_of_mem (ok.2 c (by rw [h]; exact fun z => by cases z))
theorem wl_set {S : Sy} (ok : SyOk S) {ad : Cc → Nat} {ty : Bool → ClassId} {M M' : Mem} {c : Cc} {k : Nat} (h : S.2[k]? = some c) (hm : ∀ d, d ≠ c → enS ad ty M' d (S.1 d) = enS ad ty M d (S.1 d)) {e : va_E} (he : e = enS ad ty M' c (S.1 c)) : (wl S ad ty M).set k (ad c, e) = wl S ad ty M' := by
  subst he
  apply List.ext_getElem?
  intro i
  rw [List.getElem?_set]
  by_cases hi : k = i
  · subst hi
    have hl : k < (wl S ad ty M).length := by
      have := (List.getElem?_eq_some_iff.mp h).1
      simpa [wl] using this
    rw [if_pos rfl, if_pos hl, wl_at h]
  · rw [if_neg hi]
    cases hc : S.2[i]? with
    | none => simp [wl, hc]
    | some d =>
      rw [wl_at hc, wl_at hc, hm d]
      intro hd
      subst hd
      obtain ⟨a1, b1⟩ := List.getElem?_eq_some_iff.mp h
      obtain ⟨a2, b2⟩ := List.getElem?_eq_some_iff.mp hc
      exact hi ((List.getElem_inj ok.1).mp (b1.trans b2.symm))
theorem wl_map (S : Sy) (ad : Cc → Nat) (ty : Bool → ClassId) (M : Mem) (k : Nat) (q : Nat × va_E) (h : (wl S ad ty M)[k]? = some q) : ∃ c : Cc, S.2[k]? = some c ∧ q.1 = ad c := by
  simp only [wl, List.getElem?_map] at h
  cases hc : S.2[k]? with
  | none => rw [hc] at h; cases h
  | some c =>
    rw [hc] at h
    cases h
    exact ⟨c, rfl, rfl⟩
theorem wl_D {S : Sy} {ad : Cc → Nat} {ty : Bool → ClassId} {M M' : Mem} {A A' : Nat → Prop} (h : va_D A (wl S ad ty M)) (hA : ∀ c, c ∈ S.2 → A' (ad c)) : va_D A' (wl S ad ty M') := by
  refine ⟨fun i j p q hp hq hpq => ?_, fun k q hk => ?_⟩
  · obtain ⟨c, h1, e1⟩ := wl_map _ _ _ _ _ _ hp
    obtain ⟨d, h2, e2⟩ := wl_map _ _ _ _ _ _ hq
    exact h.1 i j _ _ (wl_at (M := M) h1) (wl_at (M := M) h2) (by rw [← e1, ← e2]; exact hpq)
  · obtain ⟨c, h1, e1⟩ := wl_map _ _ _ _ _ _ hk
    rw [e1]
    exact hA c (List.mem_of_getElem? h1)
theorem enS_upd {S : Sy} {ad : Cc → Nat} {ty : Bool → ClassId} {M : Mem} {c : Cc} {k : Nat} {v : Int} (d : Cc) (hd : d ≠ c) : enS ad ty (updM M c k v) d (S.1 d) = enS ad ty M d (S.1 d) := by
  have e : ∀ j, updM M c k v d j = M d j := fun j => by simp [updM, hd]
  cases S.1 d with
  | none => rfl
  | some x =>
    rcases x with ⟨b, n⟩ | ⟨ci, fl⟩
    · simp [enS, e]
    · have : enF ad (updM M c k v) d = enF ad M d := by
        funext k o
        cases o with
        | none => simp [enF, e]
        | some q => rfl
      simp [enS, this]
def QcS (S : Sy) (ad : Cc → Nat) (D : va_G) (ty : Bool → ClassId) (sz : Nat) (Q : Option Val → Mem → Prop) : Array Value → State → Outcome → State → Prop := fun _ st o t =>
  (∃ v M', o = .returned (v.map (cvv ad)) ∧ Q v M' ∧ va_P D vwCl (wl S ad ty M') t.heap) ∧ va_F (AA S ad sz) st t
def PcS (S : Sy) (ad : Cc → Nat) (D : va_G) (ty : Bool → ClassId) (sz : Nat) (As : List Val) (M : Mem) : Array Value → State → Prop :=
  va_Pc (As.map (cvv ad)) (fun U => U.heap.size = sz ∧ va_P D vwCl (wl S ad ty M) U.heap ∧ va_K D vwCl [(ty false, .int), (ty true, .char)] U ∧ va_D (fun _ => True) (wl S ad ty M) ∧ NW U)
def Sem (S : Sy) (q : MI) (As : List Val) (M : Mem) (Q : Option Val → Mem → Prop) : Prop :=
  ∀ (l : Launch) (ad : Cc → Nat) (D : va_G) (ty : Bool → ClassId) (sz : Nat), Met l q.1 (miW q) (miRm q) (PcS S ad D ty sz As M) (QcS S ad D ty sz Q) 0 0 (AA S ad sz)
def lk : List (Option Val) → Nat → Option Val
  | [], _ => none
  | a :: _, 0 => a
  | _ :: t, n + 1 => lk t n
def stL : List (Option Val) → Nat → Val → List (Option Val)
  | [], _, _ => []
  | _ :: t, 0, v => some v :: t
  | a :: t, n + 1, v => a :: stL t n v
theorem lk_st : ∀ (l : List (Option Val)) (i : Nat) (v : Val) (j : Nat) (w : Val), lk (stL l i v) j = some w → (j = i ∧ w = v) ∨ (j ≠ i ∧ lk l j = some w)
  | [], _, _, _, _, h => by simp [stL, lk] at h
  | _ :: t, 0, v, 0, w, h => by simp [stL, lk] at h; exact Or.inl ⟨rfl, h.symm⟩
  | _ :: t, 0, v, j + 1, w, h => Or.inr ⟨by omega, h⟩
  | a :: t, n + 1, v, 0, w, h => Or.inr ⟨by omega, h⟩
  | a :: t, n + 1, v, j + 1, w, h => by
    rcases lk_st t n v j w h with ⟨e, f⟩ | ⟨e, f⟩
    · exact Or.inl ⟨by omega, f⟩
    · exact Or.inr ⟨by omega, f⟩
theorem lk_lt : ∀ (l : List (Option Val)) (j : Nat) (w : Val), lk l j = some w → j < l.length
  | [], _, _, h => by simp [lk] at h
  | _ :: t, 0, _, _ => by simp
  | _ :: t, j + 1, w, h => by have := lk_lt t j w h; simp; omega
def LH (ad : Cc → Nat) (lsA : Array Slot) (n : Nat) (ls : List (Option Val)) : Prop := lsA.size = n ∧ lv_wf lsA ∧ ∀ i v, lk ls i = some v → lsA[i]? = some (.val (cvv ad v))
def lvl (ad : Cc → Nat) (ls : List (Option Val)) : List (Nat × Value) := (List.range ls.length).filterMap (fun j => (lk ls j).map (fun v => (j, cvv ad v)))
theorem LH.has {ad : Cc → Nat} {lsA : Array Slot} {n : Nat} {ls : List (Option Val)} (h : LH ad lsA n ls) : lv_has lsA n (lvl ad ls) := by
  refine ⟨h.1, h.2.1, fun q hq => ?_⟩
  obtain ⟨j, -, hj⟩ := List.mem_filterMap.mp hq
  cases hk : lk ls j with
  | none => rw [hk] at hj; cases hj
  | some v =>
    rw [hk] at hj
    cases hj
    exact h.2.2 j v hk
theorem cvv_cat (ad : Cc → Nat) (v : Val) : (cvv ad v).category = 1 := by cases v <;> rfl
theorem LH.set {ad : Cc → Nat} {ls' : Array Slot} {n : Nat} {ls : List (Option Val)} {i : Nat} {v : Val} (hv : lv_has ls' n ((i, cvv ad v) :: (lvl ad ls).filter (fun q => !(q.1 == i) && !(q.1 + 1 == i && q.2.category == 2)))) : LH ad ls' n (stL ls i v) := by
  refine ⟨hv.1, hv.2.1, fun j w hj => ?_⟩
  rcases lk_st ls i v j w hj with ⟨e, f⟩ | ⟨e, f⟩
  · subst e; subst f
    exact hv.2.2 (j, cvv ad w) List.mem_cons_self
  · refine hv.2.2 (j, cvv ad w) (List.mem_cons_of_mem _ (List.mem_filter.mpr ⟨List.mem_filterMap.mpr ⟨j, List.mem_range.mpr (lk_lt _ _ _ f), by rw [f]; rfl⟩, ?_⟩))
    simp [e, cvv_cat]
/-- what stands fast while a method runs -/
def CX (S : Sy) (q : MI) (p : Program) (s : State) (m : MethodId) (args : Array Value) (meth : Method) (c : Code) (D : va_G) (ty : Bool → ClassId) : Prop :=
  p.tables.exec = Jvm.exec ∧ c.code = q.2.1 ∧ meth.sig.returnType = q.2.2.2.1 ∧ c.maxLocals = q.2.2.1 ∧ s.vm.findClass q.1.cls = some m.cls ∧ (∀ w ∈ TBL, w.before args s = true) ∧ meth.locks = false ∧ va_K D vwCl [(ty false, .int), (ty true, .char)] s ∧ NW s ∧ SyOk S
def Ev (S : Sy) (q : MI) (pc : Nat) (ls : List (Option Val)) (st : List Val) (M : Mem) (Q : Option Val → Mem → Prop) : Prop :=
  ∀ (p : Program) (l : Launch) (e : Env) (s : State) (m : MethodId) (args : Array Value) (below : List Frame) (meth : Method) (c : Code) (ad : Cc → Nat) (D : va_G) (ty : Bool → ClassId) (H : Heap) (locs : List Loc) (lsA : Array Slot),
    CX S q p s m args meth c D ty → va_P D vwCl (wl S ad ty M) H → va_D (AA S ad s.heap.size) (wl S ad ty M) → va_S (AA S ad s.heap.size) s.heap H locs → LH ad lsA q.2.2.1 ls →
    W p l e (miRm q) s m args below meth c H locs 0 0 (MQ below (QcS S ad D ty s.heap.size Q) args s 0 0 (AA S ad s.heap.size)) (F0 m pc lsA (st.map (cvv ad)))
end
section
theorem sl_len (ad : Cc → Nat) : ∀ As : List Val, (lg_sl (As.map (cvv ad))).length = As.length
  | [] => rfl
  | a :: t => by
    have h := sl_len ad t
    simp only [lg_sl, List.map_cons, List.flatMap_cons, List.length_append, List.length_cons] at h ⊢
    rw [if_neg (by rw [cvv_cat]; decide)]
    simp only [List.length_cons, List.length_nil]
    omega
theorem lv_args_at (ad : Cc → Nat) : ∀ (As : List Val) (b i : Nat) (v : Val), As[i]? = some v → (b + i, cvv ad v) ∈ lv_args b (As.map (cvv ad))
  | [], _, _, _, h => by simp at h
  | a :: t, b, 0, v, h => by
    simp at h
    subst h
    simp [lv_args]
  | a :: t, b, i + 1, v, h => by
    have h2 := lv_args_at ad t (b + 1) i v (by simpa using h)
    simp only [List.map_cons, lv_args, if_neg (show ¬ (cvv ad a).category = 2 by rw [cvv_cat]; decide)]
    exact List.mem_cons_of_mem _ (by rw [show b + (i + 1) = b + 1 + i by omega]; exact h2)
theorem lk_entry : ∀ (As : List Val) (n i : Nat) (v : Val), lk (As.map some ++ List.replicate n none) i = some v → As[i]? = some v
  | [], 0, i, v, h => by simp [lk] at h
  | [], n + 1, 0, v, h => by simp [List.replicate_succ, lk] at h
  | [], n + 1, i + 1, v, h => by
    have h2 := lk_entry [] n i v (by simpa [List.replicate_succ, lk] using h)
    simp at h2
  | a :: t, n, 0, v, h => by simpa [lk] using h
  | a :: t, n, i + 1, v, h => by
    have h2 := lk_entry t n i v (by simpa [lk] using h)
    simpa using h2
theorem Sem.of {S : Sy} {q : MI} {As : List Val} {M : Mem} {Q : Option Val → Mem → Prop} {ls0 : List (Option Val)} (hp : plainName q.1.cls = true) (ok : SyOk S) (hn : As.length ≤ q.2.2.1) (hl : As.map some ++ List.replicate (q.2.2.1 - As.length) none = ls0) (k : Ev S q 0 ls0 [] M Q) : Sem S q As M Q := by
  intro l ad D ty sz
  refine Met.ofW (cc := q.2.1) (maxL := q.2.2.1) (ret := q.2.2.2.1) hp rfl ?_
  intro p e s m args below meth c s₁ B hml hv
  obtain ⟨hargs, hsz, hP, hK, hD, hN⟩ := hv
  subst hsz
  have hts := atoms_spec (ws := miW q) B.pre
  subst hl
  have h0 := lv_entry (As.map (cvv ad)) (n := q.2.2.1) (by rw [sl_len]; exact hn)
  rw [hargs, lg_entry_eq, ← hargs]
  exact k p l e s m args below meth c ad D ty s.heap [] _ ⟨B.exec, B.bytes, B.returns, hml, findClass_of_methodNamed B.named, fun w h => hts w (List.mem_cons_of_mem _ h), B.notSynchronized, hK, hN, ok⟩ hP (wl_D hD (fun c hc => Or.inl ⟨c, hc, rfl⟩)) va_S.rf ⟨h0.1, h0.2.1, fun i v hi => h0.2.2 (i, cvv ad v) (by simpa using lv_args_at ad As 0 i v (lk_entry _ _ _ _ hi))⟩
section RU
variable {S : Sy} {q : MI} {pc np : Nat} {ls : List (Option Val)} {st : List Val} {M : Mem} {Q : Option Val → Mem → Prop}
theorem ev_goto {off : Int} (hd : decode q.2.1 pc = .ok (.goto off, 3)) (ht : (pc : Int) + off = (np : Int)) (k : Ev S q np ls st M Q) : Ev S q pc ls st M Q := by
  intro p l e s m args below meth c ad D ty H locs lsA hc hP hD hS hL
  exact lv_goto hc.1 hc.2.1 hd ht (k p l e s m args below meth c ad D ty H locs lsA hc hP hD hS hL)
theorem ev_iconst {n : Int} (hd : decode q.2.1 pc = .ok (.iconst n, 1)) (hn : pc + 1 = np) (k : Ev S q np ls (.inl n :: st) M Q) : Ev S q pc ls st M Q := by
  subst hn
  intro p l e s m args below meth c ad D ty H locs lsA hc hP hD hS hL
  exact lv_iconst hc.1 hc.2.1 hd rfl (k p l e s m args below meth c ad D ty H locs lsA hc hP hD hS hL)
theorem ev_bipush {n : Int} (hd : decode q.2.1 pc = .ok (.bipush n, 2)) (hv : (Int8.ofInt n).toInt32 = Int32.ofInt n) (hn : pc + 2 = np) (k : Ev S q np ls (.inl n :: st) M Q) : Ev S q pc ls st M Q := by
  subst hn
  intro p l e s m args below meth c ad D ty H locs lsA hc hP hD hS hL
  exact lv_bipush hc.1 hc.2.1 hd hv (k p l e s m args below meth c ad D ty H locs lsA hc hP hD hS hL)
theorem ev_sipush {n : Int} (hd : decode q.2.1 pc = .ok (.sipush n, 3)) (hv : (Int16.ofInt n).toInt32 = Int32.ofInt n) (hn : pc + 3 = np) (k : Ev S q np ls (.inl n :: st) M Q) : Ev S q pc ls st M Q := by
  subst hn
  intro p l e s m args below meth c ad D ty H locs lsA hc hP hD hS hL
  exact lv_sipush hc.1 hc.2.1 hd hv (k p l e s m args below meth c ad D ty H locs lsA hc hP hD hS hL)
def SiteK (q : MI) (pc : Nat) (n : Int) : Prop := ∃ idx : Nat, Cond.constant q.1.cls idx (Int32.ofInt n) ∈ TBL ∧ decode q.2.1 pc = .ok (.ldc idx, 2)
theorem ev_ldc {n : Int} (hk : SiteK q pc n) (hn : pc + 2 = np) (k : Ev S q np ls (.inl n :: st) M Q) : Ev S q pc ls st M Q := by
  subst hn
  obtain ⟨idx, hw, hd⟩ := hk
  intro p l e s m args below meth c ad D ty H locs lsA hc hP hD hS hL
  exact lv_ldc hc.1 hc.2.1 hc.2.2.2.2.1 (hc.2.2.2.2.2.1 _ hw) hd (k p l e s m args below meth c ad D ty H locs lsA hc hP hD hS hL)
theorem ev_iload_n {i : Fin 4} {x : Int} (hd : decode q.2.1 pc = .ok (.iload_n i, 1)) (hl : lk ls i = some (.inl x)) (hn : pc + 1 = np) (k : Ev S q np ls (.inl x :: st) M Q) : Ev S q pc ls st M Q := by
  subst hn
  intro p l e s m args below meth c ad D ty H locs lsA hc hP hD hS hL
  exact lv_iload_n hc.1 hc.2.1 hd rfl (hL.2.2 i _ hl) (k p l e s m args below meth c ad D ty H locs lsA hc hP hD hS hL)
theorem ev_iload {i : Nat} {x : Int} (hd : decode q.2.1 pc = .ok (.iload i, 2)) (hl : lk ls i = some (.inl x)) (hn : pc + 2 = np) (k : Ev S q np ls (.inl x :: st) M Q) : Ev S q pc ls st M Q := by
  subst hn
  intro p l e s m args below meth c ad D ty H locs lsA hc hP hD hS hL
  exact lv_iload hc.1 hc.2.1 hd (hL.2.2 i _ hl) (k p l e s m args below meth c ad D ty H locs lsA hc hP hD hS hL)
theorem ev_aload_n {i : Fin 4} {x : Cc} (hd : decode q.2.1 pc = .ok (.aload_n i, 1)) (hl : lk ls i = some (.inr x)) (hn : pc + 1 = np) (k : Ev S q np ls (.inr x :: st) M Q) : Ev S q pc ls st M Q := by
  subst hn
  intro p l e s m args below meth c ad D ty H locs lsA hc hP hD hS hL
  exact lv_aload_n hc.1 hc.2.1 hd rfl (hL.2.2 i _ hl) (k p l e s m args below meth c ad D ty H locs lsA hc hP hD hS hL)
theorem ev_aload {i : Nat} {x : Cc} (hd : decode q.2.1 pc = .ok (.aload i, 2)) (hl : lk ls i = some (.inr x)) (hn : pc + 2 = np) (k : Ev S q np ls (.inr x :: st) M Q) : Ev S q pc ls st M Q := by
  subst hn
  intro p l e s m args below meth c ad D ty H locs lsA hc hP hD hS hL
  exact lv_aload hc.1 hc.2.1 hd (hL.2.2 i _ hl) (k p l e s m args below meth c ad D ty H locs lsA hc hP hD hS hL)
theorem ev_istore_n {i : Fin 4} {x : Int} (hd : decode q.2.1 pc = .ok (.istore_n i, 1)) (hi : (i : Nat) < q.2.2.1) (hn : pc + 1 = np) (k : Ev S q np (stL ls i (.inl x)) st M Q) : Ev S q pc ls (.inl x :: st) M Q := by
  subst hn
  intro p l e s m args below meth c ad D ty H locs lsA hc hP hD hS hL
  exact lv_istore_n hc.1 hc.2.1 hd rfl hL.has hi rfl (fun ls' hv => k p l e s m args below meth c ad D ty H locs ls' hc hP hD hS (LH.set (v := .inl x) hv))
theorem ev_istore {i : Nat} {x : Int} (hd : decode q.2.1 pc = .ok (.istore i, 2)) (hi : i < q.2.2.1) (hn : pc + 2 = np) (k : Ev S q np (stL ls i (.inl x)) st M Q) : Ev S q pc ls (.inl x :: st) M Q := by
  subst hn
  intro p l e s m args below meth c ad D ty H locs lsA hc hP hD hS hL
  exact lv_istore hc.1 hc.2.1 hd hL.has hi rfl (fun ls' hv => k p l e s m args below meth c ad D ty H locs ls' hc hP hD hS (LH.set (v := .inl x) hv))
theorem ev_astore_n {i : Fin 4} {x : Cc} (hd : decode q.2.1 pc = .ok (.astore_n i, 1)) (hi : (i : Nat) < q.2.2.1) (hn : pc + 1 = np) (k : Ev S q np (stL ls i (.inr x)) st M Q) : Ev S q pc ls (.inr x :: st) M Q := by
  subst hn
  intro p l e s m args below meth c ad D ty H locs lsA hc hP hD hS hL
  exact lv_astore_n hc.1 hc.2.1 hd rfl hL.has hi rfl (fun ls' hv => k p l e s m args below meth c ad D ty H locs ls' hc hP hD hS (LH.set (v := .inr x) hv))
theorem ev_astore {i : Nat} {x : Cc} (hd : decode q.2.1 pc = .ok (.astore i, 2)) (hi : i < q.2.2.1) (hn : pc + 2 = np) (k : Ev S q np (stL ls i (.inr x)) st M Q) : Ev S q pc ls (.inr x :: st) M Q := by
  subst hn
  intro p l e s m args below meth c ad D ty H locs lsA hc hP hD hS hL
  exact lv_astore hc.1 hc.2.1 hd hL.has hi rfl (fun ls' hv => k p l e s m args below meth c ad D ty H locs ls' hc hP hD hS (LH.set (v := .inr x) hv))
theorem lvl_at {ad : Cc → Nat} {ls : List (Option Val)} {i : Nat} {v : Val} (h : lk ls i = some v) : ∃ k : Nat, (lvl ad ls)[k]? = some (i, cvv ad v) :=
  List.getElem?_of_mem (List.mem_filterMap.mpr ⟨i, List.mem_range.mpr (lk_lt _ _ _ h), by rw [h]; rfl⟩)
theorem ev_iinc {i : Nat} {n x : Int} (hd : decode q.2.1 pc = .ok (.iinc i n, 3)) (hl : lk ls i = some (.inl x)) (hi : i < q.2.2.1) (hn : pc + 3 = np) (k : Ev S q np (stL ls i (.inl (x + n))) st M Q) : Ev S q pc ls st M Q := by
  subst hn
  intro p l e s m args below meth c ad D ty H locs lsA hc hP hD hS hL
  obtain ⟨j, hj⟩ := lvl_at (ad := ad) hl
  exact lv_iinc hc.1 hc.2.1 hd hL.has hj (by rw [Int32.ofInt_add]) hi rfl (fun ls' hv => k p l e s m args below meth c ad D ty H locs ls' hc hP hD hS (LH.set (v := .inl (x + n)) hv))
theorem ev_iadd {x y : Int} (hd : decode q.2.1 pc = .ok (.iadd, 1)) (hn : pc + 1 = np) (k : Ev S q np ls (.inl (x + y) :: st) M Q) : Ev S q pc ls (.inl y :: .inl x :: st) M Q := by
  subst hn
  intro p l e s m args below meth c ad D ty H locs lsA hc hP hD hS hL
  have h := k p l e s m args below meth c ad D ty H locs lsA hc hP hD hS hL
  simp only [List.map_cons, cvv, Int32.ofInt_add] at h
  exact lv_iadd hc.1 hc.2.1 hd h
theorem ev_isub {x y : Int} (hd : decode q.2.1 pc = .ok (.isub, 1)) (hn : pc + 1 = np) (k : Ev S q np ls (.inl (x - y) :: st) M Q) : Ev S q pc ls (.inl y :: .inl x :: st) M Q := by
  subst hn
  intro p l e s m args below meth c ad D ty H locs lsA hc hP hD hS hL
  have h := k p l e s m args below meth c ad D ty H locs lsA hc hP hD hS hL
  simp only [List.map_cons, cvv, Int32.ofInt_sub] at h
  exact lv_isub hc.1 hc.2.1 hd h
theorem ev_imul {x y : Int} (hd : decode q.2.1 pc = .ok (.imul, 1)) (hn : pc + 1 = np) (k : Ev S q np ls (.inl (x * y) :: st) M Q) : Ev S q pc ls (.inl y :: .inl x :: st) M Q := by
  subst hn
  intro p l e s m args below meth c ad D ty H locs lsA hc hP hD hS hL
  have h := k p l e s m args below meth c ad D ty H locs lsA hc hP hD hS hL
  simp only [List.map_cons, cvv, Int32.ofInt_mul] at h
  exact lv_imul hc.1 hc.2.1 hd h
theorem ev_dup {x : Val} (hd : decode q.2.1 pc = .ok (.dup, 1)) (hn : pc + 1 = np) (k : Ev S q np ls (x :: x :: st) M Q) : Ev S q pc ls (x :: st) M Q := by
  subst hn
  intro p l e s m args below meth c ad D ty H locs lsA hc hP hD hS hL
  exact lv_dup hc.1 hc.2.1 hd (cvv_cat ad x) (k p l e s m args below meth c ad D ty H locs lsA hc hP hD hS hL)
theorem ev_dup2 {x y : Val} (hd : decode q.2.1 pc = .ok (.dup2, 1)) (hn : pc + 1 = np) (k : Ev S q np ls (x :: y :: x :: y :: st) M Q) : Ev S q pc ls (x :: y :: st) M Q := by
  subst hn
  intro p l e s m args below meth c ad D ty H locs lsA hc hP hD hS hL
  exact lv_dup2_11 hc.1 hc.2.1 hd (cvv_cat ad x) (cvv_cat ad y) (k p l e s m args below meth c ad D ty H locs lsA hc hP hD hS hL)
theorem i32_eq {x y : Int} (hx : Rng x) (hy : Rng y) : Int32.ofInt x = Int32.ofInt y ↔ x = y := by
  constructor
  · intro h
    have h2 := congrArg Int32.toInt h
    rwa [Int32.toInt_ofInt_of_le (by omega) (by omega), Int32.toInt_ofInt_of_le (by omega) (by omega)] at h2
  · rintro rfl; rfl
theorem i32_lt {x y : Int} (hx : Rng x) (hy : Rng y) : Int32.ofInt x < Int32.ofInt y ↔ x < y := by
  rw [Int32.lt_iff_toInt_lt, Int32.toInt_ofInt_of_le (by omega) (by omega), Int32.toInt_ofInt_of_le (by omega) (by omega)]
theorem i32_le {x y : Int} (hx : Rng x) (hy : Rng y) : Int32.ofInt x ≤ Int32.ofInt y ↔ x ≤ y := by
  rw [Int32.le_iff_toInt_le, Int32.toInt_ofInt_of_le (by omega) (by omega), Int32.toInt_ofInt_of_le (by omega) (by omega)]
theorem rng0 : Rng 0 := by unfold Rng; omega
theorem i32_toInt {x : Int} (hx : Rng x) : (Int32.ofInt x).toInt = x := Int32.toInt_ofInt_of_le (by omega) (by omega)

theorem ev_icmp_eq {x y : Int} {off : Int} {tgt : Nat} (hd : decode q.2.1 pc = .ok (.if_icmp .eq off, 3)) (ht : (pc : Int) + off = (tgt : Int)) (hn : pc + 3 = np) (hx : Rng x) (hy : Rng y) (kt : x = y → Ev S q tgt ls st M Q) (kf : ¬ x = y → Ev S q np ls st M Q) : Ev S q pc ls (.inl y :: .inl x :: st) M Q := by
  subst hn
  intro p l e s m args below meth c ad D ty H locs lsA hc hP hD hS hL
  exact lv_icmp_eq hc.1 hc.2.1 hd ht (fun h => kt ((i32_eq hx hy).mp h) p l e s m args below meth c ad D ty H locs lsA hc hP hD hS hL) (fun h => kf (fun h2 => h ((i32_eq hx hy).mpr h2)) p l e s m args below meth c ad D ty H locs lsA hc hP hD hS hL)
theorem ev_if_eq {x : Int} {off : Int} {tgt : Nat} (hd : decode q.2.1 pc = .ok (.ifCond .eq off, 3)) (ht : (pc : Int) + off = (tgt : Int)) (hn : pc + 3 = np) (hx : Rng x) (kt : x = 0 → Ev S q tgt ls st M Q) (kf : ¬ x = 0 → Ev S q np ls st M Q) : Ev S q pc ls (.inl x :: st) M Q := by
  subst hn
  intro p l e s m args below meth c ad D ty H locs lsA hc hP hD hS hL
  exact lv_if_eq hc.1 hc.2.1 hd ht (fun h => kt ((i32_eq hx rng0).mp h) p l e s m args below meth c ad D ty H locs lsA hc hP hD hS hL) (fun h => kf (fun h2 => h ((i32_eq hx rng0).mpr h2)) p l e s m args below meth c ad D ty H locs lsA hc hP hD hS hL)
theorem ev_icmp_ne {x y : Int} {off : Int} {tgt : Nat} (hd : decode q.2.1 pc = .ok (.if_icmp .ne off, 3)) (ht : (pc : Int) + off = (tgt : Int)) (hn : pc + 3 = np) (hx : Rng x) (hy : Rng y) (kt : ¬ x = y → Ev S q tgt ls st M Q) (kf : x = y → Ev S q np ls st M Q) : Ev S q pc ls (.inl y :: .inl x :: st) M Q := by
  subst hn
  intro p l e s m args below meth c ad D ty H locs lsA hc hP hD hS hL
  exact lv_icmp_ne hc.1 hc.2.1 hd ht (fun h => kt ((not_congr (i32_eq hx hy)).mp h) p l e s m args below meth c ad D ty H locs lsA hc hP hD hS hL) (fun h => kf ((i32_eq hx hy).mp h) p l e s m args below meth c ad D ty H locs lsA hc hP hD hS hL)
theorem ev_if_ne {x : Int} {off : Int} {tgt : Nat} (hd : decode q.2.1 pc = .ok (.ifCond .ne off, 3)) (ht : (pc : Int) + off = (tgt : Int)) (hn : pc + 3 = np) (hx : Rng x) (kt : ¬ x = 0 → Ev S q tgt ls st M Q) (kf : x = 0 → Ev S q np ls st M Q) : Ev S q pc ls (.inl x :: st) M Q := by
  subst hn
  intro p l e s m args below meth c ad D ty H locs lsA hc hP hD hS hL
  exact lv_if_ne hc.1 hc.2.1 hd ht (fun h => kt ((not_congr (i32_eq hx rng0)).mp h) p l e s m args below meth c ad D ty H locs lsA hc hP hD hS hL) (fun h => kf ((i32_eq hx rng0).mp h) p l e s m args below meth c ad D ty H locs lsA hc hP hD hS hL)
theorem ev_icmp_lt {x y : Int} {off : Int} {tgt : Nat} (hd : decode q.2.1 pc = .ok (.if_icmp .lt off, 3)) (ht : (pc : Int) + off = (tgt : Int)) (hn : pc + 3 = np) (hx : Rng x) (hy : Rng y) (kt : x < y → Ev S q tgt ls st M Q) (kf : ¬ x < y → Ev S q np ls st M Q) : Ev S q pc ls (.inl y :: .inl x :: st) M Q := by
  subst hn
  intro p l e s m args below meth c ad D ty H locs lsA hc hP hD hS hL
  exact lv_icmp_lt hc.1 hc.2.1 hd ht (fun h => kt ((i32_lt hx hy).mp h) p l e s m args below meth c ad D ty H locs lsA hc hP hD hS hL) (fun h => kf (fun h2 => h ((i32_lt hx hy).mpr h2)) p l e s m args below meth c ad D ty H locs lsA hc hP hD hS hL)
theorem ev_if_lt {x : Int} {off : Int} {tgt : Nat} (hd : decode q.2.1 pc = .ok (.ifCond .lt off, 3)) (ht : (pc : Int) + off = (tgt : Int)) (hn : pc + 3 = np) (hx : Rng x) (kt : x < 0 → Ev S q tgt ls st M Q) (kf : ¬ x < 0 → Ev S q np ls st M Q) : Ev S q pc ls (.inl x :: st) M Q := by
  subst hn
  intro p l e s m args below meth c ad D ty H locs lsA hc hP hD hS hL
  exact lv_if_lt hc.1 hc.2.1 hd ht (fun h => kt ((i32_lt hx rng0).mp h) p l e s m args below meth c ad D ty H locs lsA hc hP hD hS hL) (fun h => kf (fun h2 => h ((i32_lt hx rng0).mpr h2)) p l e s m args below meth c ad D ty H locs lsA hc hP hD hS hL)
theorem ev_icmp_ge {x y : Int} {off : Int} {tgt : Nat} (hd : decode q.2.1 pc = .ok (.if_icmp .ge off, 3)) (ht : (pc : Int) + off = (tgt : Int)) (hn : pc + 3 = np) (hx : Rng x) (hy : Rng y) (kt : x ≥ y → Ev S q tgt ls st M Q) (kf : ¬ x ≥ y → Ev S q np ls st M Q) : Ev S q pc ls (.inl y :: .inl x :: st) M Q := by
  subst hn
  intro p l e s m args below meth c ad D ty H locs lsA hc hP hD hS hL
  exact lv_icmp_ge hc.1 hc.2.1 hd ht (fun h => kt ((i32_le hy hx).mp h) p l e s m args below meth c ad D ty H locs lsA hc hP hD hS hL) (fun h => kf (fun h2 => h ((i32_le hy hx).mpr h2)) p l e s m args below meth c ad D ty H locs lsA hc hP hD hS hL)
theorem ev_if_ge {x : Int} {off : Int} {tgt : Nat} (hd : decode q.2.1 pc = .ok (.ifCond .ge off, 3)) (ht : (pc : Int) + off = (tgt : Int)) (hn : pc + 3 = np) (hx : Rng x) (kt : x ≥ 0 → Ev S q tgt ls st M Q) (kf : ¬ x ≥ 0 → Ev S q np ls st M Q) : Ev S q pc ls (.inl x :: st) M Q := by
  subst hn
  intro p l e s m args below meth c ad D ty H locs lsA hc hP hD hS hL
  exact lv_if_ge hc.1 hc.2.1 hd ht (fun h => kt ((i32_le rng0 hx).mp h) p l e s m args below meth c ad D ty H locs lsA hc hP hD hS hL) (fun h => kf (fun h2 => h ((i32_le rng0 hx).mpr h2)) p l e s m args below meth c ad D ty H locs lsA hc hP hD hS hL)
theorem ev_icmp_gt {x y : Int} {off : Int} {tgt : Nat} (hd : decode q.2.1 pc = .ok (.if_icmp .gt off, 3)) (ht : (pc : Int) + off = (tgt : Int)) (hn : pc + 3 = np) (hx : Rng x) (hy : Rng y) (kt : x > y → Ev S q tgt ls st M Q) (kf : ¬ x > y → Ev S q np ls st M Q) : Ev S q pc ls (.inl y :: .inl x :: st) M Q := by
  subst hn
  intro p l e s m args below meth c ad D ty H locs lsA hc hP hD hS hL
  exact lv_icmp_gt hc.1 hc.2.1 hd ht (fun h => kt ((i32_lt hy hx).mp h) p l e s m args below meth c ad D ty H locs lsA hc hP hD hS hL) (fun h => kf (fun h2 => h ((i32_lt hy hx).mpr h2)) p l e s m args below meth c ad D ty H locs lsA hc hP hD hS hL)
theorem ev_if_gt {x : Int} {off : Int} {tgt : Nat} (hd : decode q.2.1 pc = .ok (.ifCond .gt off, 3)) (ht : (pc : Int) + off = (tgt : Int)) (hn : pc + 3 = np) (hx : Rng x) (kt : x > 0 → Ev S q tgt ls st M Q) (kf : ¬ x > 0 → Ev S q np ls st M Q) : Ev S q pc ls (.inl x :: st) M Q := by
  subst hn
  intro p l e s m args below meth c ad D ty H locs lsA hc hP hD hS hL
  exact lv_if_gt hc.1 hc.2.1 hd ht (fun h => kt ((i32_lt rng0 hx).mp h) p l e s m args below meth c ad D ty H locs lsA hc hP hD hS hL) (fun h => kf (fun h2 => h ((i32_lt rng0 hx).mpr h2)) p l e s m args below meth c ad D ty H locs lsA hc hP hD hS hL)
theorem ev_icmp_le {x y : Int} {off : Int} {tgt : Nat} (hd : decode q.2.1 pc = .ok (.if_icmp .le off, 3)) (ht : (pc : Int) + off = (tgt : Int)) (hn : pc + 3 = np) (hx : Rng x) (hy : Rng y) (kt : x ≤ y → Ev S q tgt ls st M Q) (kf : ¬ x ≤ y → Ev S q np ls st M Q) : Ev S q pc ls (.inl y :: .inl x :: st) M Q := by
  subst hn
  intro p l e s m args below meth c ad D ty H locs lsA hc hP hD hS hL
  exact lv_icmp_le hc.1 hc.2.1 hd ht (fun h => kt ((i32_le hx hy).mp h) p l e s m args below meth c ad D ty H locs lsA hc hP hD hS hL) (fun h => kf (fun h2 => h ((i32_le hx hy).mpr h2)) p l e s m args below meth c ad D ty H locs lsA hc hP hD hS hL)
theorem ev_if_le {x : Int} {off : Int} {tgt : Nat} (hd : decode q.2.1 pc = .ok (.ifCond .le off, 3)) (ht : (pc : Int) + off = (tgt : Int)) (hn : pc + 3 = np) (hx : Rng x) (kt : x ≤ 0 → Ev S q tgt ls st M Q) (kf : ¬ x ≤ 0 → Ev S q np ls st M Q) : Ev S q pc ls (.inl x :: st) M Q := by
  subst hn
  intro p l e s m args below meth c ad D ty H locs lsA hc hP hD hS hL
  exact lv_if_le hc.1 hc.2.1 hd ht (fun h => kt ((i32_le hx rng0).mp h) p l e s m args below meth c ad D ty H locs lsA hc hP hD hS hL) (fun h => kf (fun h2 => h ((i32_le hx rng0).mpr h2)) p l e s m args below meth c ad D ty H locs lsA hc hP hD hS hL)
end RU
end
section

theorem iN {x : Int} (h : 0 ≤ x) : Int32.ofInt x = nI x.toNat := by
  conv => lhs; rw [← Int.toNat_of_nonneg h]
  exact Int32.ofInt_eq_ofNat
theorem iNn (n : Nat) : Int32.ofInt (n : Int) = nI n := Int32.ofInt_eq_ofNat
theorem fx_and (a b : Nat) : nI a &&& nI b = nI (a &&& b) := by
  apply Int32.toBitVec_inj.1
  show BitVec.ofNat 32 a &&& BitVec.ofNat 32 b = BitVec.ofNat 32 (a &&& b)
  apply BitVec.eq_of_getLsbD_eq
  intro i hi
  simp [hi]
theorem fx_or (a b : Nat) : nI a ||| nI b = nI (a ||| b) := by
  apply Int32.toBitVec_inj.1
  show BitVec.ofNat 32 a ||| BitVec.ofNat 32 b = BitVec.ofNat 32 (a ||| b)
  apply BitVec.eq_of_getLsbD_eq
  intro i hi
  simp [hi]
theorem fx_xor (a b : Nat) : nI a ^^^ nI b = nI (a ^^^ b) := by
  apply Int32.toBitVec_inj.1
  show BitVec.ofNat 32 a ^^^ BitVec.ofNat 32 b = BitVec.ofNat 32 (a ^^^ b)
  apply BitVec.eq_of_getLsbD_eq
  intro i hi
  simp [hi]
theorem fx_tn (x : Int) : (Int32.ofInt x).toBitVec.toNat = (x % 4294967296).toNat := by
  show (BitVec.ofInt 32 x).toNat = _
  rw [BitVec.toNat_ofInt]
  rfl
theorem fx_inj {x y : Int32} (h : x.toBitVec.toNat = y.toBitVec.toNat) : x = y := Int32.toBitVec_inj.1 (BitVec.eq_of_toNat_eq h)
theorem fx_mask (x : Int) (k : Nat) (hk : k ≤ 31) : Int32.ofInt x &&& Int32.ofInt ((2 ^ k - 1 : Nat) : Int) = Int32.ofInt (x % (2 ^ k : Nat)) := by
  apply fx_inj
  rw [Int32.toBitVec_and, BitVec.toNat_and, fx_tn, fx_tn, fx_tn]
  have hp : (2 : Nat) ^ k ≤ 2 ^ 31 := Nat.pow_le_pow_right (by decide) hk
  have h2 : (2 : Nat) ^ 31 = 2147483648 := rfl
  have h1 : 0 < (2 : Nat) ^ k := Nat.two_pow_pos k
  have e1 : (((2 ^ k - 1 : Nat) : Int) % 4294967296).toNat = 2 ^ k - 1 := by omega
  rw [e1, Nat.and_two_pow_sub_one_eq_mod]
  obtain ⟨d, hd⟩ : ∃ d, (4294967296 : Nat) = 2 ^ k * d := ⟨2 ^ (32 - k), by rw [← Nat.pow_add, show k + (32 - k) = 32 by omega]⟩
  have e2 : x % 4294967296 % ((2 ^ k : Nat) : Int) = x % ((2 ^ k : Nat) : Int) := by
    have : (4294967296 : Int) = ((2 ^ k : Nat) : Int) * (d : Int) := by rw [← Int.natCast_mul, ← hd]; rfl
    rw [this]
    exact Int.emod_emod_of_dvd _ (Int.dvd_mul_right _ _)
  have n1 : 0 ≤ x % 4294967296 := Int.emod_nonneg _ (by decide)
  have n2 : 0 ≤ x % ((2 ^ k : Nat) : Int) := Int.emod_nonneg _ (by omega)
  have n3 : x % ((2 ^ k : Nat) : Int) < ((2 ^ k : Nat) : Int) := Int.emod_lt_of_pos _ (by omega)
  rw [Int.emod_eq_of_lt (a := x % ((2 ^ k : Nat) : Int)) n2 (by omega)]
  have e3 : (((x % 4294967296).toNat % 2 ^ k : Nat) : Int) = x % ((2 ^ k : Nat) : Int) := by
    rw [Int.natCast_emod, Int.toNat_of_nonneg n1, e2]
  omega
theorem fx_cl : ∀ n : Fin 32, ((Int32.ofInt (n.val : Int) &&& 31).toBitVec.smod 32).toNat = n.val := by decide +kernel
theorem fx_cu : ∀ n : Fin 32, (((Int32.ofInt (n.val : Int)).toUInt32 &&& Int32.toUInt32 31).toBitVec % 32).toNat = n.val := by decide +kernel
theorem fx_cl' {y : Int} (h : 0 ≤ y ∧ y < 32) : ((Int32.ofInt y &&& 31).toBitVec.smod 32).toNat = y.toNat := by
  have := fx_cl ⟨y.toNat, by omega⟩
  simpa [Int.toNat_of_nonneg h.1] using this
theorem fx_cu' {y : Int} (h : 0 ≤ y ∧ y < 32) : (((Int32.ofInt y).toUInt32 &&& Int32.toUInt32 31).toBitVec % 32).toNat = y.toNat := by
  have := fx_cu ⟨y.toNat, by omega⟩
  simpa [Int.toNat_of_nonneg h.1] using this
theorem fx_shl (x : Int) {y : Int} (h : 0 ≤ y ∧ y < 32) : Int32.ofInt x <<< (Int32.ofInt y &&& 31) = Int32.ofInt (x * (2 ^ y.toNat : Nat)) := by
  apply fx_inj
  rw [pk_shl _ _ _ (fx_cl' h), fx_tn, fx_tn]
  have n1 : 0 ≤ x % 4294967296 := Int.emod_nonneg _ (by decide)
  have n2 : 0 ≤ (x * ((2 ^ y.toNat : Nat) : Int)) % 4294967296 := Int.emod_nonneg _ (by decide)
  have e : ((((x % 4294967296).toNat * 2 ^ y.toNat) % 2 ^ 32 : Nat) : Int) = (x * ((2 ^ y.toNat : Nat) : Int)) % 4294967296 := by
    rw [Int.natCast_emod, Int.natCast_mul, Int.toNat_of_nonneg n1, show ((2 ^ 32 : Nat) : Int) = 4294967296 from rfl, Int.mul_emod, Int.emod_emod, ← Int.mul_emod]
  omega
theorem fx_shr {x y : Int} (hx : Rng x) (h : 0 ≤ y ∧ y < 32) : Int32.ofInt x >>> (Int32.ofInt y &&& 31) = Int32.ofInt (x / (2 ^ y.toNat : Nat)) := by
  apply Int32.toInt_inj.mp
  have hp : 0 < (2 : Nat) ^ y.toNat := Nat.two_pow_pos _
  rw [pk_shr _ _ _ (fx_cl' h), i32_toInt hx, Int.shiftRight_eq_div_pow]
  have hp1 : (1 : Int) ≤ ((2 ^ y.toNat : Nat) : Int) := by omega
  generalize ((2 ^ y.toNat : Nat) : Int) = P at hp1 ⊢
  have b1 : -2147483648 ≤ x / P := Int.le_ediv_of_mul_le (by omega) (by have := hx.1; omega)
  have b2 : x / P < 2147483648 := Int.ediv_lt_of_lt_mul (by omega) (by have := hx.2; omega)
  rw [i32_toInt ⟨b1, b2⟩]
theorem fx_ushr {x y : Int} (h : 0 ≤ y ∧ y < 32) : ((Int32.ofInt x).toUInt32 >>> ((Int32.ofInt y).toUInt32 &&& Int32.toUInt32 31)).toInt32 = Int32.ofInt ((x % 4294967296) / (2 ^ y.toNat : Nat)) := by
  apply fx_inj
  rw [pk_ushr _ _ _ (fx_cu' h), fx_tn, fx_tn]
  have hp : 0 < (2 : Nat) ^ y.toNat := Nat.two_pow_pos _
  have n1 : 0 ≤ x % 4294967296 := Int.emod_nonneg _ (by decide)
  have n2 : x % 4294967296 < 4294967296 := Int.emod_lt_of_pos _ (by decide)
  have e : (((x % 4294967296).toNat / 2 ^ y.toNat : Nat) : Int) = (x % 4294967296) / ((2 ^ y.toNat : Nat) : Int) := by
    rw [Int.natCast_ediv, Int.toNat_of_nonneg n1]
  have hd : (x % 4294967296).toNat / 2 ^ y.toNat ≤ (x % 4294967296).toNat := Nat.div_le_self _ _
  rw [← e]
  generalize (x % 4294967296).toNat / 2 ^ y.toNat = g at hd ⊢
  omega
theorem fx_neg1 (x : Int) : Int32.ofInt x ^^^ (-1) = Int32.ofInt (-x - 1) := by
  have h1 : Int32.ofInt x ^^^ (-1) = ~~~ (Int32.ofInt x) := by
    apply Int32.toBitVec_inj.1
    show (Int32.ofInt x).toBitVec ^^^ BitVec.allOnes 32 = ~~~ (Int32.ofInt x).toBitVec
    rw [BitVec.xor_allOnes]
  rw [h1]
  have h2 : ~~~ (Int32.ofInt x) = - Int32.ofInt x - 1 := by
    apply Int32.toBitVec_inj.1
    show ~~~ (Int32.ofInt x).toBitVec = - (Int32.ofInt x).toBitVec - 1#32
    rw [BitVec.neg_eq_not_add, BitVec.add_sub_cancel]
  rw [h2, Int32.ofInt_sub, Int32.ofInt_neg]
  rfl
theorem fx_andnot {a b : Nat} (ha : a < 2147483648) (hb : b < 2147483648) : Int32.ofInt (a : Int) &&& Int32.ofInt (-(b : Int) - 1) = Int32.ofInt ((a - (a &&& b) : Nat) : Int) := by
  rw [← fx_neg1, iNn, iNn, iNn]
  apply fx_inj
  have t1 : ∀ n, n < 2147483648 → (nI n).toBitVec.toNat = n := fun n h => pk_tn (by omega)
  have hab : a &&& b ≤ a := Nat.and_le_left
  rw [t1 (a - (a &&& b)) (by omega)]
  have e : nI b ^^^ (-1) = ~~~ (nI b) := by
    apply Int32.toBitVec_inj.1
    show (nI b).toBitVec ^^^ BitVec.allOnes 32 = ~~~ (nI b).toBitVec
    rw [BitVec.xor_allOnes]
  rw [e, Int32.toBitVec_and, Int32.toBitVec_not]
  have hs : (nI a).toBitVec &&& ~~~ (nI b).toBitVec = (nI a).toBitVec - ((nI a).toBitVec &&& (nI b).toBitVec) := by
    have h5 : ((nI a).toBitVec &&& (nI b).toBitVec) + ((nI a).toBitVec &&& ~~~ (nI b).toBitVec) = (nI a).toBitVec := by
      rw [BitVec.add_eq_or_of_and_eq_zero]
      · apply BitVec.eq_of_getLsbD_eq
        intro i hi
        simp [hi]
        cases (nI a).toBitVec[i] <;> cases (nI b).toBitVec[i] <;> rfl
      · apply BitVec.eq_of_getLsbD_eq
        intro i hi
        simp [hi]
        cases (nI a).toBitVec[i] <;> cases (nI b).toBitVec[i] <;> simp
    generalize (nI a).toBitVec &&& ~~~ (nI b).toBitVec = X at h5 ⊢
    generalize (nI a).toBitVec &&& (nI b).toBitVec = Y at h5 ⊢
    rw [← h5, BitVec.add_comm, BitVec.add_sub_cancel]
  rw [hs, BitVec.toNat_sub_of_le, BitVec.toNat_and, t1 a ha, t1 b hb]
  rw [BitVec.le_def, BitVec.toNat_and, t1 a ha, t1 b hb]
  exact hab
end
section
section RV
variable {S : Sy} {q : MI} {pc np : Nat} {ls : List (Option Val)} {st : List Val} {M : Mem} {Q : Option Val → Mem → Prop}
theorem ev_idiv {x y : Int} (hd : decode q.2.1 pc = .ok (.idiv, 1)) (hx : 0 ≤ x ∧ x < 2147483648) (hy : 0 < y ∧ y < 2147483648) (hn : pc + 1 = np) (k : Ev S q np ls (.inl (x / y) :: st) M Q) : Ev S q pc ls (.inl y :: .inl x :: st) M Q := by
  subst hn
  intro p l e s m args below meth c ad D ty H locs lsA hc hP hD hS hL
  have h := k p l e s m args below meth c ad D ty H locs lsA hc hP hD hS hL
  obtain ⟨a, rfl⟩ := Int.eq_ofNat_of_zero_le hx.1
  obtain ⟨b, rfl⟩ := Int.eq_ofNat_of_zero_le (Int.le_of_lt hy.1)
  simp only [List.map_cons, cvv] at h ⊢
  rw [← Int.natCast_ediv, iNn, ← pk_div (by omega) (by omega) (by omega)] at h
  rw [iNn, iNn]
  exact lv_idiv hc.1 hc.2.1 hd (nI_ne0 (by omega) (by omega)) h
theorem ev_irem {x y : Int} (hd : decode q.2.1 pc = .ok (.irem, 1)) (hx : 0 ≤ x ∧ x < 2147483648) (hy : 0 < y ∧ y < 2147483648) (hn : pc + 1 = np) (k : Ev S q np ls (.inl (x % y) :: st) M Q) : Ev S q pc ls (.inl y :: .inl x :: st) M Q := by
  subst hn
  intro p l e s m args below meth c ad D ty H locs lsA hc hP hD hS hL
  have h := k p l e s m args below meth c ad D ty H locs lsA hc hP hD hS hL
  obtain ⟨a, rfl⟩ := Int.eq_ofNat_of_zero_le hx.1
  obtain ⟨b, rfl⟩ := Int.eq_ofNat_of_zero_le (Int.le_of_lt hy.1)
  simp only [List.map_cons, cvv] at h ⊢
  rw [← Int.natCast_emod, iNn, ← pk_rem (by omega) (by omega) (by omega)] at h
  rw [iNn, iNn]
  exact lv_irem hc.1 hc.2.1 hd (nI_ne0 (by omega) (by omega)) h
theorem ev_iand {x y : Int} (hd : decode q.2.1 pc = .ok (.iand, 1)) (hx : 0 ≤ x) (hy : 0 ≤ y) (hn : pc + 1 = np) (k : Ev S q np ls (.inl ((x.toNat &&& y.toNat : Nat) : Int) :: st) M Q) : Ev S q pc ls (.inl y :: .inl x :: st) M Q := by
  subst hn
  intro p l e s m args below meth c ad D ty H locs lsA hc hP hD hS hL
  have h := k p l e s m args below meth c ad D ty H locs lsA hc hP hD hS hL
  simp only [List.map_cons, cvv, iNn, ← fx_and] at h ⊢
  rw [iN hx, iN hy]
  exact lv_iand hc.1 hc.2.1 hd h
/-- x & (2^k - 1) -/
theorem ev_iandm (j : Nat) {x y : Int} (hd : decode q.2.1 pc = .ok (.iand, 1)) (hj : j ≤ 31) (hy : y = ((2 ^ j - 1 : Nat) : Int)) (hn : pc + 1 = np) (k : Ev S q np ls (.inl (x % (2 ^ j : Nat)) :: st) M Q) : Ev S q pc ls (.inl y :: .inl x :: st) M Q := by
  subst hn; subst hy
  intro p l e s m args below meth c ad D ty H locs lsA hc hP hD hS hL
  have h := k p l e s m args below meth c ad D ty H locs lsA hc hP hD hS hL
  simp only [List.map_cons, cvv, ← fx_mask x j hj] at h ⊢
  exact lv_iand hc.1 hc.2.1 hd h
/-- x & ~y -/
theorem ev_iandn {x y : Int} (hd : decode q.2.1 pc = .ok (.iand, 1)) (hx : 0 ≤ x ∧ x < 2147483648) (hy : 0 ≤ y ∧ y < 2147483648) (hn : pc + 1 = np) (k : Ev S q np ls (.inl ((x.toNat - (x.toNat &&& y.toNat) : Nat) : Int) :: st) M Q) : Ev S q pc ls (.inl (-y - 1) :: .inl x :: st) M Q := by
  subst hn
  intro p l e s m args below meth c ad D ty H locs lsA hc hP hD hS hL
  have h := k p l e s m args below meth c ad D ty H locs lsA hc hP hD hS hL
  simp only [List.map_cons, cvv] at h ⊢
  rw [← fx_andnot (by omega) (by omega), Int.toNat_of_nonneg hx.1, Int.toNat_of_nonneg hy.1] at h
  exact lv_iand hc.1 hc.2.1 hd h
theorem ev_ior {x y : Int} (hd : decode q.2.1 pc = .ok (.ior, 1)) (hx : 0 ≤ x) (hy : 0 ≤ y) (hn : pc + 1 = np) (k : Ev S q np ls (.inl ((x.toNat ||| y.toNat : Nat) : Int) :: st) M Q) : Ev S q pc ls (.inl y :: .inl x :: st) M Q := by
  subst hn
  intro p l e s m args below meth c ad D ty H locs lsA hc hP hD hS hL
  have h := k p l e s m args below meth c ad D ty H locs lsA hc hP hD hS hL
  simp only [List.map_cons, cvv, iNn, ← fx_or] at h ⊢
  rw [iN hx, iN hy]
  exact lv_ior hc.1 hc.2.1 hd h
theorem ev_ixor {x y : Int} (hd : decode q.2.1 pc = .ok (.ixor, 1)) (hx : 0 ≤ x) (hy : 0 ≤ y) (hn : pc + 1 = np) (k : Ev S q np ls (.inl ((x.toNat ^^^ y.toNat : Nat) : Int) :: st) M Q) : Ev S q pc ls (.inl y :: .inl x :: st) M Q := by
  subst hn
  intro p l e s m args below meth c ad D ty H locs lsA hc hP hD hS hL
  have h := k p l e s m args below meth c ad D ty H locs lsA hc hP hD hS hL
  simp only [List.map_cons, cvv, iNn, ← fx_xor] at h ⊢
  rw [iN hx, iN hy]
  exact lv_ixor hc.1 hc.2.1 hd h
theorem ev_inot {x : Int} (hd : decode q.2.1 pc = .ok (.ixor, 1)) (hn : pc + 1 = np) (k : Ev S q np ls (.inl (-x - 1) :: st) M Q) : Ev S q pc ls (.inl (-1) :: .inl x :: st) M Q := by
  subst hn
  intro p l e s m args below meth c ad D ty H locs lsA hc hP hD hS hL
  have h := k p l e s m args below meth c ad D ty H locs lsA hc hP hD hS hL
  simp only [List.map_cons, cvv, ← fx_neg1] at h ⊢
  exact lv_ixor hc.1 hc.2.1 hd h
theorem ev_ishl {x y : Int} (hd : decode q.2.1 pc = .ok (.ishl, 1)) (hy : 0 ≤ y ∧ y < 32) (hn : pc + 1 = np) (k : Ev S q np ls (.inl (x * (2 ^ y.toNat : Nat)) :: st) M Q) : Ev S q pc ls (.inl y :: .inl x :: st) M Q := by
  subst hn
  intro p l e s m args below meth c ad D ty H locs lsA hc hP hD hS hL
  have h := k p l e s m args below meth c ad D ty H locs lsA hc hP hD hS hL
  simp only [List.map_cons, cvv, ← fx_shl x hy] at h ⊢
  exact lv_ishl hc.1 hc.2.1 hd h
theorem ev_ishr {x y : Int} (hd : decode q.2.1 pc = .ok (.ishr, 1)) (hx : Rng x) (hy : 0 ≤ y ∧ y < 32) (hn : pc + 1 = np) (k : Ev S q np ls (.inl (x / (2 ^ y.toNat : Nat)) :: st) M Q) : Ev S q pc ls (.inl y :: .inl x :: st) M Q := by
  subst hn
  intro p l e s m args below meth c ad D ty H locs lsA hc hP hD hS hL
  have h := k p l e s m args below meth c ad D ty H locs lsA hc hP hD hS hL
  simp only [List.map_cons, cvv, ← fx_shr hx hy] at h ⊢
  exact lv_ishr hc.1 hc.2.1 hd h
theorem ev_iushrU {x y : Int} (hd : decode q.2.1 pc = .ok (.iushr, 1)) (hy : 0 ≤ y ∧ y < 32) (hn : pc + 1 = np) (k : Ev S q np ls (.inl ((x % 4294967296) / (2 ^ y.toNat : Nat)) :: st) M Q) : Ev S q pc ls (.inl y :: .inl x :: st) M Q := by
  subst hn
  intro p l e s m args below meth c ad D ty H locs lsA hc hP hD hS hL
  have h := k p l e s m args below meth c ad D ty H locs lsA hc hP hD hS hL
  simp only [List.map_cons, cvv] at h ⊢
  exact lv_iushr hc.1 hc.2.1 hd (fx_ushr hy) h
theorem ev_iushr {x y : Int} (hd : decode q.2.1 pc = .ok (.iushr, 1)) (hx : 0 ≤ x ∧ x < 2147483648) (hy : 0 ≤ y ∧ y < 32) (hn : pc + 1 = np) (k : Ev S q np ls (.inl (x / (2 ^ y.toNat : Nat)) :: st) M Q) : Ev S q pc ls (.inl y :: .inl x :: st) M Q :=
  ev_iushrU hd hy hn (by rw [Int.emod_eq_of_lt hx.1 (by omega)]; exact k)
theorem ev_i2c {x : Int} (hd : decode q.2.1 pc = .ok (.i2c, 1)) (hx : 0 ≤ x ∧ x < 65536) (hn : pc + 1 = np) (k : Ev S q np ls (.inl x :: st) M Q) : Ev S q pc ls (.inl x :: st) M Q := by
  subst hn
  intro p l e s m args below meth c ad D ty H locs lsA hc hP hD hS hL
  refine lv_i2c hc.1 hc.2.1 hd ?_ (k p l e s m args below meth c ad D ty H locs lsA hc hP hD hS hL)
  rw [pk_char, fx_tn, iN hx.1]
  congr 1
  omega
theorem ev_iret {v : Int} (hd : decode q.2.1 pc = .ok (.ireturn, 1)) (hr : q.2.2.2.1 = some .int) (hq : Q (some (.inl v)) M) : Ev S q pc ls [.inl v] M Q := by
  intro p l e s m args below meth c ad D ty H locs lsA hc hP hD hS hL
  exact W.iret (v := Int32.ofInt v) hc.1 hc.2.1 (hc.2.2.1.trans hr) (fun t ht hW => ⟨⟨some (.inl v), M, rfl, hq, by rw [ht]; exact hP⟩, hS.F ht⟩) hS.2.2 hd hc.2.2.2.2.2.2.1
theorem ev_zret {v : Int} (hd : decode q.2.1 pc = .ok (.ireturn, 1)) (hr : q.2.2.2.1 = some .boolean) (hv : v = 0 ∨ v = 1) (hq : Q (some (.inl v)) M) : Ev S q pc ls [.inl v] M Q := by
  intro p l e s m args below meth c ad D ty H locs lsA hc hP hD hS hL
  exact W.zret (v := Int32.ofInt v) hc.1 hc.2.1 (hc.2.2.1.trans hr) (by rcases hv with rfl | rfl <;> rfl) (fun t ht hW => ⟨⟨some (.inl v), M, rfl, hq, by rw [ht]; exact hP⟩, hS.F ht⟩) hS.2.2 hd hc.2.2.2.2.2.2.1
theorem ev_vret (hd : decode q.2.1 pc = .ok (.return_, 1)) (hr : q.2.2.2.1 = none) (hq : Q none M) : Ev S q pc ls [] M Q := by
  intro p l e s m args below meth c ad D ty H locs lsA hc hP hD hS hL
  exact W.vret hc.1 hc.2.1 (hc.2.2.1.trans hr) (fun t ht hW => ⟨⟨none, M, rfl, hq, by rw [ht]; exact hP⟩, hS.F ht⟩) hS.2.2 hd hc.2.2.2.2.2.2.1
theorem ev_aret {v : Cc} {n : String} (hd : decode q.2.1 pc = .ok (.areturn, 1)) (hr : q.2.2.2.1 = some (.object n)) (hq : Q (some (.inr v)) M) : Ev S q pc ls [.inr v] M Q := by
  intro p l e s m args below meth c ad D ty H locs lsA hc hP hD hS hL
  exact W.aret (v := .ref (ad v)) hc.1 hc.2.1 (hc.2.2.1.trans hr) (Or.inl ⟨n, rfl⟩) (Or.inr ⟨_, rfl⟩) (fun t ht hW => ⟨⟨some (.inr v), M, rfl, hq, by rw [ht]; exact hP⟩, hS.F ht⟩) hS.2.2 hd hc.2.2.2.2.2.2.1
-- switches
theorem ev_swIn {dflt lo hi : Int} {offs : Array Int} {len : Nat} {x : Int} {off : Int} (hd : decode q.2.1 pc = .ok (.tableswitch dflt lo hi offs, len)) (hx : Rng x) (h1 : lo ≤ x ∧ x ≤ hi) (ho : offs[(x - lo).toNat]? = some off) (ht : (pc : Int) + off = (np : Int)) (k : Ev S q np ls st M Q) : Ev S q pc ls (.inl x :: st) M Q := by
  intro p l e s m args below meth c ad D ty H locs lsA hc hP hD hS hL
  exact lv_tableIn hc.1 hc.2.1 hd (by rw [i32_toInt hx]; omega) (by rw [i32_toInt hx]; omega) (by rw [i32_toInt hx]; exact ho) ht (k p l e s m args below meth c ad D ty H locs lsA hc hP hD hS hL)
theorem ev_swOut {dflt lo hi : Int} {offs : Array Int} {len : Nat} {x : Int} (hd : decode q.2.1 pc = .ok (.tableswitch dflt lo hi offs, len)) (hx : Rng x) (h1 : x < lo ∨ hi < x) (ht : (pc : Int) + dflt = (np : Int)) (k : Ev S q np ls st M Q) : Ev S q pc ls (.inl x :: st) M Q := by
  intro p l e s m args below meth c ad D ty H locs lsA hc hP hD hS hL
  exact lv_tableOut hc.1 hc.2.1 hd (by rw [i32_toInt hx]; exact h1) ht (k p l e s m args below meth c ad D ty H locs lsA hc hP hD hS hL)
theorem ev_lsw {dflt : Int} {ps : Array (Int × Int)} {len : Nat} {x off : Int} (hd : decode q.2.1 pc = .ok (.lookupswitch dflt ps, len)) (hx : Rng x) (hp : (ps.toList.zip (ps.toList.drop 1)).all (fun (a, next) => a.1 < next.1) = true) (ho : Op.lookupswitch.offset ps.toList dflt x = off) (ht : (pc : Int) + off = (np : Int)) (k : Ev S q np ls st M Q) : Ev S q pc ls (.inl x :: st) M Q := by
  intro p l e s m args below meth c ad D ty H locs lsA hc hP hD hS hL
  exact lv_lookup hc.1 hc.2.1 hd hp (by rw [i32_toInt hx]; exact ho) ht (k p l e s m args below meth c ad D ty H locs lsA hc hP hD hS hL)
-- arrays
theorem arr_at {c0 : Cc} {b : Bool} {n : Nat} {ad : Cc → Nat} {ty : Bool → ClassId} {k : Nat} (hs : S.1 c0 = some (.inl (b, n))) (hk : S.2[k]? = some c0) : (wl S ad ty M)[k]? = some (ad c0, .inl (ty b, n, .inl (fun j => Int32.ofInt (M c0 j)))) := by
  rw [wl_at hk, hs]; rfl
theorem tys_at (ty : Bool → ClassId) (b : Bool) : ∃ t0 : Nat, ([(ty false, .int), (ty true, .char)] : List (ClassId × FieldType))[t0]? = some (ty b, if b then .char else .int) := by
  cases b
  · exact ⟨0, rfl⟩
  · exact ⟨1, rfl⟩
theorem vp_inI {i : Int} {n : Nat} (hi : 0 ≤ i ∧ i < (n : Int)) (h2 : i < 2147483648) : vp_in (Int32.ofInt i) n ∧ (Int32.ofInt i).toNatClampNeg = i.toNat := by
  rw [iN hi.1]
  refine ⟨?_, nI_clamp (by omega)⟩
  unfold vp_in
  rw [nI_clamp (by omega)]
  rintro (h | h)
  · exact nI_pos (by omega) h
  · omega
theorem ev_alen {c0 : Cc} {b : Bool} {n : Nat} (hd : decode q.2.1 pc = .ok (.arraylength, 1)) (hs : S.1 c0 = some (.inl (b, n))) (hn : pc + 1 = np) (k : Ev S q np ls (.inl (n : Int) :: st) M Q) : Ev S q pc ls (.inr c0 :: st) M Q := by
  subst hn
  intro p l e s m args below meth c ad D ty H locs lsA hc hP hD hS hL
  obtain ⟨j, hj⟩ := wl_ix hc.2.2.2.2.2.2.2.2.2 hs
  obtain ⟨t0, ht⟩ := tys_at ty b
  exact va_alen hc.1 hc.2.1 hc.2.2.2.2.2.2.2.1 hP j t0 (arr_at hs hj) ht (iNn n).symm hd (k p l e s m args below meth c ad D ty H locs lsA hc hP hD hS hL)
theorem ev_iaload {c0 : Cc} {n : Nat} {i : Int} (hd : decode q.2.1 pc = .ok (.iaload, 1)) (hs : S.1 c0 = some (.inl (false, n))) (hi : 0 ≤ i ∧ i < (n : Int)) (h2 : i < 2147483648) (hn : pc + 1 = np) (k : Ev S q np ls (.inl (M c0 i.toNat) :: st) M Q) : Ev S q pc ls (.inl i :: .inr c0 :: st) M Q := by
  subst hn
  intro p l e s m args below meth c ad D ty H locs lsA hc hP hD hS hL
  obtain ⟨j, hj⟩ := wl_ix hc.2.2.2.2.2.2.2.2.2 hs
  obtain ⟨g1, g2⟩ := vp_inI hi h2
  have h := k p l e s m args below meth c ad D ty H locs lsA hc hP hD hS hL
  simp only [List.map_cons, cvv, ← g2] at h ⊢
  exact va_iald hc.1 hc.2.1 hc.2.2.2.2.2.2.2.1 hP j 0 (arr_at hs hj) rfl g1 hd h
theorem ev_caload {c0 : Cc} {n : Nat} {i : Int} (hd : decode q.2.1 pc = .ok (.caload, 1)) (hs : S.1 c0 = some (.inl (true, n))) (hi : 0 ≤ i ∧ i < (n : Int)) (h2 : i < 2147483648) (hn : pc + 1 = np) (k : Ev S q np ls (.inl (M c0 i.toNat) :: st) M Q) : Ev S q pc ls (.inl i :: .inr c0 :: st) M Q := by
  subst hn
  intro p l e s m args below meth c ad D ty H locs lsA hc hP hD hS hL
  obtain ⟨j, hj⟩ := wl_ix hc.2.2.2.2.2.2.2.2.2 hs
  obtain ⟨g1, g2⟩ := vp_inI hi h2
  have h := k p l e s m args below meth c ad D ty H locs lsA hc hP hD hS hL
  simp only [List.map_cons, cvv, ← g2] at h ⊢
  exact va_cald hc.1 hc.2.1 hc.2.2.2.2.2.2.2.1 hP j 1 (arr_at hs hj) rfl g1 hd h
theorem updM_same (M : Mem) (c : Cc) (k : Nat) (v : Int) : updM M c k v c k = v := by simp [updM]
theorem upd_eq {c0 : Cc} {i v : Int} : upd (fun j => Int32.ofInt (M c0 j)) i.toNat (Int32.ofInt v) = fun j => Int32.ofInt (updM M c0 i.toNat v c0 j) := by
  funext j
  by_cases h : j = i.toNat <;> simp [upd, updM, h]
theorem ev_iastore {c0 : Cc} {n : Nat} {i v : Int} (hd : decode q.2.1 pc = .ok (.iastore, 1)) (hs : S.1 c0 = some (.inl (false, n))) (hi : 0 ≤ i ∧ i < (n : Int)) (h2 : i < 2147483648) (hn : pc + 1 = np) (k : Ev S q np ls st (updM M c0 i.toNat v) Q) : Ev S q pc ls (.inl v :: .inl i :: .inr c0 :: st) M Q := by
  subst hn
  intro p l e s m args below meth c ad D ty H locs lsA hc hP hD hS hL
  obtain ⟨j, hj⟩ := wl_ix hc.2.2.2.2.2.2.2.2.2 hs
  obtain ⟨g1, g2⟩ := vp_inI hi h2
  refine va_iast hc.1 hc.2.1 hc.2.2.2.2.2.2.2.1 hP hD hS j 0 (arr_at hs hj) rfl g1 hd (fun H1 locs1 hP1 hD1 hS1 => ?_)
  rw [wl_set hc.2.2.2.2.2.2.2.2.2 (M' := updM M c0 i.toNat v) hj (fun d hd => enS_upd d hd) (by rw [hs, g2, upd_eq]; rfl)] at hP1 hD1
  exact k p l e s m args below meth c ad D ty H1 locs1 lsA hc hP1 hD1 hS1 hL
theorem ev_castore {c0 : Cc} {n : Nat} {i v : Int} (hd : decode q.2.1 pc = .ok (.castore, 1)) (hs : S.1 c0 = some (.inl (true, n))) (hi : 0 ≤ i ∧ i < (n : Int)) (h2 : i < 2147483648) (hv : 0 ≤ v ∧ v < 65536) (hn : pc + 1 = np) (k : Ev S q np ls st (updM M c0 i.toNat v) Q) : Ev S q pc ls (.inl v :: .inl i :: .inr c0 :: st) M Q := by
  subst hn
  intro p l e s m args below meth c ad D ty H locs lsA hc hP hD hS hL
  obtain ⟨j, hj⟩ := wl_ix hc.2.2.2.2.2.2.2.2.2 hs
  obtain ⟨g1, g2⟩ := vp_inI hi h2
  have hz : vp_nar .char (Int32.ofInt v) = Int32.ofInt v := by
    rw [iN hv.1]
    unfold vp_nar
    rw [(pk_charN (by omega)).1]
  refine va_cast hc.1 hc.2.1 hc.2.2.2.2.2.2.2.1 hP hD hS j 1 (arr_at hs hj) rfl g1 hd (fun H1 locs1 hP1 hD1 hS1 => ?_)
  rw [hz, wl_set hc.2.2.2.2.2.2.2.2.2 (M' := updM M c0 i.toNat v) hj (fun d hd => enS_upd d hd) (by rw [hs, g2, upd_eq]; rfl)] at hP1 hD1
  exact k p l e s m args below meth c ad D ty H1 locs1 lsA hc hP1 hD1 hS1 hL
-- fields
def SiteG (q : MI) (pc ci k : Nat) : Prop := ∃ (K : String) (T : u_T) (N idx : Nat), vwCl[ci]? = some (K, T, N) ∧ k < N ∧ (∀ w ∈ u_ws K T N, w ∈ TBL) ∧ Cond.fieldLink q.1.cls idx (T k).1 (T k).2.1 (T k).2.2.1 ∈ TBL ∧ decode q.2.1 pc = .ok (.getfield idx, 3)
def SiteP (q : MI) (pc ci k : Nat) : Prop := ∃ (K : String) (T : u_T) (N idx : Nat) (ty0 : Nat → FieldType), vwCl[ci]? = some (K, T, N) ∧ k < N ∧ (∀ w ∈ u_ws K T N, w ∈ TBL) ∧ Cond.fieldLink q.1.cls idx (T k).1 (T k).2.1 (T k).2.2.1 ∈ TBL ∧ decode q.2.1 pc = .ok (.putfield idx, 3) ∧ (∀ k, k < N → parseFieldDescriptor (T k).2.2.1 = some (ty0 k)) ∧ (∀ a, a < N → ∀ b, b < N → a ≠ b → (T a).2.1 ≠ (T b).2.1) ∧ (T k).2.2.2 = false ∧ ty0 k = .int
theorem obj_at {c0 : Cc} {ci : Nat} {fl : List (Option Cc)} {ad : Cc → Nat} {ty : Bool → ClassId} {k : Nat} (hs : S.1 c0 = some (.inr (ci, fl))) (hk : S.2[k]? = some c0) : (wl S ad ty M)[k]? = some (ad c0, .inr (ci, fl.mapIdx (enF ad M c0))) := by
  rw [wl_at hk, hs]; rfl
theorem ev_getV {ci k : Nat} {c0 : Cc} {fl : List (Option Cc)} {o : Option Cc} {v : Val} (sg : SiteG q pc ci k) (hs : S.1 c0 = some (.inr (ci, fl))) (hf : fl[k]? = some o) (hv : ∀ ad, enF ad M c0 k o = cvv ad v) (hn : pc + 3 = np) (kk : Ev S q np ls (v :: st) M Q) : Ev S q pc ls (.inr c0 :: st) M Q := by
  subst hn
  obtain ⟨K, T, N, idx, h1, h2, h3, h4, hd⟩ := sg
  intro p l e s m args below meth c ad D ty H locs lsA hc hP hD hS hL
  obtain ⟨j, hj⟩ := wl_ix hc.2.2.2.2.2.2.2.2.2 hs
  exact va_get hc.1 hc.2.1 hc.2.2.2.2.2.1 h3 hc.2.2.2.2.1 hc.2.2.2.2.2.2.2.1 hP j (obj_at hs hj) h1 k h2 (hc.2.2.2.2.2.1 _ h4) (fun _ h => h) (v := cvv ad v) (by rw [List.getElem?_mapIdx, hf]; exact congrArg some (hv ad)) hd (kk p l e s m args below meth c ad D ty H locs lsA hc hP hD hS hL)
theorem ev_getI {ci k : Nat} {c0 : Cc} {fl : List (Option Cc)} (sg : SiteG q pc ci k) (hs : S.1 c0 = some (.inr (ci, fl))) (hf : fl[k]? = some none) (hn : pc + 3 = np) (kk : Ev S q np ls (.inl (M c0 k) :: st) M Q) : Ev S q pc ls (.inr c0 :: st) M Q := ev_getV sg hs hf (fun _ => rfl) hn kk
theorem ev_getR {ci k : Nat} {c0 d : Cc} {fl : List (Option Cc)} (sg : SiteG q pc ci k) (hs : S.1 c0 = some (.inr (ci, fl))) (hf : fl[k]? = some (some d)) (hn : pc + 3 = np) (kk : Ev S q np ls (.inr d :: st) M Q) : Ev S q pc ls (.inr c0 :: st) M Q := ev_getV (v := .inr d) sg hs hf (fun _ => rfl) hn kk
theorem set_mapIdx {fl : List (Option Cc)} {ad : Cc → Nat} {c0 : Cc} {k : Nat} {v : Int} (hf : fl[k]? = some none) : (fl.mapIdx (enF ad M c0)).set k (.int (Int32.ofInt v)) = fl.mapIdx (enF ad (updM M c0 k v) c0) := by
  apply List.ext_getElem?
  intro i
  rw [List.getElem?_set]
  have hl : k < fl.length := (List.getElem?_eq_some_iff.mp hf).1
  by_cases hi : k = i
  · subst hi
    rw [if_pos rfl, if_pos (by simpa using hl), List.getElem?_mapIdx, hf]
    simp [enF, updM]
  · rw [if_neg hi, List.getElem?_mapIdx, List.getElem?_mapIdx]
    cases fl[i]? with
    | none => rfl
    | some o =>
      cases o with
      | none => simp [enF, updM, Ne.symm hi]
      | some d => rfl
theorem ev_put {ci k : Nat} {c0 : Cc} {fl : List (Option Cc)} {v : Int} (sp : SiteP q pc ci k) (hs : S.1 c0 = some (.inr (ci, fl))) (hf : fl[k]? = some none) (hn : pc + 3 = np) (kk : Ev S q np ls st (updM M c0 k v) Q) : Ev S q pc ls (.inl v :: .inr c0 :: st) M Q := by
  subst hn
  obtain ⟨K, T, N, idx, ty0, h1, h2, h3, h4, hd, h5, h6, h7, h8⟩ := sp
  intro p l e s m args below meth c ad D ty H locs lsA hc hP hD hS hL
  obtain ⟨j, hj⟩ := wl_ix hc.2.2.2.2.2.2.2.2.2 hs
  refine va_put hc.1 hc.2.1 hc.2.2.2.2.2.1 h3 ty0 h5 h6 hc.2.2.2.2.1 hc.2.2.2.2.2.2.2.1 hP hD hS j (obj_at hs hj) h1 k h2 (hc.2.2.2.2.2.1 _ h4) (fun _ h => h) h7 (ty := .int) (v := .int (Int32.ofInt v)) (by rw [h5 k h2, h8]) rfl rfl (by simpa using (List.getElem?_eq_some_iff.mp hf).1) hd (fun H1 locs1 hP1 hD1 hS1 => ?_)
  rw [set_mapIdx hf, wl_set hc.2.2.2.2.2.2.2.2.2 (M' := updM M c0 k v) hj (fun d hd => enS_upd d hd) (by rw [hs]; rfl)] at hP1 hD1
  exact kk p l e s m args below meth c ad D ty H1 locs1 lsA hc hP1 hD1 hS1 hL
end RV
end
section
def MOkV (q : MI) (n : Nat) : Prop := Cond.instanceMethod q.1 ∈ TBL ∧ Cond.selects q.1.cls q.1 q.1 ∈ TBL ∧ Cond.initialized q.1.cls ∈ TBL ∧ Cond.code q.1 q.2.1 q.2.2.1 q.2.2.2.1 ∈ TBL ∧ (q.1.cls ≠ "java/lang/invoke/MethodHandle" ∧ q.1.cls ≠ "java/lang/invoke/VarHandle" ∧ (parseMethodDescriptor q.1.desc).map (fun d => d.parameters.length) = some n)
def MOkS (q : MI) (n : Nat) : Prop := Cond.static q.1 ∈ TBL ∧ Cond.initialized q.1.cls ∈ TBL ∧ Cond.code q.1 q.2.1 q.2.2.1 q.2.2.2.1 ∈ TBL ∧ (q.1.cls ≠ "java/lang/invoke/MethodHandle" ∧ q.1.cls ≠ "java/lang/invoke/VarHandle" ∧ (parseMethodDescriptor q.1.desc).map (fun d => d.parameters.length) = some n)
def RoomFor (q q' : MI) : Prop := q'.2.2.2.2.1 + 1 ≤ q.2.2.2.2.1 ∧ 8 + (q'.2.2.1 + 11) + q'.2.2.2.2.2 ≤ q.2.2.2.2.2
def SiteV (q q' : MI) (pc : Nat) : Prop := ∃ idx : Nat, Cond.methodLink q.1.cls idx q'.1 ∈ TBL ∧ decode q.2.1 pc = .ok (.invokevirtual idx, 3) ∧ RoomFor q q'
def SiteS (q q' : MI) (pc : Nat) : Prop := ∃ idx : Nat, Cond.methodLink q.1.cls idx q'.1 ∈ TBL ∧ decode q.2.1 pc = .ok (.invokestatic idx, 3) ∧ RoomFor q q'
def SiteN (q q' : MI) (pc : Nat) : Prop := ∃ (idx : Nat) (host : String), (q.1.cls, idx, q'.1, host) ∈ nestL ∧ decode q.2.1 pc = .ok (.invokestatic idx, 3) ∧ RoomFor q q'
theorem gdW {q : MI} (h : Cond.code q.1 q.2.1 q.2.2.1 q.2.2.2.1 ∈ TBL) : GoodIn TBL (miW q) := fun w hw => by
  rcases List.mem_cons.mp hw with e | e
  · rw [e]; exact gdT _ h
  · exact gdT _ e
theorem cat_sum (ad : Cc → Nat) : ∀ r : List Val, ((r.map (cvv ad)).map fun v => v.category).sum = r.length
  | [] => rfl
  | a :: t => by simp only [List.map_cons, List.sum_cons, cvv_cat, cat_sum ad t, List.length_cons]; omega
theorem run_go {S : Sy} {p : Program} {l : Launch} {e : Env} {R : Room} {s : State} {m : MethodId} {args : Array Value} {below : List Frame} {meth : Method} {c : Code} {H : Heap} {locs : List Loc} {Z : State → Prop} {ad : Cc → Nat} {D : va_G} {ty : Bool → ClassId} {pc : Nat} {lsA : Array Slot} {st0 rest : List Value} {a : Array Value} {Qc : Option Val → Mem → Prop}
    (hr : va_Run p l e R s m args below meth c H locs 0 0 0 0 (F0 m pc lsA st0) rest (QcS S ad D ty H.size Qc a) (AA S ad H.size)) (hS : va_S (AA S ad s.heap.size) s.heap H locs)
    (kk : ∀ (v : Option Val) (M' : Mem) (H1 : Heap) (locs1 : List Loc), Qc v M' → va_P D vwCl (wl S ad ty M') H1 → va_S (AA S ad s.heap.size) s.heap H1 locs1 → W p l e R s m args below meth c H1 locs1 0 0 Z (F0 m (pc + 3) lsA ((v.map (cvv ad)).toList ++ rest))) : W p l e R s m args below meth c H locs 0 0 Z (F0 m pc lsA st0) := by
  intro T hT X
  obtain ⟨v, st₀, t, T', L, h0, X', hL, e1, e2, ⟨⟨v2, M', hv, hq, hP1⟩, hz, hk⟩, st⟩ := hr T hT X
  cases hv
  rw [h0] at hz hk
  have hAA : ∀ q, AA S ad H.size q → AA S ad s.heap.size q := fun q h => h.elim Or.inl (fun h => Or.inr (Nat.le_trans hS.1 h))
  obtain ⟨t2, a1, b1⟩ := kk v2 M' T'.heap (locs ++ L) hq (by rw [e1]; exact hP1) ⟨Nat.le_trans hS.1 (by rw [e1]; exact hz), fun q h1 h2 => by rw [e1, hk q (Nat.lt_of_lt_of_le h1 hS.1) (fun z => h2 (hAA q z))]; exact hS.2.1 q h1 h2, fun q hq => by
      rcases List.mem_append.mp hq with h | h
      · exact hS.2.2 q h
      · exact hAA _ (hL q h)⟩ T' rfl X'
  exact ⟨t2, st t2 a1, b1⟩
theorem PcS_blind {S : Sy} {ad : Cc → Nat} {D : va_G} {ty : Bool → ClassId} {sz : Nat} {As : List Val} {M : Mem} : FrameBlind (PcS S ad D ty sz As M) := by
  intro a U g mk h
  obtain ⟨h0, h1, h2, h3, h4, h5⟩ := h
  exact ⟨h0, h1, h2, va_K.moved (u := U) (U := U.calling g mk a) (Vm.Alike.refl U.vm) h3, h4, NW.same (U := U.calling g mk a) rfl h5⟩
section RC
variable {S : Sy} {q q' : MI} {pc np n : Nat} {ls : List (Option Val)} {st0 rest : List Val} {As : List Val} {M : Mem} {Q Qc : Option Val → Mem → Prop}
theorem tl_map (ad : Cc → Nat) (v : Option Val) (r : List Val) : (v.map (cvv ad)).toList ++ r.map (cvv ad) = (v.toList ++ r).map (cvv ad) := by
  cases v <;> rfl
theorem ev_callV {c0 : Cc} {ci : Nat} {fl : List (Option Cc)} {T : u_T} {N : Nat} (mo : MOkV q' n) (sc : SiteV q q' pc) (h : Sem S q' (.inr c0 :: As) M Qc) (hs : S.1 c0 = some (.inr (ci, fl))) (hci : vwCl[ci]? = some (q'.1.cls, T, N)) (hst : st0 = As.reverse ++ .inr c0 :: rest) (hlen : As.length = n) (hw : rest.length ≤ 8) (hn : pc + 3 = np) (kk : ∀ v M', Qc v M' → Ev S q np ls (v.toList ++ rest) M' Q) : Ev S q pc ls st0 M Q := by
  subst hn; subst hst
  obtain ⟨m1, m2, m3, m4, m5⟩ := mo
  obtain ⟨idx, w1, hd, r1, r2⟩ := sc
  intro p l e s m args below meth c ad D ty H locs lsA hc hP hD hS hL
  obtain ⟨j, hj⟩ := wl_ix hc.2.2.2.2.2.2.2.2.2 hs
  refine run_go (rest := rest.map (cvv ad)) (a := (Value.ref (ad c0) :: As.map (cvv ad)).toArray) (Qc := Qc) (D := D) (ty := ty) (S := S) (ad := ad) ?_ hS (fun v M' H1 locs1 hq hP1 hS1 => ?_)
  · refine va_runV (own := q.1.cls) (index := idx) (As := As.map (cvv ad)) (b := ad c0) (C := q'.1.cls) (Ts := TBL) (n := n) ⟨hc.1, hc.2.1, hc.2.2.2.1, hc.2.2.2.2.1, hc.2.2.2.2.2.1⟩ (h l ad D ty H.size) (cwV (ws' := TBL) n hc.2.2.2.2.2.1 ?_ rfl rfl rfl ⟨rfl, m5⟩ ⟨r1, r2⟩) ⟨PcS_blind, va_recv hc.2.2.2.2.2.2.2.1 hP hci (obj_at hs hj), fun U hU hW => ⟨rfl, by rw [hU], by rw [hU]; exact hP, va_K.moved hW.alike hc.2.2.2.2.2.2.2.1, hD.weaken (fun _ _ _ _ => trivial), NW.warm hW hc.2.2.2.2.2.2.2.2.1⟩⟩ rfl (by simpa using hlen) hL.1 ?_ (lv_room (by rw [cat_sum]; exact hw)) hd ⟨Nat.le_refl _, Nat.le_refl _⟩
    · intro w hw
      simp only [wsV, List.mem_append, List.mem_cons, List.not_mem_nil, or_false] at hw
      rcases hw with (e | e | e | e) | e
      · rw [e]; exact gdT _ w1
      · rw [e]; exact gdT _ m1
      · rw [e]; exact gdT _ m2
      · rw [e]; exact gdT _ m3
      · exact gdW m4 _ e
    · simp [cvv]
  · rw [tl_map]
    exact kk v M' hq p l e s m args below meth c ad D ty H1 locs1 lsA hc hP1 (wl_D hD (fun c hc => Or.inl ⟨c, hc, rfl⟩)) hS1 hL
theorem ev_callS (mo : MOkS q' n) (sc : SiteS q q' pc) (h : Sem S q' As M Qc) (hst : st0 = As.reverse ++ rest) (hlen : As.length = n) (hw : rest.length ≤ 8) (hn : pc + 3 = np) (kk : ∀ v M', Qc v M' → Ev S q np ls (v.toList ++ rest) M' Q) : Ev S q pc ls st0 M Q := by
  subst hn; subst hst
  obtain ⟨m1, m3, m4, m5⟩ := mo
  obtain ⟨idx, w1, hd, r1, r2⟩ := sc
  intro p l e s m args below meth c ad D ty H locs lsA hc hP hD hS hL
  refine run_go (rest := rest.map (cvv ad)) (a := (As.map (cvv ad)).toArray) (Qc := Qc) (D := D) (ty := ty) (S := S) (ad := ad) ?_ hS (fun v M' H1 locs1 hq hP1 hS1 => ?_)
  · refine va_runS (own := q.1.cls) (index := idx) (As := As.map (cvv ad)) (Ts := TBL) (n := n) ⟨hc.1, hc.2.1, hc.2.2.2.1, hc.2.2.2.2.1, hc.2.2.2.2.2.1⟩ (h l ad D ty H.size) ⟨callB_of (ws' := TBL) n hc.2.2.2.2.2.1 (gdW m4) rfl rfl rfl (hc.2.2.2.2.2.1 _ m3) (hc.2.2.2.2.2.1 _ w1) m5 ⟨r1, r2⟩, hc.2.2.2.2.2.1 _ m1⟩ ⟨PcS_blind, fun U hU hW => ⟨rfl, by rw [hU], by rw [hU]; exact hP, va_K.moved hW.alike hc.2.2.2.2.2.2.2.1, hD.weaken (fun _ _ _ _ => trivial), NW.warm hW hc.2.2.2.2.2.2.2.2.1⟩⟩ rfl (by simpa using hlen) hL.1 ?_ (lv_room (by rw [cat_sum]; exact hw)) hd ⟨Nat.le_refl _, Nat.le_refl _⟩
    · simp
  · rw [tl_map]
    exact kk v M' hq p l e s m args below meth c ad D ty H1 locs1 lsA hc hP1 (wl_D hD (fun c hc => Or.inl ⟨c, hc, rfl⟩)) hS1 hL
theorem ev_callN (mo : MOkS q' n) (sc : SiteN q q' pc) (h : Sem S q' As M Qc) (hst : st0 = As.reverse ++ rest) (hlen : As.length = n) (hw : rest.length ≤ 8) (hn : pc + 3 = np) (kk : ∀ v M', Qc v M' → Ev S q np ls (v.toList ++ rest) M' Q) : Ev S q pc ls st0 M Q := by
  subst hn; subst hst
  obtain ⟨m1, m3, m4, m5⟩ := mo
  obtain ⟨idx, host, w1, hd, r1, r2⟩ := sc
  intro p l e s m args below meth c ad D ty H locs lsA hc hP hD hS hL
  refine run_go (rest := rest.map (cvv ad)) (a := (As.map (cvv ad)).toArray) (Qc := Qc) (D := D) (ty := ty) (S := S) (ad := ad) ?_ hS (fun v M' H1 locs1 hq hP1 hS1 => ?_)
  · refine va_runSN (own := q.1.cls) (index := idx) (host := host) (As := As.map (cvv ad)) (Ts := TBL) (n := n) ⟨hc.1, hc.2.1, hc.2.2.2.1, hc.2.2.2.2.1, hc.2.2.2.2.2.1⟩ (h l ad D ty H.size) ⟨va_cnB (ws' := TBL) n hc.2.2.2.2.2.1 (gdW m4) rfl rfl rfl (hc.2.2.2.2.2.2.2.2.1 _ w1) (hc.2.2.2.2.2.1 _ m3) m5 ⟨r1, r2⟩, hc.2.2.2.2.2.1 _ m1, trivial⟩ ⟨PcS_blind, fun U hU hW => ⟨rfl, by rw [hU], by rw [hU]; exact hP, va_K.moved hW.alike hc.2.2.2.2.2.2.2.1, hD.weaken (fun _ _ _ _ => trivial), NW.warm hW hc.2.2.2.2.2.2.2.2.1⟩⟩ rfl (by simpa using hlen) hL.1 ?_ (lv_room (by rw [cat_sum]; exact hw)) hd ⟨Nat.le_refl _, Nat.le_refl _⟩
    · simp
  · rw [tl_map]
    exact kk v M' hq p l e s m args below meth c ad D ty H1 locs1 lsA hc hP1 (wl_D hD (fun c hc => Or.inl ⟨c, hc, rfl⟩)) hS1 hL
end RC
end
section
theorem inN1 {a : String} {x : MethodName} {b : Nat} {t : String} (i : Nat) (hh : tables_1_1[i]? = some (.methodLinkNest a b x t)) : (a, b, x, t) ∈ nestL := List.mem_filterMap.mpr ⟨_, List.mem_append_left _ (List.mem_of_getElem? hh), rfl⟩
theorem inN2 {a : String} {x : MethodName} {b : Nat} {t : String} (i : Nat) (hh : tables_1_2[i]? = some (.methodLinkNest a b x t)) : (a, b, x, t) ∈ nestL := List.mem_filterMap.mpr ⟨_, List.mem_append_right _ (List.mem_append_left _ (List.mem_of_getElem? hh)), rfl⟩
theorem inN3 {a : String} {x : MethodName} {b : Nat} {t : String} (i : Nat) (hh : tables_1_3[i]? = some (.methodLinkNest a b x t)) : (a, b, x, t) ∈ nestL := List.mem_filterMap.mpr ⟨_, List.mem_append_right _ (List.mem_append_right _ (List.mem_append_left _ (List.mem_of_getElem? hh))), rfl⟩
theorem inN4 {a : String} {x : MethodName} {b : Nat} {t : String} (i : Nat) (hh : tables_1_4[i]? = some (.methodLinkNest a b x t)) : (a, b, x, t) ∈ nestL := List.mem_filterMap.mpr ⟨_, List.mem_append_right _ (List.mem_append_right _ (List.mem_append_right _ (List.mem_of_getElem? hh))), rfl⟩
abbrev Ri (r : Int) (M : Mem) : Option Val → Mem → Prop := fun v N => v = some (.inl r) ∧ N = M
abbrev Rv (M : Mem) : Option Val → Mem → Prop := fun v N => v = none ∧ N = M
section RA
variable {S : Sy} {q q' : MI} {pc np : Nat} {ls : List (Option Val)} {rest : List Val} {M M1 : Mem} {Q Qc : Option Val → Mem → Prop} {r : Int}
theorem ev_V0 {c0 : Cc} {ci : Nat} {fl : List (Option Cc)} {T : u_T} {N : Nat} (mo : MOkV q' 0) (sc : SiteV q q' pc) (h : Sem S q' (.inr c0 :: []) M Qc) (hs : S.1 c0 = some (.inr (ci, fl))) (hci : vwCl[ci]? = some (q'.1.cls, T, N)) (hw : rest.length ≤ 8) (hn : pc + 3 = np) (kk : ∀ v M', Qc v M' → Ev S q np ls (v.toList ++ rest) M' Q) : Ev S q pc ls (.inr c0 :: rest) M Q := ev_callV (As := []) mo sc h hs hci rfl rfl hw hn kk
theorem ev_Vi0 {c0 : Cc} {ci : Nat} {fl : List (Option Cc)} {T : u_T} {N : Nat} (mo : MOkV q' 0) (sc : SiteV q q' pc) (h : Sem S q' (.inr c0 :: []) M (Ri r M1)) (hs : S.1 c0 = some (.inr (ci, fl))) (hci : vwCl[ci]? = some (q'.1.cls, T, N)) (hw : rest.length ≤ 8) (hn : pc + 3 = np) (kk : Ev S q np ls (.inl r :: rest) M1 Q) : Ev S q pc ls (.inr c0 :: rest) M Q := ev_callV (As := []) mo sc h hs hci rfl rfl hw hn (fun v N e => by obtain ⟨rfl, rfl⟩ := e; exact kk)
theorem ev_Vv0 {c0 : Cc} {ci : Nat} {fl : List (Option Cc)} {T : u_T} {N : Nat} (mo : MOkV q' 0) (sc : SiteV q q' pc) (h : Sem S q' (.inr c0 :: []) M (Rv M1)) (hs : S.1 c0 = some (.inr (ci, fl))) (hci : vwCl[ci]? = some (q'.1.cls, T, N)) (hw : rest.length ≤ 8) (hn : pc + 3 = np) (kk : Ev S q np ls rest M1 Q) : Ev S q pc ls (.inr c0 :: rest) M Q := ev_callV (As := []) mo sc h hs hci rfl rfl hw hn (fun v N e => by obtain ⟨rfl, rfl⟩ := e; exact kk)
theorem ev_V1 {c0 : Cc} {ci : Nat} {fl : List (Option Cc)} {T : u_T} {N : Nat} {a1 : Val} (mo : MOkV q' 1) (sc : SiteV q q' pc) (h : Sem S q' (.inr c0 :: [a1]) M Qc) (hs : S.1 c0 = some (.inr (ci, fl))) (hci : vwCl[ci]? = some (q'.1.cls, T, N)) (hw : rest.length ≤ 8) (hn : pc + 3 = np) (kk : ∀ v M', Qc v M' → Ev S q np ls (v.toList ++ rest) M' Q) : Ev S q pc ls (a1 :: .inr c0 :: rest) M Q := ev_callV (As := [a1]) mo sc h hs hci rfl rfl hw hn kk
theorem ev_Vi1 {c0 : Cc} {ci : Nat} {fl : List (Option Cc)} {T : u_T} {N : Nat} {a1 : Val} (mo : MOkV q' 1) (sc : SiteV q q' pc) (h : Sem S q' (.inr c0 :: [a1]) M (Ri r M1)) (hs : S.1 c0 = some (.inr (ci, fl))) (hci : vwCl[ci]? = some (q'.1.cls, T, N)) (hw : rest.length ≤ 8) (hn : pc + 3 = np) (kk : Ev S q np ls (.inl r :: rest) M1 Q) : Ev S q pc ls (a1 :: .inr c0 :: rest) M Q := ev_callV (As := [a1]) mo sc h hs hci rfl rfl hw hn (fun v N e => by obtain ⟨rfl, rfl⟩ := e; exact kk)
theorem ev_Vv1 {c0 : Cc} {ci : Nat} {fl : List (Option Cc)} {T : u_T} {N : Nat} {a1 : Val} (mo : MOkV q' 1) (sc : SiteV q q' pc) (h : Sem S q' (.inr c0 :: [a1]) M (Rv M1)) (hs : S.1 c0 = some (.inr (ci, fl))) (hci : vwCl[ci]? = some (q'.1.cls, T, N)) (hw : rest.length ≤ 8) (hn : pc + 3 = np) (kk : Ev S q np ls rest M1 Q) : Ev S q pc ls (a1 :: .inr c0 :: rest) M Q := ev_callV (As := [a1]) mo sc h hs hci rfl rfl hw hn (fun v N e => by obtain ⟨rfl, rfl⟩ := e; exact kk)
theorem ev_V2 {c0 : Cc} {ci : Nat} {fl : List (Option Cc)} {T : u_T} {N : Nat} {a1 a2 : Val} (mo : MOkV q' 2) (sc : SiteV q q' pc) (h : Sem S q' (.inr c0 :: [a1, a2]) M Qc) (hs : S.1 c0 = some (.inr (ci, fl))) (hci : vwCl[ci]? = some (q'.1.cls, T, N)) (hw : rest.length ≤ 8) (hn : pc + 3 = np) (kk : ∀ v M', Qc v M' → Ev S q np ls (v.toList ++ rest) M' Q) : Ev S q pc ls (a2 :: a1 :: .inr c0 :: rest) M Q := ev_callV (As := [a1, a2]) mo sc h hs hci rfl rfl hw hn kk
theorem ev_Vi2 {c0 : Cc} {ci : Nat} {fl : List (Option Cc)} {T : u_T} {N : Nat} {a1 a2 : Val} (mo : MOkV q' 2) (sc : SiteV q q' pc) (h : Sem S q' (.inr c0 :: [a1, a2]) M (Ri r M1)) (hs : S.1 c0 = some (.inr (ci, fl))) (hci : vwCl[ci]? = some (q'.1.cls, T, N)) (hw : rest.length ≤ 8) (hn : pc + 3 = np) (kk : Ev S q np ls (.inl r :: rest) M1 Q) : Ev S q pc ls (a2 :: a1 :: .inr c0 :: rest) M Q := ev_callV (As := [a1, a2]) mo sc h hs hci rfl rfl hw hn (fun v N e => by obtain ⟨rfl, rfl⟩ := e; exact kk)
theorem ev_Vv2 {c0 : Cc} {ci : Nat} {fl : List (Option Cc)} {T : u_T} {N : Nat} {a1 a2 : Val} (mo : MOkV q' 2) (sc : SiteV q q' pc) (h : Sem S q' (.inr c0 :: [a1, a2]) M (Rv M1)) (hs : S.1 c0 = some (.inr (ci, fl))) (hci : vwCl[ci]? = some (q'.1.cls, T, N)) (hw : rest.length ≤ 8) (hn : pc + 3 = np) (kk : Ev S q np ls rest M1 Q) : Ev S q pc ls (a2 :: a1 :: .inr c0 :: rest) M Q := ev_callV (As := [a1, a2]) mo sc h hs hci rfl rfl hw hn (fun v N e => by obtain ⟨rfl, rfl⟩ := e; exact kk)
theorem ev_V3 {c0 : Cc} {ci : Nat} {fl : List (Option Cc)} {T : u_T} {N : Nat} {a1 a2 a3 : Val} (mo : MOkV q' 3) (sc : SiteV q q' pc) (h : Sem S q' (.inr c0 :: [a1, a2, a3]) M Qc) (hs : S.1 c0 = some (.inr (ci, fl))) (hci : vwCl[ci]? = some (q'.1.cls, T, N)) (hw : rest.length ≤ 8) (hn : pc + 3 = np) (kk : ∀ v M', Qc v M' → Ev S q np ls (v.toList ++ rest) M' Q) : Ev S q pc ls (a3 :: a2 :: a1 :: .inr c0 :: rest) M Q := ev_callV (As := [a1, a2, a3]) mo sc h hs hci rfl rfl hw hn kk
theorem ev_Vi3 {c0 : Cc} {ci : Nat} {fl : List (Option Cc)} {T : u_T} {N : Nat} {a1 a2 a3 : Val} (mo : MOkV q' 3) (sc : SiteV q q' pc) (h : Sem S q' (.inr c0 :: [a1, a2, a3]) M (Ri r M1)) (hs : S.1 c0 = some (.inr (ci, fl))) (hci : vwCl[ci]? = some (q'.1.cls, T, N)) (hw : rest.length ≤ 8) (hn : pc + 3 = np) (kk : Ev S q np ls (.inl r :: rest) M1 Q) : Ev S q pc ls (a3 :: a2 :: a1 :: .inr c0 :: rest) M Q := ev_callV (As := [a1, a2, a3]) mo sc h hs hci rfl rfl hw hn (fun v N e => by obtain ⟨rfl, rfl⟩ := e; exact kk)
theorem ev_Vv3 {c0 : Cc} {ci : Nat} {fl : List (Option Cc)} {T : u_T} {N : Nat} {a1 a2 a3 : Val} (mo : MOkV q' 3) (sc : SiteV q q' pc) (h : Sem S q' (.inr c0 :: [a1, a2, a3]) M (Rv M1)) (hs : S.1 c0 = some (.inr (ci, fl))) (hci : vwCl[ci]? = some (q'.1.cls, T, N)) (hw : rest.length ≤ 8) (hn : pc + 3 = np) (kk : Ev S q np ls rest M1 Q) : Ev S q pc ls (a3 :: a2 :: a1 :: .inr c0 :: rest) M Q := ev_callV (As := [a1, a2, a3]) mo sc h hs hci rfl rfl hw hn (fun v N e => by obtain ⟨rfl, rfl⟩ := e; exact kk)
theorem ev_V4 {c0 : Cc} {ci : Nat} {fl : List (Option Cc)} {T : u_T} {N : Nat} {a1 a2 a3 a4 : Val} (mo : MOkV q' 4) (sc : SiteV q q' pc) (h : Sem S q' (.inr c0 :: [a1, a2, a3, a4]) M Qc) (hs : S.1 c0 = some (.inr (ci, fl))) (hci : vwCl[ci]? = some (q'.1.cls, T, N)) (hw : rest.length ≤ 8) (hn : pc + 3 = np) (kk : ∀ v M', Qc v M' → Ev S q np ls (v.toList ++ rest) M' Q) : Ev S q pc ls (a4 :: a3 :: a2 :: a1 :: .inr c0 :: rest) M Q := ev_callV (As := [a1, a2, a3, a4]) mo sc h hs hci rfl rfl hw hn kk
theorem ev_Vi4 {c0 : Cc} {ci : Nat} {fl : List (Option Cc)} {T : u_T} {N : Nat} {a1 a2 a3 a4 : Val} (mo : MOkV q' 4) (sc : SiteV q q' pc) (h : Sem S q' (.inr c0 :: [a1, a2, a3, a4]) M (Ri r M1)) (hs : S.1 c0 = some (.inr (ci, fl))) (hci : vwCl[ci]? = some (q'.1.cls, T, N)) (hw : rest.length ≤ 8) (hn : pc + 3 = np) (kk : Ev S q np ls (.inl r :: rest) M1 Q) : Ev S q pc ls (a4 :: a3 :: a2 :: a1 :: .inr c0 :: rest) M Q := ev_callV (As := [a1, a2, a3, a4]) mo sc h hs hci rfl rfl hw hn (fun v N e => by obtain ⟨rfl, rfl⟩ := e; exact kk)
theorem ev_Vv4 {c0 : Cc} {ci : Nat} {fl : List (Option Cc)} {T : u_T} {N : Nat} {a1 a2 a3 a4 : Val} (mo : MOkV q' 4) (sc : SiteV q q' pc) (h : Sem S q' (.inr c0 :: [a1, a2, a3, a4]) M (Rv M1)) (hs : S.1 c0 = some (.inr (ci, fl))) (hci : vwCl[ci]? = some (q'.1.cls, T, N)) (hw : rest.length ≤ 8) (hn : pc + 3 = np) (kk : Ev S q np ls rest M1 Q) : Ev S q pc ls (a4 :: a3 :: a2 :: a1 :: .inr c0 :: rest) M Q := ev_callV (As := [a1, a2, a3, a4]) mo sc h hs hci rfl rfl hw hn (fun v N e => by obtain ⟨rfl, rfl⟩ := e; exact kk)
theorem ev_V5 {c0 : Cc} {ci : Nat} {fl : List (Option Cc)} {T : u_T} {N : Nat} {a1 a2 a3 a4 a5 : Val} (mo : MOkV q' 5) (sc : SiteV q q' pc) (h : Sem S q' (.inr c0 :: [a1, a2, a3, a4, a5]) M Qc) (hs : S.1 c0 = some (.inr (ci, fl))) (hci : vwCl[ci]? = some (q'.1.cls, T, N)) (hw : rest.length ≤ 8) (hn : pc + 3 = np) (kk : ∀ v M', Qc v M' → Ev S q np ls (v.toList ++ rest) M' Q) : Ev S q pc ls (a5 :: a4 :: a3 :: a2 :: a1 :: .inr c0 :: rest) M Q := ev_callV (As := [a1, a2, a3, a4, a5]) mo sc h hs hci rfl rfl hw hn kk
theorem ev_Vi5 {c0 : Cc} {ci : Nat} {fl : List (Option Cc)} {T : u_T} {N : Nat} {a1 a2 a3 a4 a5 : Val} (mo : MOkV q' 5) (sc : SiteV q q' pc) (h : Sem S q' (.inr c0 :: [a1, a2, a3, a4, a5]) M (Ri r M1)) (hs : S.1 c0 = some (.inr (ci, fl))) (hci : vwCl[ci]? = some (q'.1.cls, T, N)) (hw : rest.length ≤ 8) (hn : pc + 3 = np) (kk : Ev S q np ls (.inl r :: rest) M1 Q) : Ev S q pc ls (a5 :: a4 :: a3 :: a2 :: a1 :: .inr c0 :: rest) M Q := ev_callV (As := [a1, a2, a3, a4, a5]) mo sc h hs hci rfl rfl hw hn (fun v N e => by obtain ⟨rfl, rfl⟩ := e; exact kk)
theorem ev_Vv5 {c0 : Cc} {ci : Nat} {fl : List (Option Cc)} {T : u_T} {N : Nat} {a1 a2 a3 a4 a5 : Val} (mo : MOkV q' 5) (sc : SiteV q q' pc) (h : Sem S q' (.inr c0 :: [a1, a2, a3, a4, a5]) M (Rv M1)) (hs : S.1 c0 = some (.inr (ci, fl))) (hci : vwCl[ci]? = some (q'.1.cls, T, N)) (hw : rest.length ≤ 8) (hn : pc + 3 = np) (kk : Ev S q np ls rest M1 Q) : Ev S q pc ls (a5 :: a4 :: a3 :: a2 :: a1 :: .inr c0 :: rest) M Q := ev_callV (As := [a1, a2, a3, a4, a5]) mo sc h hs hci rfl rfl hw hn (fun v N e => by obtain ⟨rfl, rfl⟩ := e; exact kk)
theorem ev_S1 {a1 : Val} (mo : MOkS q' 1) (sc : SiteS q q' pc) (h : Sem S q' [a1] M Qc) (hw : rest.length ≤ 8) (hn : pc + 3 = np) (kk : ∀ v M', Qc v M' → Ev S q np ls (v.toList ++ rest) M' Q) : Ev S q pc ls (a1 :: rest) M Q := ev_callS (As := [a1]) mo sc h rfl rfl hw hn kk
theorem ev_Si1 {a1 : Val} (mo : MOkS q' 1) (sc : SiteS q q' pc) (h : Sem S q' [a1] M (Ri r M1)) (hw : rest.length ≤ 8) (hn : pc + 3 = np) (kk : Ev S q np ls (.inl r :: rest) M1 Q) : Ev S q pc ls (a1 :: rest) M Q := ev_callS (As := [a1]) mo sc h rfl rfl hw hn (fun v N e => by obtain ⟨rfl, rfl⟩ := e; exact kk)
theorem ev_Sv1 {a1 : Val} (mo : MOkS q' 1) (sc : SiteS q q' pc) (h : Sem S q' [a1] M (Rv M1)) (hw : rest.length ≤ 8) (hn : pc + 3 = np) (kk : Ev S q np ls rest M1 Q) : Ev S q pc ls (a1 :: rest) M Q := ev_callS (As := [a1]) mo sc h rfl rfl hw hn (fun v N e => by obtain ⟨rfl, rfl⟩ := e; exact kk)
theorem ev_S2 {a1 a2 : Val} (mo : MOkS q' 2) (sc : SiteS q q' pc) (h : Sem S q' [a1, a2] M Qc) (hw : rest.length ≤ 8) (hn : pc + 3 = np) (kk : ∀ v M', Qc v M' → Ev S q np ls (v.toList ++ rest) M' Q) : Ev S q pc ls (a2 :: a1 :: rest) M Q := ev_callS (As := [a1, a2]) mo sc h rfl rfl hw hn kk
theorem ev_Si2 {a1 a2 : Val} (mo : MOkS q' 2) (sc : SiteS q q' pc) (h : Sem S q' [a1, a2] M (Ri r M1)) (hw : rest.length ≤ 8) (hn : pc + 3 = np) (kk : Ev S q np ls (.inl r :: rest) M1 Q) : Ev S q pc ls (a2 :: a1 :: rest) M Q := ev_callS (As := [a1, a2]) mo sc h rfl rfl hw hn (fun v N e => by obtain ⟨rfl, rfl⟩ := e; exact kk)
theorem ev_Sv2 {a1 a2 : Val} (mo : MOkS q' 2) (sc : SiteS q q' pc) (h : Sem S q' [a1, a2] M (Rv M1)) (hw : rest.length ≤ 8) (hn : pc + 3 = np) (kk : Ev S q np ls rest M1 Q) : Ev S q pc ls (a2 :: a1 :: rest) M Q := ev_callS (As := [a1, a2]) mo sc h rfl rfl hw hn (fun v N e => by obtain ⟨rfl, rfl⟩ := e; exact kk)
theorem ev_S3 {a1 a2 a3 : Val} (mo : MOkS q' 3) (sc : SiteS q q' pc) (h : Sem S q' [a1, a2, a3] M Qc) (hw : rest.length ≤ 8) (hn : pc + 3 = np) (kk : ∀ v M', Qc v M' → Ev S q np ls (v.toList ++ rest) M' Q) : Ev S q pc ls (a3 :: a2 :: a1 :: rest) M Q := ev_callS (As := [a1, a2, a3]) mo sc h rfl rfl hw hn kk
theorem ev_Si3 {a1 a2 a3 : Val} (mo : MOkS q' 3) (sc : SiteS q q' pc) (h : Sem S q' [a1, a2, a3] M (Ri r M1)) (hw : rest.length ≤ 8) (hn : pc + 3 = np) (kk : Ev S q np ls (.inl r :: rest) M1 Q) : Ev S q pc ls (a3 :: a2 :: a1 :: rest) M Q := ev_callS (As := [a1, a2, a3]) mo sc h rfl rfl hw hn (fun v N e => by obtain ⟨rfl, rfl⟩ := e; exact kk)
theorem ev_Sv3 {a1 a2 a3 : Val} (mo : MOkS q' 3) (sc : SiteS q q' pc) (h : Sem S q' [a1, a2, a3] M (Rv M1)) (hw : rest.length ≤ 8) (hn : pc + 3 = np) (kk : Ev S q np ls rest M1 Q) : Ev S q pc ls (a3 :: a2 :: a1 :: rest) M Q := ev_callS (As := [a1, a2, a3]) mo sc h rfl rfl hw hn (fun v N e => by obtain ⟨rfl, rfl⟩ := e; exact kk)
theorem ev_S4 {a1 a2 a3 a4 : Val} (mo : MOkS q' 4) (sc : SiteS q q' pc) (h : Sem S q' [a1, a2, a3, a4] M Qc) (hw : rest.length ≤ 8) (hn : pc + 3 = np) (kk : ∀ v M', Qc v M' → Ev S q np ls (v.toList ++ rest) M' Q) : Ev S q pc ls (a4 :: a3 :: a2 :: a1 :: rest) M Q := ev_callS (As := [a1, a2, a3, a4]) mo sc h rfl rfl hw hn kk
theorem ev_Si4 {a1 a2 a3 a4 : Val} (mo : MOkS q' 4) (sc : SiteS q q' pc) (h : Sem S q' [a1, a2, a3, a4] M (Ri r M1)) (hw : rest.length ≤ 8) (hn : pc + 3 = np) (kk : Ev S q np ls (.inl r :: rest) M1 Q) : Ev S q pc ls (a4 :: a3 :: a2 :: a1 :: rest) M Q := ev_callS (As := [a1, a2, a3, a4]) mo sc h rfl rfl hw hn (fun v N e => by obtain ⟨rfl, rfl⟩ := e; exact kk)
theorem ev_Sv4 {a1 a2 a3 a4 : Val} (mo : MOkS q' 4) (sc : SiteS q q' pc) (h : Sem S q' [a1, a2, a3, a4] M (Rv M1)) (hw : rest.length ≤ 8) (hn : pc + 3 = np) (kk : Ev S q np ls rest M1 Q) : Ev S q pc ls (a4 :: a3 :: a2 :: a1 :: rest) M Q := ev_callS (As := [a1, a2, a3, a4]) mo sc h rfl rfl hw hn (fun v N e => by obtain ⟨rfl, rfl⟩ := e; exact kk)
theorem ev_S5 {a1 a2 a3 a4 a5 : Val} (mo : MOkS q' 5) (sc : SiteS q q' pc) (h : Sem S q' [a1, a2, a3, a4, a5] M Qc) (hw : rest.length ≤ 8) (hn : pc + 3 = np) (kk : ∀ v M', Qc v M' → Ev S q np ls (v.toList ++ rest) M' Q) : Ev S q pc ls (a5 :: a4 :: a3 :: a2 :: a1 :: rest) M Q := ev_callS (As := [a1, a2, a3, a4, a5]) mo sc h rfl rfl hw hn kk
theorem ev_Si5 {a1 a2 a3 a4 a5 : Val} (mo : MOkS q' 5) (sc : SiteS q q' pc) (h : Sem S q' [a1, a2, a3, a4, a5] M (Ri r M1)) (hw : rest.length ≤ 8) (hn : pc + 3 = np) (kk : Ev S q np ls (.inl r :: rest) M1 Q) : Ev S q pc ls (a5 :: a4 :: a3 :: a2 :: a1 :: rest) M Q := ev_callS (As := [a1, a2, a3, a4, a5]) mo sc h rfl rfl hw hn (fun v N e => by obtain ⟨rfl, rfl⟩ := e; exact kk)
theorem ev_Sv5 {a1 a2 a3 a4 a5 : Val} (mo : MOkS q' 5) (sc : SiteS q q' pc) (h : Sem S q' [a1, a2, a3, a4, a5] M (Rv M1)) (hw : rest.length ≤ 8) (hn : pc + 3 = np) (kk : Ev S q np ls rest M1 Q) : Ev S q pc ls (a5 :: a4 :: a3 :: a2 :: a1 :: rest) M Q := ev_callS (As := [a1, a2, a3, a4, a5]) mo sc h rfl rfl hw hn (fun v N e => by obtain ⟨rfl, rfl⟩ := e; exact kk)
theorem ev_N1 {a1 : Val} (mo : MOkS q' 1) (sc : SiteN q q' pc) (h : Sem S q' [a1] M Qc) (hw : rest.length ≤ 8) (hn : pc + 3 = np) (kk : ∀ v M', Qc v M' → Ev S q np ls (v.toList ++ rest) M' Q) : Ev S q pc ls (a1 :: rest) M Q := ev_callN (As := [a1]) mo sc h rfl rfl hw hn kk
theorem ev_Ni1 {a1 : Val} (mo : MOkS q' 1) (sc : SiteN q q' pc) (h : Sem S q' [a1] M (Ri r M1)) (hw : rest.length ≤ 8) (hn : pc + 3 = np) (kk : Ev S q np ls (.inl r :: rest) M1 Q) : Ev S q pc ls (a1 :: rest) M Q := ev_callN (As := [a1]) mo sc h rfl rfl hw hn (fun v N e => by obtain ⟨rfl, rfl⟩ := e; exact kk)
theorem ev_Nv1 {a1 : Val} (mo : MOkS q' 1) (sc : SiteN q q' pc) (h : Sem S q' [a1] M (Rv M1)) (hw : rest.length ≤ 8) (hn : pc + 3 = np) (kk : Ev S q np ls rest M1 Q) : Ev S q pc ls (a1 :: rest) M Q := ev_callN (As := [a1]) mo sc h rfl rfl hw hn (fun v N e => by obtain ⟨rfl, rfl⟩ := e; exact kk)
theorem ev_N2 {a1 a2 : Val} (mo : MOkS q' 2) (sc : SiteN q q' pc) (h : Sem S q' [a1, a2] M Qc) (hw : rest.length ≤ 8) (hn : pc + 3 = np) (kk : ∀ v M', Qc v M' → Ev S q np ls (v.toList ++ rest) M' Q) : Ev S q pc ls (a2 :: a1 :: rest) M Q := ev_callN (As := [a1, a2]) mo sc h rfl rfl hw hn kk
theorem ev_Ni2 {a1 a2 : Val} (mo : MOkS q' 2) (sc : SiteN q q' pc) (h : Sem S q' [a1, a2] M (Ri r M1)) (hw : rest.length ≤ 8) (hn : pc + 3 = np) (kk : Ev S q np ls (.inl r :: rest) M1 Q) : Ev S q pc ls (a2 :: a1 :: rest) M Q := ev_callN (As := [a1, a2]) mo sc h rfl rfl hw hn (fun v N e => by obtain ⟨rfl, rfl⟩ := e; exact kk)
theorem ev_Nv2 {a1 a2 : Val} (mo : MOkS q' 2) (sc : SiteN q q' pc) (h : Sem S q' [a1, a2] M (Rv M1)) (hw : rest.length ≤ 8) (hn : pc + 3 = np) (kk : Ev S q np ls rest M1 Q) : Ev S q pc ls (a2 :: a1 :: rest) M Q := ev_callN (As := [a1, a2]) mo sc h rfl rfl hw hn (fun v N e => by obtain ⟨rfl, rfl⟩ := e; exact kk)
theorem ev_N3 {a1 a2 a3 : Val} (mo : MOkS q' 3) (sc : SiteN q q' pc) (h : Sem S q' [a1, a2, a3] M Qc) (hw : rest.length ≤ 8) (hn : pc + 3 = np) (kk : ∀ v M', Qc v M' → Ev S q np ls (v.toList ++ rest) M' Q) : Ev S q pc ls (a3 :: a2 :: a1 :: rest) M Q := ev_callN (As := [a1, a2, a3]) mo sc h rfl rfl hw hn kk
theorem ev_Ni3 {a1 a2 a3 : Val} (mo : MOkS q' 3) (sc : SiteN q q' pc) (h : Sem S q' [a1, a2, a3] M (Ri r M1)) (hw : rest.length ≤ 8) (hn : pc + 3 = np) (kk : Ev S q np ls (.inl r :: rest) M1 Q) : Ev S q pc ls (a3 :: a2 :: a1 :: rest) M Q := ev_callN (As := [a1, a2, a3]) mo sc h rfl rfl hw hn (fun v N e => by obtain ⟨rfl, rfl⟩ := e; exact kk)
theorem ev_Nv3 {a1 a2 a3 : Val} (mo : MOkS q' 3) (sc : SiteN q q' pc) (h : Sem S q' [a1, a2, a3] M (Rv M1)) (hw : rest.length ≤ 8) (hn : pc + 3 = np) (kk : Ev S q np ls rest M1 Q) : Ev S q pc ls (a3 :: a2 :: a1 :: rest) M Q := ev_callN (As := [a1, a2, a3]) mo sc h rfl rfl hw hn (fun v N e => by obtain ⟨rfl, rfl⟩ := e; exact kk)
theorem ev_N4 {a1 a2 a3 a4 : Val} (mo : MOkS q' 4) (sc : SiteN q q' pc) (h : Sem S q' [a1, a2, a3, a4] M Qc) (hw : rest.length ≤ 8) (hn : pc + 3 = np) (kk : ∀ v M', Qc v M' → Ev S q np ls (v.toList ++ rest) M' Q) : Ev S q pc ls (a4 :: a3 :: a2 :: a1 :: rest) M Q := ev_callN (As := [a1, a2, a3, a4]) mo sc h rfl rfl hw hn kk
theorem ev_Ni4 {a1 a2 a3 a4 : Val} (mo : MOkS q' 4) (sc : SiteN q q' pc) (h : Sem S q' [a1, a2, a3, a4] M (Ri r M1)) (hw : rest.length ≤ 8) (hn : pc + 3 = np) (kk : Ev S q np ls (.inl r :: rest) M1 Q) : Ev S q pc ls (a4 :: a3 :: a2 :: a1 :: rest) M Q := ev_callN (As := [a1, a2, a3, a4]) mo sc h rfl rfl hw hn (fun v N e => by obtain ⟨rfl, rfl⟩ := e; exact kk)
theorem ev_Nv4 {a1 a2 a3 a4 : Val} (mo : MOkS q' 4) (sc : SiteN q q' pc) (h : Sem S q' [a1, a2, a3, a4] M (Rv M1)) (hw : rest.length ≤ 8) (hn : pc + 3 = np) (kk : Ev S q np ls rest M1 Q) : Ev S q pc ls (a4 :: a3 :: a2 :: a1 :: rest) M Q := ev_callN (As := [a1, a2, a3, a4]) mo sc h rfl rfl hw hn (fun v N e => by obtain ⟨rfl, rfl⟩ := e; exact kk)
theorem ev_N5 {a1 a2 a3 a4 a5 : Val} (mo : MOkS q' 5) (sc : SiteN q q' pc) (h : Sem S q' [a1, a2, a3, a4, a5] M Qc) (hw : rest.length ≤ 8) (hn : pc + 3 = np) (kk : ∀ v M', Qc v M' → Ev S q np ls (v.toList ++ rest) M' Q) : Ev S q pc ls (a5 :: a4 :: a3 :: a2 :: a1 :: rest) M Q := ev_callN (As := [a1, a2, a3, a4, a5]) mo sc h rfl rfl hw hn kk
theorem ev_Ni5 {a1 a2 a3 a4 a5 : Val} (mo : MOkS q' 5) (sc : SiteN q q' pc) (h : Sem S q' [a1, a2, a3, a4, a5] M (Ri r M1)) (hw : rest.length ≤ 8) (hn : pc + 3 = np) (kk : Ev S q np ls (.inl r :: rest) M1 Q) : Ev S q pc ls (a5 :: a4 :: a3 :: a2 :: a1 :: rest) M Q := ev_callN (As := [a1, a2, a3, a4, a5]) mo sc h rfl rfl hw hn (fun v N e => by obtain ⟨rfl, rfl⟩ := e; exact kk)
theorem ev_Nv5 {a1 a2 a3 a4 a5 : Val} (mo : MOkS q' 5) (sc : SiteN q q' pc) (h : Sem S q' [a1, a2, a3, a4, a5] M (Rv M1)) (hw : rest.length ≤ 8) (hn : pc + 3 = np) (kk : Ev S q np ls rest M1 Q) : Ev S q pc ls (a5 :: a4 :: a3 :: a2 :: a1 :: rest) M Q := ev_callN (As := [a1, a2, a3, a4, a5]) mo sc h rfl rfl hw hn (fun v N e => by obtain ⟨rfl, rfl⟩ := e; exact kk)
end RA
theorem Sem.imp {S : Sy} {q : MI} {As : List Val} {M : Mem} {Q Q' : Option Val → Mem → Prop} (h : Sem S q As M Q) (hq : ∀ v N, Q v N → Q' v N) : Sem S q As M Q' := by
  intro l ad D ty sz p e ha hc hk s m args below hf h1 h2 h3
  obtain ⟨t, o, a1, a2, a3, ⟨⟨v, N, b1, b2, b3⟩, b4⟩, a5⟩ := h l ad D ty sz p e ha hc hk s m args below hf h1 h2 h3
  exact ⟨t, o, a1, a2, a3, ⟨⟨v, N, b1, hq v N b2, b3⟩, b4⟩, a5⟩
end
section
abbrev miJ7_fill_53178 : MI := (yJ7_fill_53178, cJ7_fill_53178, 4, none, 0, 0)
abbrev miX0_classesAmong : MI := (yX0_classesAmong, cX0_classesAmong, 6, (some .int), 5, 119)
abbrev miX0_findUnlike : MI := (yX0_findUnlike, cX0_findUnlike, 6, none, 4, 94)
abbrev miX0_init : MI := (yX0_init, cX0_init, 1, none, 2, 33)
abbrev miX0_leadToUnlike : MI := (yX0_leadToUnlike, cX0_leadToUnlike, 8, (some .boolean), 2, 43)
abbrev miX0_unlikeTo : MI := (yX0_unlikeTo, cX0_unlikeTo, 5, (some .int), 3, 70)
abbrev miX1_dropLastGate : MI := (yX1_dropLastGate, cX1_dropLastGate, 1, none, 0, 0)
abbrev miX1_firstBit : MI := (yX1_firstBit, cX1_firstBit, 2, (some .int), 1, 21)
abbrev miX1_firstState : MI := (yX1_firstState, cX1_firstState, 3, (some .int), 2, 42)
abbrev miX1_firstWire : MI := (yX1_firstWire, cX1_firstWire, 2, (some .int), 1, 21)
abbrev miX1_gateBit : MI := (yX1_gateBit, cX1_gateBit, 3, (some .int), 0, 0)
abbrev miX1_gateCount : MI := (yX1_gateCount, cX1_gateCount, 1, (some .int), 0, 0)
abbrev miX1_gateOnWire : MI := (yX1_gateOnWire, cX1_gateOnWire, 3, (some .int), 1, 22)
abbrev miX1_gatesBehindOutput : MI := (yX1_gatesBehindOutput, cX1_gatesBehindOutput, 3, (some .int), 2, 44)
abbrev miX1_init : MI := (yX1_init, cX1_init, 1, none, 3, 66)
abbrev miX1_kindOf : MI := (yX1_kindOf, cX1_kindOf, 2, (some .int), 1, 21)
abbrev miX1_nextWire : MI := (yX1_nextWire, cX1_nextWire, 2, (some .int), 1, 21)
abbrev miX1_outputWire : MI := (yX1_outputWire, cX1_outputWire, 1, (some .int), 0, 0)
abbrev miX1_savedCell : MI := (yX1_savedCell, cX1_savedCell, 2, (some .int), 1, 21)
abbrev miX1_secondWire : MI := (yX1_secondWire, cX1_secondWire, 2, (some .int), 1, 21)
abbrev miX1_setGate : MI := (yX1_setGate, cX1_setGate, 5, none, 1, 22)
abbrev miX1_setOutputWire : MI := (yX1_setOutputWire, cX1_setOutputWire, 2, none, 0, 0)
abbrev miX1_setRegister : MI := (yX1_setRegister, cX1_setRegister, 4, none, 1, 22)
abbrev miX1_setSavedCell : MI := (yX1_setSavedCell, cX1_setSavedCell, 3, none, 1, 22)
abbrev miX1_startAnew : MI := (yX1_startAnew, cX1_startAnew, 2, none, 2, 45)
abbrev miX1_stateAfter : MI := (yX1_stateAfter, cX1_stateAfter, 4, (some .int), 2, 42)
abbrev miX1_takeFrom : MI := (yX1_takeFrom, cX1_takeFrom, 3, none, 2, 44)
abbrev miX1_wireBits : MI := (yX1_wireBits, cX1_wireBits, 7, (some .int), 2, 42)
abbrev miX10_acted : MI := (yX10_acted, cX10_acted, 3, (some .int), 0, 0)
abbrev miX10_apart : MI := (yX10_apart, cX10_apart, 2, (some .int), 4, 97)
abbrev miX10_behind : MI := (yX10_behind, cX10_behind, 4, (some .int), 3, 72)
abbrev miX10_bit : MI := (yX10_bit, cX10_bit, 5, (some .int), 2, 47)
abbrev miX10_circuitOf : MI := (yX10_circuitOf, cX10_circuitOf, 4, (some .int), 6, 147)
abbrev miX10_classes : MI := (yX10_classes, cX10_classes, 6, (some .int), 5, 122)
abbrev miX10_clearText : MI := (yX10_clearText, cX10_clearText, 2, (some .int), 0, 0)
abbrev miX10_comesTo : MI := (yX10_comesTo, cX10_comesTo, 6, (some .int), 3, 72)
abbrev miX10_copy : MI := (yX10_copy, cX10_copy, 3, (some .int), 1, 22)
abbrev miX10_count : MI := (yX10_count, cX10_count, 2, (some .int), 4, 97)
abbrev miX10_depends : MI := (yX10_depends, cX10_depends, 5, (some .int), 1, 22)
abbrev miX10_differs : MI := (yX10_differs, cX10_differs, 4, (some .int), 3, 70)
abbrev miX10_doesGate : MI := (yX10_doesGate, cX10_doesGate, 5, (some .int), 2, 44)
abbrev miX10_doesOutput : MI := (yX10_doesOutput, cX10_doesOutput, 2, (some .int), 2, 44)
abbrev miX10_doesRegister : MI := (yX10_doesRegister, cX10_doesRegister, 4, (some .int), 2, 44)
abbrev miX10_dropGate : MI := (yX10_dropGate, cX10_dropGate, 2, (some .int), 1, 22)
abbrev miX10_fault : MI := (yX10_fault, cX10_fault, 3, (some .int), 4, 89)
abbrev miX10_faulty : MI := (yX10_faulty, cX10_faulty, 2, (some .int), 3, 68)
abbrev miX10_first : MI := (yX10_first, cX10_first, 4, (some .int), 1, 22)
abbrev miX10_gate : MI := (yX10_gate, cX10_gate, 7, (some .int), 2, 43)
abbrev miX10_in : MI := (yX10_in, cX10_in, 3, (some .boolean), 0, 0)
abbrev miX10_init : MI := (yX10_init, cX10_init, 1, none, 1, 22)
abbrev miX10_isAlike : MI := (yX10_isAlike, cX10_isAlike, 7, (some .boolean), 3, 72)
abbrev miX10_isAllowed : MI := (yX10_isAllowed, cX10_isAllowed, 2, (some .boolean), 1, 22)
abbrev miX10_isLate : MI := (yX10_isLate, cX10_isLate, 13, (some .boolean), 3, 72)
abbrev miX10_keeps : MI := (yX10_keeps, cX10_keeps, 2, none, 0, 0)
abbrev miX10_kinds : MI := (yX10_kinds, cX10_kinds, 5, (some .int), 4, 97)
abbrev miX10_late : MI := (yX10_late, cX10_late, 2, (some .int), 4, 104)
abbrev miX10_lays : MI := (yX10_lays, cX10_lays, 3, none, 0, 0)
abbrev miX10_lights : MI := (yX10_lights, cX10_lights, 6, none, 1, 22)
abbrev miX10_of : MI := (yX10_of, cX10_of, 3, (some .int), 0, 0)
abbrev miX10_out : MI := (yX10_out, cX10_out, 4, (some .int), 2, 47)
abbrev miX10_output : MI := (yX10_output, cX10_output, 4, (some .int), 1, 22)
abbrev miX10_pairOf : MI := (yX10_pairOf, cX10_pairOf, 3, (some .int), 4, 97)
abbrev miX10_pairs : MI := (yX10_pairs, cX10_pairs, 1, (some .int), 4, 97)
abbrev miX10_pairsUp : MI := (yX10_pairsUp, cX10_pairsUp, 6, none, 3, 72)
abbrev miX10_read : MI := (yX10_read, cX10_read, 3, (some .int), 4, 89)
abbrev miX10_refines : MI := (yX10_refines, cX10_refines, 5, none, 4, 98)
abbrev miX10_register : MI := (yX10_register, cX10_register, 7, (some .int), 1, 22)
abbrev miX10_rowAt : MI := (yX10_rowAt, cX10_rowAt, 4, (some .int), 0, 0)
abbrev miX10_run : MI := (yX10_run, cX10_run, 9, (some .int), 3, 72)
abbrev miX10_same : MI := (yX10_same, cX10_same, 5, (some .int), 4, 97)
abbrev miX10_share : MI := (yX10_share, cX10_share, 5, (some .int), 3, 70)
abbrev miX10_sign : MI := (yX10_sign, cX10_sign, 2, (some .int), 0, 0)
abbrev miX10_sixteenths : MI := (yX10_sixteenths, cX10_sixteenths, 2, (some .int), 0, 0)
abbrev miX10_steady : MI := (yX10_steady, cX10_steady, 6, (some .int), 4, 97)
abbrev miX10_then : MI := (yX10_then, cX10_then, 6, (some .int), 2, 47)
abbrev miX10_type : MI := (yX10_type, cX10_type, 2, (some .int), 1, 22)
abbrev miX10_undo : MI := (yX10_undo, cX10_undo, 2, (some .int), 0, 0)
abbrev miX10_wireAt : MI := (yX10_wireAt, cX10_wireAt, 3, (some .int), 1, 22)
abbrev miX10_works : MI := (yX10_works, cX10_works, 3, (some .int), 0, 0)
abbrev miX2_dropOldest : MI := (yX2_dropOldest, cX2_dropOldest, 2, none, 1, 22)
abbrev miX2_giveBack : MI := (yX2_giveBack, cX2_giveBack, 5, none, 2, 44)
abbrev miX2_init : MI := (yX2_init, cX2_init, 1, none, 2, 33)
abbrev miX2_keep : MI := (yX2_keep, cX2_keep, 5, none, 2, 43)
abbrev miX2_size : MI := (yX2_size, cX2_size, 1, (some .int), 0, 0)
abbrev miX3_forgetAll : MI := (yX3_forgetAll, cX3_forgetAll, 2, none, 1, 22)
abbrev miX3_init : MI := (yX3_init, cX3_init, 1, none, 2, 33)
abbrev miX3_isLateBy : MI := (yX3_isLateBy, cX3_isLateBy, 7, (some .boolean), 3, 75)
abbrev miX3_meet : MI := (yX3_meet, cX3_meet, 5, none, 1, 22)
abbrev miX3_step : MI := (yX3_step, cX3_step, 10, (some .boolean), 2, 46)
abbrev miX4_init : MI := (yX4_init, cX4_init, 1, none, 2, 33)
abbrev miX4_inputsOnWay : MI := (yX4_inputsOnWay, cX4_inputsOnWay, 5, (some .int), 2, 42)
abbrev miX4_meet : MI := (yX4_meet, cX4_meet, 6, none, 1, 22)
abbrev miX4_oneState : MI := (yX4_oneState, cX4_oneState, 2, (some .int), 1, 21)
abbrev miX4_size : MI := (yX4_size, cX4_size, 1, (some .int), 0, 0)
abbrev miX4_ticksTo : MI := (yX4_ticksTo, cX4_ticksTo, 2, (some .int), 1, 21)
abbrev miX4_walkFromFirst : MI := (yX4_walkFromFirst, cX4_walkFromFirst, 5, none, 2, 47)
abbrev miX4_zeroState : MI := (yX4_zeroState, cX4_zeroState, 2, (some .int), 1, 21)
abbrev miX5_circuitRead : MI := (yX5_circuitRead, cX5_circuitRead, 1, (some (.object "TickCircuits$Circuit")), 0, 0)
abbrev miX5_digitAt : MI := (yX5_digitAt, cX5_digitAt, 4, (some .int), 2, 42)
abbrev miX5_faultPosition : MI := (yX5_faultPosition, cX5_faultPosition, 1, (some .int), 0, 0)
abbrev miX5_faultReason : MI := (yX5_faultReason, cX5_faultReason, 1, (some .int), 0, 0)
abbrev miX5_init : MI := (yX5_init, cX5_init, 1, none, 4, 86)
abbrev miX5_partEndsAt : MI := (yX5_partEndsAt, cX5_partEndsAt, 3, (some .boolean), 2, 42)
abbrev miX5_readGate : MI := (yX5_readGate, cX5_readGate, 6, none, 3, 65)
abbrev miX5_readOutput : MI := (yX5_readOutput, cX5_readOutput, 3, none, 3, 65)
abbrev miX5_readPart : MI := (yX5_readPart, cX5_readPart, 3, none, 4, 90)
abbrev miX5_readRegister : MI := (yX5_readRegister, cX5_readRegister, 5, none, 3, 65)
abbrev miX5_readWhole : MI := (yX5_readWhole, cX5_readWhole, 3, none, 5, 112)
abbrev miX6_clear : MI := (yX6_clear, cX6_clear, 1, none, 1, 23)
abbrev miX6_get : MI := (yX6_get, cX6_get, 2, (some .int), 0, 0)
abbrev miX6_init : MI := (yX6_init, cX6_init, 2, none, 1, 12)
abbrev miX6_set : MI := (yX6_set, cX6_set, 3, none, 0, 0)
abbrev miX7_fillFrom : MI := (yX7_fillFrom, cX7_fillFrom, 6, none, 3, 68)
abbrev miX7_firstState : MI := (yX7_firstState, cX7_firstState, 1, (some .int), 0, 0)
abbrev miX7_init : MI := (yX7_init, cX7_init, 1, none, 2, 33)
abbrev miX7_outputSet : MI := (yX7_outputSet, cX7_outputSet, 2, (some .int), 1, 21)
abbrev miX7_stateBehind : MI := (yX7_stateBehind, cX7_stateBehind, 3, (some .int), 1, 21)
abbrev miX7_statesBehindAny : MI := (yX7_statesBehindAny, cX7_statesBehindAny, 5, (some .int), 2, 43)
abbrev miX7_statesComeTo : MI := (yX7_statesComeTo, cX7_statesComeTo, 3, (some .int), 3, 67)
abbrev miX7_steadyRegisters : MI := (yX7_steadyRegisters, cX7_steadyRegisters, 4, (some .int), 1, 21)
abbrev miX8_append : MI := (yX8_append, cX8_append, 2, none, 1, 22)
abbrev miX8_characterAt : MI := (yX8_characterAt, cX8_characterAt, 2, (some .int), 1, 21)
abbrev miX8_empty : MI := (yX8_empty, cX8_empty, 1, none, 0, 0)
abbrev miX8_init : MI := (yX8_init, cX8_init, 1, none, 2, 33)
abbrev miX8_length : MI := (yX8_length, cX8_length, 1, (some .int), 0, 0)
abbrev miX9_apart : MI := (yX9_apart, cX9_apart, 4, (some .int), 5, 114)
abbrev miX9_areInputs : MI := (yX9_areInputs, cX9_areInputs, 1, (some .boolean), 1, 22)
abbrev miX9_behind : MI := (yX9_behind, cX9_behind, 5, (some .int), 3, 68)
abbrev miX9_bit : MI := (yX9_bit, cX9_bit, 5, (some .int), 3, 68)
abbrev miX9_bitOf : MI := (yX9_bitOf, cX9_bitOf, 2, (some .int), 0, 0)
abbrev miX9_circuitAt : MI := (yX9_circuitAt, cX9_circuitAt, 2, (some (.object "TickCircuits$Circuit")), 0, 0)
abbrev miX9_circuitOf : MI := (yX9_circuitOf, cX9_circuitOf, 4, (some .int), 7, 167)
abbrev miX9_clearText : MI := (yX9_clearText, cX9_clearText, 2, (some .int), 1, 20)
abbrev miX9_copy : MI := (yX9_copy, cX9_copy, 3, (some .int), 3, 67)
abbrev miX9_count : MI := (yX9_count, cX9_count, 2, (some .int), 6, 135)
abbrev miX9_differingInputs : MI := (yX9_differingInputs, cX9_differingInputs, 2, (some .int), 2, 42)
abbrev miX9_dropGate : MI := (yX9_dropGate, cX9_dropGate, 3, (some .int), 3, 67)
abbrev miX9_fault : MI := (yX9_fault, cX9_fault, 2, (some .int), 6, 134)
abbrev miX9_firstPairApart : MI := (yX9_firstPairApart, cX9_firstPairApart, 2, (some .int), 3, 63)
abbrev miX9_floatBitsOfSixteenths : MI := (yX9_floatBitsOfSixteenths, cX9_floatBitsOfSixteenths, 4, (some .int), 0, 0)
abbrev miX9_gate : MI := (yX9_gate, cX9_gate, 7, (some .int), 3, 67)
abbrev miX9_init : MI := (yX9_init, cX9_init, 1, none, 5, 106)
abbrev miX9_isCircuit : MI := (yX9_isCircuit, cX9_isCircuit, 1, (some .boolean), 1, 22)
abbrev miX9_isRegister : MI := (yX9_isRegister, cX9_isRegister, 1, (some .boolean), 1, 22)
abbrev miX9_isState : MI := (yX9_isState, cX9_isState, 1, (some .boolean), 1, 22)
abbrev miX9_isWire : MI := (yX9_isWire, cX9_isWire, 1, (some .boolean), 1, 22)
abbrev miX9_isWithin : MI := (yX9_isWithin, cX9_isWithin, 3, (some .boolean), 0, 0)
abbrev miX9_kinds : MI := (yX9_kinds, cX9_kinds, 4, (some .int), 6, 135)
abbrev miX9_late : MI := (yX9_late, cX9_late, 2, (some .int), 4, 101)
abbrev miX9_leastOf : MI := (yX9_leastOf, cX9_leastOf, 2, (some .int), 1, 21)
abbrev miX9_mayFeed : MI := (yX9_mayFeed, cX9_mayFeed, 2, (some .boolean), 1, 22)
abbrev miX9_neverApart : MI := (yX9_neverApart, cX9_neverApart, 2, (some .boolean), 5, 114)
abbrev miX9_output : MI := (yX9_output, cX9_output, 5, (some .int), 3, 67)
abbrev miX9_pairOf : MI := (yX9_pairOf, cX9_pairOf, 3, (some .int), 5, 114)
abbrev miX9_pairs : MI := (yX9_pairs, cX9_pairs, 1, (some .int), 5, 114)
abbrev miX9_read : MI := (yX9_read, cX9_read, 3, (some .int), 6, 134)
abbrev miX9_register : MI := (yX9_register, cX9_register, 7, (some .int), 3, 67)
abbrev miX9_run : MI := (yX9_run, cX9_run, 10, (some .int), 3, 68)
abbrev miX9_same : MI := (yX9_same, cX9_same, 5, (some .int), 5, 114)
abbrev miX9_share : MI := (yX9_share, cX9_share, 6, (some .int), 3, 68)
abbrev miX9_tellGate : MI := (yX9_tellGate, cX9_tellGate, 3, (some .int), 2, 42)
abbrev miX9_tellStates : MI := (yX9_tellStates, cX9_tellStates, 4, (some .int), 6, 144)
abbrev miX9_tellWires : MI := (yX9_tellWires, cX9_tellWires, 2, (some .int), 3, 66)
abbrev miX9_type : MI := (yX9_type, cX9_type, 2, (some .int), 2, 43)
abbrev miX9_undo : MI := (yX9_undo, cX9_undo, 1, (some .int), 3, 68)
abbrev miX9_walkWith : MI := (yX9_walkWith, cX9_walkWith, 2, none, 4, 93)
theorem uwX0 : ∀ w ∈ u_ws RX0 TX0 1, w ∈ TBL := by
  intro w hw
  obtain ⟨k, hk, rfl⟩ := List.mem_map.mp hw
  have hk := List.mem_range.mp hk
  match k, hk with
  | 0, _ => exact inT1 138 rfl rfl
  | k + 1, h => exact absurd h (by omega)
theorem uwX1 : ∀ w ∈ u_ws RX1 TX1 4, w ∈ TBL := by
  intro w hw
  obtain ⟨k, hk, rfl⟩ := List.mem_map.mp hw
  have hk := List.mem_range.mp hk
  match k, hk with
  | 0, _ => exact inT1 54 rfl rfl
  | 1, _ => exact inT1 56 rfl rfl
  | 2, _ => exact inT1 58 rfl rfl
  | 3, _ => exact inT1 60 rfl rfl
  | k + 4, h => exact absurd h (by omega)
theorem uwX10 : ∀ w ∈ u_ws RX10 TX10 23, w ∈ TBL := by
  intro w hw
  obtain ⟨k, hk, rfl⟩ := List.mem_map.mp hw
  have hk := List.mem_range.mp hk
  match k, hk with
  | 0, _ => exact inT3 229 rfl rfl
  | 1, _ => exact inT3 231 rfl rfl
  | 2, _ => exact inT3 233 rfl rfl
  | 3, _ => exact inT3 235 rfl rfl
  | 4, _ => exact inT3 237 rfl rfl
  | 5, _ => exact inT3 239 rfl rfl
  | 6, _ => exact inT4 1 rfl rfl
  | 7, _ => exact inT4 3 rfl rfl
  | 8, _ => exact inT4 5 rfl rfl
  | 9, _ => exact inT4 7 rfl rfl
  | 10, _ => exact inT4 9 rfl rfl
  | 11, _ => exact inT4 11 rfl rfl
  | 12, _ => exact inT4 13 rfl rfl
  | 13, _ => exact inT4 15 rfl rfl
  | 14, _ => exact inT4 17 rfl rfl
  | 15, _ => exact inT4 19 rfl rfl
  | 16, _ => exact inT4 21 rfl rfl
  | 17, _ => exact inT4 23 rfl rfl
  | 18, _ => exact inT4 25 rfl rfl
  | 19, _ => exact inT4 27 rfl rfl
  | 20, _ => exact inT4 29 rfl rfl
  | 21, _ => exact inT4 31 rfl rfl
  | 22, _ => exact inT4 33 rfl rfl
  | k + 23, h => exact absurd h (by omega)
theorem uwX2 : ∀ w ∈ u_ws RX2 TX2 2, w ∈ TBL := by
  intro w hw
  obtain ⟨k, hk, rfl⟩ := List.mem_map.mp hw
  have hk := List.mem_range.mp hk
  match k, hk with
  | 0, _ => exact inT1 151 rfl rfl
  | 1, _ => exact inT1 153 rfl rfl
  | k + 2, h => exact absurd h (by omega)
theorem uwX3 : ∀ w ∈ u_ws RX3 TX3 3, w ∈ TBL := by
  intro w hw
  obtain ⟨k, hk, rfl⟩ := List.mem_map.mp hw
  have hk := List.mem_range.mp hk
  match k, hk with
  | 0, _ => exact inT1 122 rfl rfl
  | 1, _ => exact inT1 124 rfl rfl
  | 2, _ => exact inT1 126 rfl rfl
  | k + 3, h => exact absurd h (by omega)
theorem uwX4 : ∀ w ∈ u_ws RX4 TX4 7, w ∈ TBL := by
  intro w hw
  obtain ⟨k, hk, rfl⟩ := List.mem_map.mp hw
  have hk := List.mem_range.mp hk
  match k, hk with
  | 0, _ => exact inT1 96 rfl rfl
  | 1, _ => exact inT1 98 rfl rfl
  | 2, _ => exact inT1 100 rfl rfl
  | 3, _ => exact inT1 102 rfl rfl
  | 4, _ => exact inT1 104 rfl rfl
  | 5, _ => exact inT1 106 rfl rfl
  | 6, _ => exact inT1 108 rfl rfl
  | k + 7, h => exact absurd h (by omega)
theorem uwX5 : ∀ w ∈ u_ws RX5 TX5 4, w ∈ TBL := by
  intro w hw
  obtain ⟨k, hk, rfl⟩ := List.mem_map.mp hw
  have hk := List.mem_range.mp hk
  match k, hk with
  | 0, _ => exact inT1 183 rfl rfl
  | 1, _ => exact inT1 185 rfl rfl
  | 2, _ => exact inT1 187 rfl rfl
  | 3, _ => exact inT1 189 rfl rfl
  | k + 4, h => exact absurd h (by omega)
theorem uwX6 : ∀ w ∈ u_ws RX6 TX6 1, w ∈ TBL := by
  intro w hw
  obtain ⟨k, hk, rfl⟩ := List.mem_map.mp hw
  have hk := List.mem_range.mp hk
  match k, hk with
  | 0, _ => exact inT1 34 rfl rfl
  | k + 1, h => exact absurd h (by omega)
theorem uwX7 : ∀ w ∈ u_ws RX7 TX7 3, w ∈ TBL := by
  intro w hw
  obtain ⟨k, hk, rfl⟩ := List.mem_map.mp hw
  have hk := List.mem_range.mp hk
  match k, hk with
  | 0, _ => exact inT1 74 rfl rfl
  | 1, _ => exact inT1 76 rfl rfl
  | 2, _ => exact inT1 78 rfl rfl
  | k + 3, h => exact absurd h (by omega)
theorem uwX8 : ∀ w ∈ u_ws RX8 TX8 2, w ∈ TBL := by
  intro w hw
  obtain ⟨k, hk, rfl⟩ := List.mem_map.mp hw
  have hk := List.mem_range.mp hk
  match k, hk with
  | 0, _ => exact inT1 166 rfl rfl
  | 1, _ => exact inT1 168 rfl rfl
  | k + 2, h => exact absurd h (by omega)
theorem uwX9 : ∀ w ∈ u_ws RX9 TX9 12, w ∈ TBL := by
  intro w hw
  obtain ⟨k, hk, rfl⟩ := List.mem_map.mp hw
  have hk := List.mem_range.mp hk
  match k, hk with
  | 0, _ => exact inT1 204 rfl rfl
  | 1, _ => exact inT1 206 rfl rfl
  | 2, _ => exact inT1 208 rfl rfl
  | 3, _ => exact inT1 210 rfl rfl
  | 4, _ => exact inT1 212 rfl rfl
  | 5, _ => exact inT1 214 rfl rfl
  | 6, _ => exact inT1 216 rfl rfl
  | 7, _ => exact inT1 218 rfl rfl
  | 8, _ => exact inT1 220 rfl rfl
  | 9, _ => exact inT1 222 rfl rfl
  | 10, _ => exact inT1 224 rfl rfl
  | 11, _ => exact inT1 226 rfl rfl
  | k + 12, h => exact absurd h (by omega)
theorem moJ7_fill_53178 : MOkS miJ7_fill_53178 2 := ⟨inT2 165 rfl rfl, inT1 12 rfl rfl, inT2 166 rfl rfl, ⟨by decide, by decide, by decide +kernel⟩⟩
theorem moX0_classesAmong : MOkV miX0_classesAmong 2 := ⟨inT2 153 rfl rfl, inT2 154 rfl rfl, inT1 7 rfl rfl, inT2 155 rfl rfl, ⟨by decide, by decide, by decide +kernel⟩⟩
theorem moX0_findUnlike : MOkV miX0_findUnlike 1 := ⟨inT2 158 rfl rfl, inTp 4 rfl rfl, inT1 7 rfl rfl, inT2 159 rfl rfl, ⟨by decide, by decide, by decide +kernel⟩⟩
theorem moX0_leadToUnlike : MOkV miX0_leadToUnlike 3 := ⟨inT2 177 rfl rfl, inTp 6 rfl rfl, inT1 7 rfl rfl, inT2 178 rfl rfl, ⟨by decide, by decide, by decide +kernel⟩⟩
theorem moX0_unlikeTo : MOkV miX0_unlikeTo 2 := ⟨inT2 169 rfl rfl, inTp 5 rfl rfl, inT1 7 rfl rfl, inT2 170 rfl rfl, ⟨by decide, by decide, by decide +kernel⟩⟩
theorem moX1_dropLastGate : MOkV miX1_dropLastGate 0 := ⟨inT2 40 rfl rfl, inT2 41 rfl rfl, inT1 2 rfl rfl, inT2 42 rfl rfl, ⟨by decide, by decide, by decide +kernel⟩⟩
theorem moX1_firstBit : MOkV miX1_firstBit 1 := ⟨inT2 58 rfl rfl, inT2 59 rfl rfl, inT1 2 rfl rfl, inT2 60 rfl rfl, ⟨by decide, by decide, by decide +kernel⟩⟩
theorem moX1_firstState : MOkV miX1_firstState 0 := ⟨inT2 100 rfl rfl, inT2 101 rfl rfl, inT1 2 rfl rfl, inT2 102 rfl rfl, ⟨by decide, by decide, by decide +kernel⟩⟩
theorem moX1_firstWire : MOkV miX1_firstWire 1 := ⟨inT2 110 rfl rfl, inT2 111 rfl rfl, inT1 2 rfl rfl, inT2 112 rfl rfl, ⟨by decide, by decide, by decide +kernel⟩⟩
theorem moX1_gateBit : MOkS miX1_gateBit 3 := ⟨inT2 125 rfl rfl, inT1 2 rfl rfl, inT2 126 rfl rfl, ⟨by decide, by decide, by decide +kernel⟩⟩
theorem moX1_gateCount : MOkV miX1_gateCount 0 := ⟨inT2 5 rfl rfl, inT2 6 rfl rfl, inT1 2 rfl rfl, inT2 7 rfl rfl, ⟨by decide, by decide, by decide +kernel⟩⟩
theorem moX1_gateOnWire : MOkV miX1_gateOnWire 1 := ⟨inT2 193 rfl rfl, inTp 7 rfl rfl, inT1 2 rfl rfl, inT2 194 rfl rfl, ⟨by decide, by decide, by decide +kernel⟩⟩
theorem moX1_gatesBehindOutput : MOkV miX1_gatesBehindOutput 0 := ⟨inT2 188 rfl rfl, inT2 189 rfl rfl, inT1 2 rfl rfl, inT2 190 rfl rfl, ⟨by decide, by decide, by decide +kernel⟩⟩
theorem moX1_kindOf : MOkV miX1_kindOf 1 := ⟨inT2 121 rfl rfl, inT2 122 rfl rfl, inT1 2 rfl rfl, inT2 123 rfl rfl, ⟨by decide, by decide, by decide +kernel⟩⟩
theorem moX1_nextWire : MOkV miX1_nextWire 1 := ⟨inT2 54 rfl rfl, inT2 55 rfl rfl, inT1 2 rfl rfl, inT2 56 rfl rfl, ⟨by decide, by decide, by decide +kernel⟩⟩
theorem moX1_outputWire : MOkV miX1_outputWire 0 := ⟨inT2 67 rfl rfl, inT2 68 rfl rfl, inT1 2 rfl rfl, inT2 69 rfl rfl, ⟨by decide, by decide, by decide +kernel⟩⟩
theorem moX1_savedCell : MOkV miX1_savedCell 1 := ⟨inT2 26 rfl rfl, inT2 27 rfl rfl, inT1 2 rfl rfl, inT2 28 rfl rfl, ⟨by decide, by decide, by decide +kernel⟩⟩
theorem moX1_secondWire : MOkV miX1_secondWire 1 := ⟨inT2 117 rfl rfl, inT2 118 rfl rfl, inT1 2 rfl rfl, inT2 119 rfl rfl, ⟨by decide, by decide, by decide +kernel⟩⟩
theorem moX1_setGate : MOkV miX1_setGate 4 := ⟨inT2 31 rfl rfl, inT2 32 rfl rfl, inT1 2 rfl rfl, inT2 33 rfl rfl, ⟨by decide, by decide, by decide +kernel⟩⟩
theorem moX1_setOutputWire : MOkV miX1_setOutputWire 1 := ⟨inT2 71 rfl rfl, inT2 72 rfl rfl, inT1 2 rfl rfl, inT2 73 rfl rfl, ⟨by decide, by decide, by decide +kernel⟩⟩
theorem moX1_setRegister : MOkV miX1_setRegister 3 := ⟨inT1 43 rfl rfl, inT1 44 rfl rfl, inT1 2 rfl rfl, inT1 45 rfl rfl, ⟨by decide, by decide, by decide +kernel⟩⟩
theorem moX1_setSavedCell : MOkV miX1_setSavedCell 2 := ⟨inT2 84 rfl rfl, inT2 85 rfl rfl, inT1 2 rfl rfl, inT2 86 rfl rfl, ⟨by decide, by decide, by decide +kernel⟩⟩
theorem moX1_startAnew : MOkV miX1_startAnew 0 := ⟨inT1 39 rfl rfl, inT1 40 rfl rfl, inT1 2 rfl rfl, inT1 41 rfl rfl, ⟨by decide, by decide, by decide +kernel⟩⟩
theorem moX1_stateAfter : MOkV miX1_stateAfter 1 := ⟨inT2 130 rfl rfl, inT2 131 rfl rfl, inT1 2 rfl rfl, inT2 132 rfl rfl, ⟨by decide, by decide, by decide +kernel⟩⟩
theorem moX1_takeFrom : MOkV miX1_takeFrom 1 := ⟨inT2 79 rfl rfl, inT2 80 rfl rfl, inT1 2 rfl rfl, inT2 81 rfl rfl, ⟨by decide, by decide, by decide +kernel⟩⟩
theorem moX1_wireBits : MOkV miX1_wireBits 2 := ⟨inT2 105 rfl rfl, inT2 106 rfl rfl, inT1 2 rfl rfl, inT2 107 rfl rfl, ⟨by decide, by decide, by decide +kernel⟩⟩
theorem moX10_acted : MOkV miX10_acted 1 := ⟨inT4 59 rfl rfl, inTp 24 rfl rfl, inT1 11 rfl rfl, inT4 60 rfl rfl, ⟨by decide, by decide, by decide +kernel⟩⟩
theorem moX10_apart : MOkV miX10_apart 1 := ⟨inT4 166 rfl rfl, inT4 167 rfl rfl, inT1 11 rfl rfl, inT4 168 rfl rfl, ⟨by decide, by decide, by decide +kernel⟩⟩
theorem moX10_behind : MOkV miX10_behind 3 := ⟨inT4 90 rfl rfl, inT4 91 rfl rfl, inT1 11 rfl rfl, inT4 92 rfl rfl, ⟨by decide, by decide, by decide +kernel⟩⟩
theorem moX10_bit : MOkV miX10_bit 4 := ⟨inT4 79 rfl rfl, inT4 80 rfl rfl, inT1 11 rfl rfl, inT4 81 rfl rfl, ⟨by decide, by decide, by decide +kernel⟩⟩
theorem moX10_circuitOf : MOkV miX10_circuitOf 2 := ⟨inT4 117 rfl rfl, inT4 118 rfl rfl, inT1 11 rfl rfl, inT4 119 rfl rfl, ⟨by decide, by decide, by decide +kernel⟩⟩
theorem moX10_classes : MOkV miX10_classes 1 := ⟨inT4 130 rfl rfl, inTp 31 rfl rfl, inT1 11 rfl rfl, inT4 131 rfl rfl, ⟨by decide, by decide, by decide +kernel⟩⟩
theorem moX10_clearText : MOkV miX10_clearText 0 := ⟨inT4 198 rfl rfl, inT4 199 rfl rfl, inT1 11 rfl rfl, inT4 200 rfl rfl, ⟨by decide, by decide, by decide +kernel⟩⟩
theorem moX10_comesTo : MOkV miX10_comesTo 1 := ⟨inT4 122 rfl rfl, inTp 29 rfl rfl, inT1 11 rfl rfl, inT4 123 rfl rfl, ⟨by decide, by decide, by decide +kernel⟩⟩
theorem moX10_copy : MOkV miX10_copy 1 := ⟨inT4 75 rfl rfl, inT4 76 rfl rfl, inT1 11 rfl rfl, inT4 77 rfl rfl, ⟨by decide, by decide, by decide +kernel⟩⟩
theorem moX10_count : MOkV miX10_count 1 := ⟨inT4 186 rfl rfl, inT4 187 rfl rfl, inT1 11 rfl rfl, inT4 188 rfl rfl, ⟨by decide, by decide, by decide +kernel⟩⟩
theorem moX10_depends : MOkV miX10_depends 1 := ⟨inT4 142 rfl rfl, inTp 34 rfl rfl, inT1 11 rfl rfl, inT4 143 rfl rfl, ⟨by decide, by decide, by decide +kernel⟩⟩
theorem moX10_differs : MOkV miX10_differs 1 := ⟨inT4 155 rfl rfl, inTp 36 rfl rfl, inT1 11 rfl rfl, inT4 156 rfl rfl, ⟨by decide, by decide, by decide +kernel⟩⟩
theorem moX10_doesGate : MOkV miX10_doesGate 1 := ⟨inT4 227 rfl rfl, inTp 44 rfl rfl, inT1 11 rfl rfl, inT4 228 rfl rfl, ⟨by decide, by decide, by decide +kernel⟩⟩
theorem moX10_doesOutput : MOkV miX10_doesOutput 0 := ⟨inT4 223 rfl rfl, inTp 43 rfl rfl, inT1 11 rfl rfl, inT4 224 rfl rfl, ⟨by decide, by decide, by decide +kernel⟩⟩
theorem moX10_doesRegister : MOkV miX10_doesRegister 0 := ⟨inT4 215 rfl rfl, inTp 41 rfl rfl, inT1 11 rfl rfl, inT4 216 rfl rfl, ⟨by decide, by decide, by decide +kernel⟩⟩
theorem moX10_dropGate : MOkV miX10_dropGate 1 := ⟨inT4 62 rfl rfl, inT4 63 rfl rfl, inT1 11 rfl rfl, inT4 64 rfl rfl, ⟨by decide, by decide, by decide +kernel⟩⟩
theorem moX10_fault : MOkV miX10_fault 1 := ⟨inT4 202 rfl rfl, inT4 203 rfl rfl, inT1 11 rfl rfl, inT4 204 rfl rfl, ⟨by decide, by decide, by decide +kernel⟩⟩
theorem moX10_faulty : MOkV miX10_faulty 0 := ⟨inT4 207 rfl rfl, inTp 39 rfl rfl, inT1 11 rfl rfl, inT4 208 rfl rfl, ⟨by decide, by decide, by decide +kernel⟩⟩
theorem moX10_first : MOkV miX10_first 1 := ⟨inT4 103 rfl rfl, inTp 27 rfl rfl, inT1 11 rfl rfl, inT4 104 rfl rfl, ⟨by decide, by decide, by decide +kernel⟩⟩
theorem moX10_gate : MOkV miX10_gate 5 := ⟨inT4 38 rfl rfl, inT4 39 rfl rfl, inT1 11 rfl rfl, inT4 40 rfl rfl, ⟨by decide, by decide, by decide +kernel⟩⟩
theorem moX10_in : MOkS miX10_in 3 := ⟨inT4 42 rfl rfl, inT1 11 rfl rfl, inT4 43 rfl rfl, ⟨by decide, by decide, by decide +kernel⟩⟩
theorem moX10_isAlike : MOkV miX10_isAlike 4 := ⟨inT4 138 rfl rfl, inTp 33 rfl rfl, inT1 11 rfl rfl, inT4 139 rfl rfl, ⟨by decide, by decide, by decide +kernel⟩⟩
theorem moX10_isAllowed : MOkS miX10_isAllowed 2 := ⟨inT4 49 rfl rfl, inT1 11 rfl rfl, inT4 50 rfl rfl, ⟨by decide, by decide, by decide +kernel⟩⟩
theorem moX10_isLate : MOkV miX10_isLate 1 := ⟨inT4 175 rfl rfl, inTp 38 rfl rfl, inT1 11 rfl rfl, inT4 176 rfl rfl, ⟨by decide, by decide, by decide +kernel⟩⟩
theorem moX10_keeps : MOkV miX10_keeps 0 := ⟨inT4 55 rfl rfl, inTp 23 rfl rfl, inT1 11 rfl rfl, inT4 56 rfl rfl, ⟨by decide, by decide, by decide +kernel⟩⟩
theorem moX10_kinds : MOkV miX10_kinds 1 := ⟨inT4 182 rfl rfl, inT4 183 rfl rfl, inT1 11 rfl rfl, inT4 184 rfl rfl, ⟨by decide, by decide, by decide +kernel⟩⟩
theorem moX10_late : MOkV miX10_late 0 := ⟨inT4 170 rfl rfl, inT4 171 rfl rfl, inT1 11 rfl rfl, inT4 172 rfl rfl, ⟨by decide, by decide, by decide +kernel⟩⟩
theorem moX10_lays : MOkS miX10_lays 2 := ⟨inT3 204 rfl rfl, inT1 11 rfl rfl, inT3 205 rfl rfl, ⟨by decide, by decide, by decide +kernel⟩⟩
theorem moX10_lights : MOkV miX10_lights 3 := ⟨inT4 84 rfl rfl, inTp 25 rfl rfl, inT1 11 rfl rfl, inT4 85 rfl rfl, ⟨by decide, by decide, by decide +kernel⟩⟩
theorem moX10_of : MOkV miX10_of 2 := ⟨inT4 46 rfl rfl, inTp 22 rfl rfl, inT1 11 rfl rfl, inT4 47 rfl rfl, ⟨by decide, by decide, by decide +kernel⟩⟩
theorem moX10_out : MOkV miX10_out 3 := ⟨inT4 107 rfl rfl, inTp 28 rfl rfl, inT1 11 rfl rfl, inT4 108 rfl rfl, ⟨by decide, by decide, by decide +kernel⟩⟩
theorem moX10_output : MOkV miX10_output 2 := ⟨inT4 71 rfl rfl, inT4 72 rfl rfl, inT1 11 rfl rfl, inT4 73 rfl rfl, ⟨by decide, by decide, by decide +kernel⟩⟩
theorem moX10_pairOf : MOkV miX10_pairOf 2 := ⟨inT4 146 rfl rfl, inT4 147 rfl rfl, inT1 11 rfl rfl, inT4 148 rfl rfl, ⟨by decide, by decide, by decide +kernel⟩⟩
theorem moX10_pairs : MOkV miX10_pairs 0 := ⟨inT4 162 rfl rfl, inT4 163 rfl rfl, inT1 11 rfl rfl, inT4 164 rfl rfl, ⟨by decide, by decide, by decide +kernel⟩⟩
theorem moX10_pairsUp : MOkV miX10_pairsUp 0 := ⟨inT4 151 rfl rfl, inTp 35 rfl rfl, inT1 11 rfl rfl, inT4 152 rfl rfl, ⟨by decide, by decide, by decide +kernel⟩⟩
theorem moX10_read : MOkV miX10_read 1 := ⟨inT4 230 rfl rfl, inT4 231 rfl rfl, inT1 11 rfl rfl, inT4 232 rfl rfl, ⟨by decide, by decide, by decide +kernel⟩⟩
theorem moX10_refines : MOkV miX10_refines 2 := ⟨inT4 134 rfl rfl, inTp 32 rfl rfl, inT1 11 rfl rfl, inT4 135 rfl rfl, ⟨by decide, by decide, by decide +kernel⟩⟩
theorem moX10_register : MOkV miX10_register 4 := ⟨inT4 67 rfl rfl, inT4 68 rfl rfl, inT1 11 rfl rfl, inT4 69 rfl rfl, ⟨by decide, by decide, by decide +kernel⟩⟩
theorem moX10_rowAt : MOkV miX10_rowAt 2 := ⟨inT4 159 rfl rfl, inTp 37 rfl rfl, inT1 11 rfl rfl, inT4 160 rfl rfl, ⟨by decide, by decide, by decide +kernel⟩⟩
theorem moX10_run : MOkV miX10_run 4 := ⟨inT4 98 rfl rfl, inT4 99 rfl rfl, inT1 11 rfl rfl, inT4 100 rfl rfl, ⟨by decide, by decide, by decide +kernel⟩⟩
theorem moX10_same : MOkV miX10_same 1 := ⟨inT4 178 rfl rfl, inT4 179 rfl rfl, inT1 11 rfl rfl, inT4 180 rfl rfl, ⟨by decide, by decide, by decide +kernel⟩⟩
theorem moX10_share : MOkV miX10_share 2 := ⟨inT4 110 rfl rfl, inT4 111 rfl rfl, inT1 11 rfl rfl, inT4 112 rfl rfl, ⟨by decide, by decide, by decide +kernel⟩⟩
theorem moX10_sign : MOkV miX10_sign 1 := ⟨inT4 211 rfl rfl, inTp 40 rfl rfl, inT1 11 rfl rfl, inT4 212 rfl rfl, ⟨by decide, by decide, by decide +kernel⟩⟩
theorem moX10_sixteenths : MOkS miX10_sixteenths 1 := ⟨inT4 114 rfl rfl, inT1 11 rfl rfl, inT4 115 rfl rfl, ⟨by decide, by decide, by decide +kernel⟩⟩
theorem moX10_steady : MOkV miX10_steady 1 := ⟨inT4 126 rfl rfl, inTp 30 rfl rfl, inT1 11 rfl rfl, inT4 127 rfl rfl, ⟨by decide, by decide, by decide +kernel⟩⟩
theorem moX10_then : MOkV miX10_then 3 := ⟨inT4 95 rfl rfl, inTp 26 rfl rfl, inT1 11 rfl rfl, inT4 96 rfl rfl, ⟨by decide, by decide, by decide +kernel⟩⟩
theorem moX10_type : MOkV miX10_type 1 := ⟨inT4 194 rfl rfl, inT4 195 rfl rfl, inT1 11 rfl rfl, inT4 196 rfl rfl, ⟨by decide, by decide, by decide +kernel⟩⟩
theorem moX10_undo : MOkV miX10_undo 0 := ⟨inT4 190 rfl rfl, inT4 191 rfl rfl, inT1 11 rfl rfl, inT4 192 rfl rfl, ⟨by decide, by decide, by decide +kernel⟩⟩
theorem moX10_wireAt : MOkV miX10_wireAt 1 := ⟨inT4 219 rfl rfl, inTp 42 rfl rfl, inT1 11 rfl rfl, inT4 220 rfl rfl, ⟨by decide, by decide, by decide +kernel⟩⟩
theorem moX10_works : MOkS miX10_works 3 := ⟨inT4 87 rfl rfl, inT1 11 rfl rfl, inT4 88 rfl rfl, ⟨by decide, by decide, by decide +kernel⟩⟩
theorem moX2_dropOldest : MOkV miX2_dropOldest 0 := ⟨inT2 18 rfl rfl, inTp 1 rfl rfl, inT1 8 rfl rfl, inT2 19 rfl rfl, ⟨by decide, by decide, by decide +kernel⟩⟩
theorem moX2_giveBack : MOkV miX2_giveBack 2 := ⟨inT3 113 rfl rfl, inT3 114 rfl rfl, inT1 8 rfl rfl, inT3 115 rfl rfl, ⟨by decide, by decide, by decide +kernel⟩⟩
theorem moX2_keep : MOkV miX2_keep 2 := ⟨inT2 13 rfl rfl, inT2 14 rfl rfl, inT1 8 rfl rfl, inT2 15 rfl rfl, ⟨by decide, by decide, by decide +kernel⟩⟩
theorem moX2_size : MOkV miX2_size 0 := ⟨inT3 101 rfl rfl, inT3 102 rfl rfl, inT1 8 rfl rfl, inT3 103 rfl rfl, ⟨by decide, by decide, by decide +kernel⟩⟩
theorem moX3_forgetAll : MOkV miX3_forgetAll 0 := ⟨inT3 82 rfl rfl, inTp 14 rfl rfl, inT1 6 rfl rfl, inT3 83 rfl rfl, ⟨by decide, by decide, by decide +kernel⟩⟩
theorem moX3_isLateBy : MOkV miX3_isLateBy 3 := ⟨inT3 63 rfl rfl, inT3 64 rfl rfl, inT1 6 rfl rfl, inT3 65 rfl rfl, ⟨by decide, by decide, by decide +kernel⟩⟩
theorem moX3_meet : MOkV miX3_meet 3 := ⟨inT3 69 rfl rfl, inTp 12 rfl rfl, inT1 6 rfl rfl, inT3 70 rfl rfl, ⟨by decide, by decide, by decide +kernel⟩⟩
theorem moX3_step : MOkV miX3_step 5 := ⟨inT3 75 rfl rfl, inTp 13 rfl rfl, inT1 6 rfl rfl, inT3 76 rfl rfl, ⟨by decide, by decide, by decide +kernel⟩⟩
theorem moX4_inputsOnWay : MOkV miX4_inputsOnWay 2 := ⟨inT3 39 rfl rfl, inT3 40 rfl rfl, inT1 5 rfl rfl, inT3 41 rfl rfl, ⟨by decide, by decide, by decide +kernel⟩⟩
theorem moX4_meet : MOkV miX4_meet 4 := ⟨inT3 10 rfl rfl, inTp 9 rfl rfl, inT1 5 rfl rfl, inT3 11 rfl rfl, ⟨by decide, by decide, by decide +kernel⟩⟩
theorem moX4_oneState : MOkV miX4_oneState 1 := ⟨inT3 20 rfl rfl, inT3 21 rfl rfl, inT1 5 rfl rfl, inT3 22 rfl rfl, ⟨by decide, by decide, by decide +kernel⟩⟩
theorem moX4_size : MOkV miX4_size 0 := ⟨inT3 24 rfl rfl, inT3 25 rfl rfl, inT1 5 rfl rfl, inT3 26 rfl rfl, ⟨by decide, by decide, by decide +kernel⟩⟩
theorem moX4_ticksTo : MOkV miX4_ticksTo 1 := ⟨inT3 30 rfl rfl, inT3 31 rfl rfl, inT1 5 rfl rfl, inT3 32 rfl rfl, ⟨by decide, by decide, by decide +kernel⟩⟩
theorem moX4_walkFromFirst : MOkV miX4_walkFromFirst 2 := ⟨inT3 0 rfl rfl, inT3 1 rfl rfl, inT1 5 rfl rfl, inT3 2 rfl rfl, ⟨by decide, by decide, by decide +kernel⟩⟩
theorem moX4_zeroState : MOkV miX4_zeroState 1 := ⟨inT3 15 rfl rfl, inT3 16 rfl rfl, inT1 5 rfl rfl, inT3 17 rfl rfl, ⟨by decide, by decide, by decide +kernel⟩⟩
theorem moX5_circuitRead : MOkV miX5_circuitRead 0 := ⟨inT3 194 rfl rfl, inT3 195 rfl rfl, inT1 10 rfl rfl, inT3 196 rfl rfl, ⟨by decide, by decide, by decide +kernel⟩⟩
theorem moX5_digitAt : MOkV miX5_digitAt 2 := ⟨inT3 159 rfl rfl, inTp 18 rfl rfl, inT1 10 rfl rfl, inT3 160 rfl rfl, ⟨by decide, by decide, by decide +kernel⟩⟩
theorem moX5_faultPosition : MOkV miX5_faultPosition 0 := ⟨inT3 186 rfl rfl, inT3 187 rfl rfl, inT1 10 rfl rfl, inT3 188 rfl rfl, ⟨by decide, by decide, by decide +kernel⟩⟩
theorem moX5_faultReason : MOkV miX5_faultReason 0 := ⟨inT3 182 rfl rfl, inT3 183 rfl rfl, inT1 10 rfl rfl, inT3 184 rfl rfl, ⟨by decide, by decide, by decide +kernel⟩⟩
theorem moX5_partEndsAt : MOkV miX5_partEndsAt 2 := ⟨inT3 165 rfl rfl, inTp 19 rfl rfl, inT1 10 rfl rfl, inT3 166 rfl rfl, ⟨by decide, by decide, by decide +kernel⟩⟩
theorem moX5_readGate : MOkV miX5_readGate 1 := ⟨inT3 176 rfl rfl, inTp 21 rfl rfl, inT1 10 rfl rfl, inT3 177 rfl rfl, ⟨by decide, by decide, by decide +kernel⟩⟩
theorem moX5_readOutput : MOkV miX5_readOutput 1 := ⟨inT3 171 rfl rfl, inTp 20 rfl rfl, inT1 10 rfl rfl, inT3 172 rfl rfl, ⟨by decide, by decide, by decide +kernel⟩⟩
theorem moX5_readPart : MOkV miX5_readPart 1 := ⟨inT3 146 rfl rfl, inTp 16 rfl rfl, inT1 10 rfl rfl, inT3 147 rfl rfl, ⟨by decide, by decide, by decide +kernel⟩⟩
theorem moX5_readRegister : MOkV miX5_readRegister 1 := ⟨inT3 155 rfl rfl, inTp 17 rfl rfl, inT1 10 rfl rfl, inT3 156 rfl rfl, ⟨by decide, by decide, by decide +kernel⟩⟩
theorem moX5_readWhole : MOkV miX5_readWhole 1 := ⟨inT3 139 rfl rfl, inT3 140 rfl rfl, inT1 10 rfl rfl, inT3 141 rfl rfl, ⟨by decide, by decide, by decide +kernel⟩⟩
theorem moX6_clear : MOkV miX6_clear 0 := ⟨inT2 161 rfl rfl, inT2 162 rfl rfl, inT1 3 rfl rfl, inT2 163 rfl rfl, ⟨by decide, by decide, by decide +kernel⟩⟩
theorem moX6_get : MOkV miX6_get 1 := ⟨inT2 21 rfl rfl, inT2 22 rfl rfl, inT1 3 rfl rfl, inT2 23 rfl rfl, ⟨by decide, by decide, by decide +kernel⟩⟩
theorem moX6_set : MOkV miX6_set 2 := ⟨inT1 47 rfl rfl, inT1 48 rfl rfl, inT1 3 rfl rfl, inT1 49 rfl rfl, ⟨by decide, by decide, by decide +kernel⟩⟩
theorem moX7_fillFrom : MOkV miX7_fillFrom 1 := ⟨inT2 96 rfl rfl, inT2 97 rfl rfl, inT1 4 rfl rfl, inT2 98 rfl rfl, ⟨by decide, by decide, by decide +kernel⟩⟩
theorem moX7_firstState : MOkV miX7_firstState 0 := ⟨inT3 5 rfl rfl, inT3 6 rfl rfl, inT1 4 rfl rfl, inT3 7 rfl rfl, ⟨by decide, by decide, by decide +kernel⟩⟩
theorem moX7_outputSet : MOkV miX7_outputSet 1 := ⟨inT2 172 rfl rfl, inT2 173 rfl rfl, inT1 4 rfl rfl, inT2 174 rfl rfl, ⟨by decide, by decide, by decide +kernel⟩⟩
theorem moX7_stateBehind : MOkV miX7_stateBehind 2 := ⟨inT2 144 rfl rfl, inT2 145 rfl rfl, inT1 4 rfl rfl, inT2 146 rfl rfl, ⟨by decide, by decide, by decide +kernel⟩⟩
theorem moX7_statesBehindAny : MOkV miX7_statesBehindAny 1 := ⟨inT2 141 rfl rfl, inTp 3 rfl rfl, inT1 4 rfl rfl, inT2 142 rfl rfl, ⟨by decide, by decide, by decide +kernel⟩⟩
theorem moX7_statesComeTo : MOkV miX7_statesComeTo 0 := ⟨inT2 136 rfl rfl, inT2 137 rfl rfl, inT1 4 rfl rfl, inT2 138 rfl rfl, ⟨by decide, by decide, by decide +kernel⟩⟩
theorem moX7_steadyRegisters : MOkV miX7_steadyRegisters 1 := ⟨inT2 149 rfl rfl, inT2 150 rfl rfl, inT1 4 rfl rfl, inT2 151 rfl rfl, ⟨by decide, by decide, by decide +kernel⟩⟩
theorem moX8_append : MOkV miX8_append 1 := ⟨inT3 122 rfl rfl, inT3 123 rfl rfl, inT1 9 rfl rfl, inT3 124 rfl rfl, ⟨by decide, by decide, by decide +kernel⟩⟩
theorem moX8_characterAt : MOkV miX8_characterAt 1 := ⟨inT3 149 rfl rfl, inT3 150 rfl rfl, inT1 9 rfl rfl, inT3 151 rfl rfl, ⟨by decide, by decide, by decide +kernel⟩⟩
theorem moX8_empty : MOkV miX8_empty 0 := ⟨inT3 131 rfl rfl, inT3 132 rfl rfl, inT1 9 rfl rfl, inT3 133 rfl rfl, ⟨by decide, by decide, by decide +kernel⟩⟩
theorem moX8_length : MOkV miX8_length 0 := ⟨inT3 105 rfl rfl, inT3 106 rfl rfl, inT1 9 rfl rfl, inT3 107 rfl rfl, ⟨by decide, by decide, by decide +kernel⟩⟩
theorem moX9_apart : MOkV miX9_apart 1 := ⟨inT3 48 rfl rfl, inT3 49 rfl rfl, inT1 1 rfl rfl, inT3 50 rfl rfl, ⟨by decide, by decide, by decide +kernel⟩⟩
theorem moX9_areInputs : MOkS miX9_areInputs 1 := ⟨inT2 211 rfl rfl, inT1 1 rfl rfl, inT2 212 rfl rfl, ⟨by decide, by decide, by decide +kernel⟩⟩
theorem moX9_behind : MOkV miX9_behind 3 := ⟨inT2 216 rfl rfl, inT2 217 rfl rfl, inT1 1 rfl rfl, inT2 218 rfl rfl, ⟨by decide, by decide, by decide +kernel⟩⟩
theorem moX9_bit : MOkV miX9_bit 4 := ⟨inT2 204 rfl rfl, inT2 205 rfl rfl, inT1 1 rfl rfl, inT2 206 rfl rfl, ⟨by decide, by decide, by decide +kernel⟩⟩
theorem moX9_bitOf : MOkS miX9_bitOf 2 := ⟨inT2 114 rfl rfl, inT1 1 rfl rfl, inT2 115 rfl rfl, ⟨by decide, by decide, by decide +kernel⟩⟩
theorem moX9_circuitAt : MOkV miX9_circuitAt 1 := ⟨inT2 2 rfl rfl, inTp 0 rfl rfl, inT1 1 rfl rfl, inT2 3 rfl rfl, ⟨by decide, by decide, by decide +kernel⟩⟩
theorem moX9_circuitOf : MOkV miX9_circuitOf 2 := ⟨inT2 88 rfl rfl, inT2 89 rfl rfl, inT1 1 rfl rfl, inT2 90 rfl rfl, ⟨by decide, by decide, by decide +kernel⟩⟩
theorem moX9_clearText : MOkV miX9_clearText 0 := ⟨inT3 127 rfl rfl, inT3 128 rfl rfl, inT1 1 rfl rfl, inT3 129 rfl rfl, ⟨by decide, by decide, by decide +kernel⟩⟩
theorem moX9_copy : MOkV miX9_copy 1 := ⟨inT2 75 rfl rfl, inT2 76 rfl rfl, inT1 1 rfl rfl, inT2 77 rfl rfl, ⟨by decide, by decide, by decide +kernel⟩⟩
theorem moX9_count : MOkV miX9_count 1 := ⟨inT3 97 rfl rfl, inT3 98 rfl rfl, inT1 1 rfl rfl, inT3 99 rfl rfl, ⟨by decide, by decide, by decide +kernel⟩⟩
theorem moX9_differingInputs : MOkV miX9_differingInputs 1 := ⟨inT3 35 rfl rfl, inTp 10 rfl rfl, inT1 1 rfl rfl, inT3 36 rfl rfl, ⟨by decide, by decide, by decide +kernel⟩⟩
theorem moX9_dropGate : MOkV miX9_dropGate 1 := ⟨inT2 35 rfl rfl, inT2 36 rfl rfl, inT1 1 rfl rfl, inT2 37 rfl rfl, ⟨by decide, by decide, by decide +kernel⟩⟩
theorem moX9_fault : MOkV miX9_fault 1 := ⟨inT3 135 rfl rfl, inT3 136 rfl rfl, inT1 1 rfl rfl, inT3 137 rfl rfl, ⟨by decide, by decide, by decide +kernel⟩⟩
theorem moX9_firstPairApart : MOkV miX9_firstPairApart 0 := ⟨inT3 53 rfl rfl, inTp 11 rfl rfl, inT1 1 rfl rfl, inT3 54 rfl rfl, ⟨by decide, by decide, by decide +kernel⟩⟩
theorem moX9_floatBitsOfSixteenths : MOkS miX9_floatBitsOfSixteenths 1 := ⟨inT2 229 rfl rfl, inT1 1 rfl rfl, inT2 230 rfl rfl, ⟨by decide, by decide, by decide +kernel⟩⟩
theorem moX9_gate : MOkV miX9_gate 5 := ⟨inT1 230 rfl rfl, inT1 231 rfl rfl, inT1 1 rfl rfl, inT1 232 rfl rfl, ⟨by decide, by decide, by decide +kernel⟩⟩
theorem moX9_isCircuit : MOkS miX9_isCircuit 1 := ⟨inT1 234 rfl rfl, inT1 1 rfl rfl, inT1 235 rfl rfl, ⟨by decide, by decide, by decide +kernel⟩⟩
theorem moX9_isRegister : MOkS miX9_isRegister 1 := ⟨inT2 48 rfl rfl, inT1 1 rfl rfl, inT2 49 rfl rfl, ⟨by decide, by decide, by decide +kernel⟩⟩
theorem moX9_isState : MOkS miX9_isState 1 := ⟨inT2 208 rfl rfl, inT1 1 rfl rfl, inT2 209 rfl rfl, ⟨by decide, by decide, by decide +kernel⟩⟩
theorem moX9_isWire : MOkS miX9_isWire 1 := ⟨inT2 51 rfl rfl, inT1 1 rfl rfl, inT2 52 rfl rfl, ⟨by decide, by decide, by decide +kernel⟩⟩
theorem moX9_isWithin : MOkS miX9_isWithin 3 := ⟨inT1 237 rfl rfl, inT1 1 rfl rfl, inT1 238 rfl rfl, ⟨by decide, by decide, by decide +kernel⟩⟩
theorem moX9_kinds : MOkV miX9_kinds 1 := ⟨inT3 89 rfl rfl, inT3 90 rfl rfl, inT1 1 rfl rfl, inT3 91 rfl rfl, ⟨by decide, by decide, by decide +kernel⟩⟩
theorem moX9_late : MOkV miX9_late 0 := ⟨inT3 59 rfl rfl, inT3 60 rfl rfl, inT1 1 rfl rfl, inT3 61 rfl rfl, ⟨by decide, by decide, by decide +kernel⟩⟩
theorem moX9_leastOf : MOkS miX9_leastOf 1 := ⟨inT3 56 rfl rfl, inT1 1 rfl rfl, inT3 57 rfl rfl, ⟨by decide, by decide, by decide +kernel⟩⟩
theorem moX9_mayFeed : MOkS miX9_mayFeed 2 := ⟨inT2 9 rfl rfl, inT1 1 rfl rfl, inT2 10 rfl rfl, ⟨by decide, by decide, by decide +kernel⟩⟩
theorem moX9_neverApart : MOkV miX9_neverApart 1 := ⟨inT3 94 rfl rfl, inTp 15 rfl rfl, inT1 1 rfl rfl, inT3 95 rfl rfl, ⟨by decide, by decide, by decide +kernel⟩⟩
theorem moX9_output : MOkV miX9_output 2 := ⟨inT2 63 rfl rfl, inT2 64 rfl rfl, inT1 1 rfl rfl, inT2 65 rfl rfl, ⟨by decide, by decide, by decide +kernel⟩⟩
theorem moX9_pairOf : MOkV miX9_pairOf 2 := ⟨inT2 232 rfl rfl, inT2 233 rfl rfl, inT1 1 rfl rfl, inT2 234 rfl rfl, ⟨by decide, by decide, by decide +kernel⟩⟩
theorem moX9_pairs : MOkV miX9_pairs 0 := ⟨inT3 44 rfl rfl, inT3 45 rfl rfl, inT1 1 rfl rfl, inT3 46 rfl rfl, ⟨by decide, by decide, by decide +kernel⟩⟩
theorem moX9_read : MOkV miX9_read 1 := ⟨inT3 190 rfl rfl, inT3 191 rfl rfl, inT1 1 rfl rfl, inT3 192 rfl rfl, ⟨by decide, by decide, by decide +kernel⟩⟩
theorem moX9_register : MOkV miX9_register 4 := ⟨inT2 44 rfl rfl, inT2 45 rfl rfl, inT1 1 rfl rfl, inT2 46 rfl rfl, ⟨by decide, by decide, by decide +kernel⟩⟩
theorem moX9_run : MOkV miX9_run 4 := ⟨inT2 221 rfl rfl, inT2 222 rfl rfl, inT1 1 rfl rfl, inT2 223 rfl rfl, ⟨by decide, by decide, by decide +kernel⟩⟩
theorem moX9_same : MOkV miX9_same 1 := ⟨inT3 85 rfl rfl, inT3 86 rfl rfl, inT1 1 rfl rfl, inT3 87 rfl rfl, ⟨by decide, by decide, by decide +kernel⟩⟩
theorem moX9_share : MOkV miX9_share 2 := ⟨inT2 225 rfl rfl, inT2 226 rfl rfl, inT1 1 rfl rfl, inT2 227 rfl rfl, ⟨by decide, by decide, by decide +kernel⟩⟩
theorem moX9_tellGate : MOkS miX9_tellGate 3 := ⟨inT2 197 rfl rfl, inT1 1 rfl rfl, inT2 198 rfl rfl, ⟨by decide, by decide, by decide +kernel⟩⟩
theorem moX9_tellStates : MOkV miX9_tellStates 2 := ⟨inT2 93 rfl rfl, inTp 2 rfl rfl, inT1 1 rfl rfl, inT2 94 rfl rfl, ⟨by decide, by decide, by decide +kernel⟩⟩
theorem moX9_tellWires : MOkS miX9_tellWires 2 := ⟨inT2 184 rfl rfl, inT1 1 rfl rfl, inT2 185 rfl rfl, ⟨by decide, by decide, by decide +kernel⟩⟩
theorem moX9_type : MOkV miX9_type 1 := ⟨inT3 118 rfl rfl, inT3 119 rfl rfl, inT1 1 rfl rfl, inT3 120 rfl rfl, ⟨by decide, by decide, by decide +kernel⟩⟩
theorem moX9_undo : MOkV miX9_undo 0 := ⟨inT3 109 rfl rfl, inT3 110 rfl rfl, inT1 1 rfl rfl, inT3 111 rfl rfl, ⟨by decide, by decide, by decide +kernel⟩⟩
theorem moX9_walkWith : MOkV miX9_walkWith 1 := ⟨inT2 237 rfl rfl, inTp 8 rfl rfl, inT1 1 rfl rfl, inT2 238 rfl rfl, ⟨by decide, by decide, by decide +kernel⟩⟩
theorem sX9_gate_1 : SiteS miX9_gate miX9_isCircuit 1 := ⟨77, inT1 233 rfl rfl, dX9_gate_1, ⟨by decide, by decide⟩⟩
theorem sX9_gate_10 : SiteS miX9_gate miX9_isWithin 10 := ⟨81, inT1 236 rfl rfl, dX9_gate_10, ⟨by decide, by decide⟩⟩
theorem sX9_gate_16 : SiteK miX9_gate 16 (-1000001) := ⟨85, inT1 239 rfl rfl, dX9_gate_16⟩
theorem sX9_gate_21 : SiteV miX9_gate miX9_circuitAt 21 := ⟨86, inT2 0 rfl rfl, dX9_gate_21, ⟨by decide, by decide⟩⟩
theorem sX9_gate_30 : SiteV miX9_gate miX1_gateCount 30 := ⟨90, inT2 4 rfl rfl, dX9_gate_30, ⟨by decide, by decide⟩⟩
theorem sX9_gate_33 : SiteS miX9_gate miX9_isWithin 33 := ⟨81, inT1 236 rfl rfl, dX9_gate_33, ⟨by decide, by decide⟩⟩
theorem sX9_gate_42 : SiteS miX9_gate miX9_mayFeed 42 := ⟨94, inT2 8 rfl rfl, dX9_gate_42, ⟨by decide, by decide⟩⟩
theorem sX9_gate_51 : SiteS miX9_gate miX9_mayFeed 51 := ⟨94, inT2 8 rfl rfl, dX9_gate_51, ⟨by decide, by decide⟩⟩
theorem sX9_gate_57 : SiteK miX9_gate 57 (-1000001) := ⟨85, inT1 239 rfl rfl, dX9_gate_57⟩
theorem sX9_gate_66 : SiteK miX9_gate 66 (-1000003) := ⟨98, inT2 11 rfl rfl, dX9_gate_66⟩
theorem sX9_gate_70 : SiteG miX9_gate 70 9 9 := ⟨RX9, TX9, 12, 59, rfl, by decide, uwX9, inT1 201 rfl rfl, dX9_gate_70⟩
theorem sX9_gate_74 : SiteG miX9_gate 74 9 0 := ⟨RX9, TX9, 12, 12, rfl, by decide, uwX9, inT1 192 rfl rfl, dX9_gate_74⟩
theorem sX9_gate_78 : SiteG miX9_gate 78 9 1 := ⟨RX9, TX9, 12, 16, rfl, by decide, uwX9, inT1 193 rfl rfl, dX9_gate_78⟩
theorem sX9_gate_81 : SiteV miX9_gate miX2_keep 81 := ⟨99, inT2 12 rfl rfl, dX9_gate_81, ⟨by decide, by decide⟩⟩
theorem sX9_gate_92 : SiteV miX9_gate miX1_setGate 92 := ⟨103, inT2 30 rfl rfl, dX9_gate_92, ⟨by decide, by decide⟩⟩
theorem sX9_gate_97 : SiteV miX9_gate miX1_gateCount 97 := ⟨90, inT2 4 rfl rfl, dX9_gate_97, ⟨by decide, by decide⟩⟩
theorem sX9_dropGate_1 : SiteS miX9_dropGate miX9_isCircuit 1 := ⟨77, inT1 233 rfl rfl, dX9_dropGate_1, ⟨by decide, by decide⟩⟩
theorem sX9_dropGate_7 : SiteK miX9_dropGate 7 (-1000001) := ⟨85, inT1 239 rfl rfl, dX9_dropGate_7⟩
theorem sX9_dropGate_12 : SiteV miX9_dropGate miX9_circuitAt 12 := ⟨86, inT2 0 rfl rfl, dX9_dropGate_12, ⟨by decide, by decide⟩⟩
theorem sX9_dropGate_17 : SiteV miX9_dropGate miX1_gateCount 17 := ⟨90, inT2 4 rfl rfl, dX9_dropGate_17, ⟨by decide, by decide⟩⟩
theorem sX9_dropGate_23 : SiteK miX9_dropGate 23 (-1000002) := ⟨107, inT2 38 rfl rfl, dX9_dropGate_23⟩
theorem sX9_dropGate_27 : SiteG miX9_dropGate 27 9 9 := ⟨RX9, TX9, 12, 59, rfl, by decide, uwX9, inT1 201 rfl rfl, dX9_dropGate_27⟩
theorem sX9_dropGate_31 : SiteG miX9_dropGate 31 9 0 := ⟨RX9, TX9, 12, 12, rfl, by decide, uwX9, inT1 192 rfl rfl, dX9_dropGate_31⟩
theorem sX9_dropGate_35 : SiteG miX9_dropGate 35 9 1 := ⟨RX9, TX9, 12, 16, rfl, by decide, uwX9, inT1 193 rfl rfl, dX9_dropGate_35⟩
theorem sX9_dropGate_38 : SiteV miX9_dropGate miX2_keep 38 := ⟨99, inT2 12 rfl rfl, dX9_dropGate_38, ⟨by decide, by decide⟩⟩
theorem sX9_dropGate_42 : SiteV miX9_dropGate miX1_dropLastGate 42 := ⟨108, inT2 39 rfl rfl, dX9_dropGate_42, ⟨by decide, by decide⟩⟩
theorem sX9_dropGate_46 : SiteV miX9_dropGate miX1_gateCount 46 := ⟨90, inT2 4 rfl rfl, dX9_dropGate_46, ⟨by decide, by decide⟩⟩
theorem sX9_register_1 : SiteS miX9_register miX9_isCircuit 1 := ⟨77, inT1 233 rfl rfl, dX9_register_1, ⟨by decide, by decide⟩⟩
theorem sX9_register_8 : SiteS miX9_register miX9_isRegister 8 := ⟨111, inT2 47 rfl rfl, dX9_register_8, ⟨by decide, by decide⟩⟩
theorem sX9_register_15 : SiteS miX9_register miX9_isWire 15 := ⟨114, inT2 50 rfl rfl, dX9_register_15, ⟨by decide, by decide⟩⟩
theorem sX9_register_25 : SiteS miX9_register miX9_isWithin 25 := ⟨81, inT1 236 rfl rfl, dX9_register_25, ⟨by decide, by decide⟩⟩
theorem sX9_register_31 : SiteK miX9_register 31 (-1000001) := ⟨85, inT1 239 rfl rfl, dX9_register_31⟩
theorem sX9_register_36 : SiteV miX9_register miX9_circuitAt 36 := ⟨86, inT2 0 rfl rfl, dX9_register_36, ⟨by decide, by decide⟩⟩
theorem sX9_register_45 : SiteV miX9_register miX1_nextWire 45 := ⟨117, inT2 53 rfl rfl, dX9_register_45, ⟨by decide, by decide⟩⟩
theorem sX9_register_52 : SiteV miX9_register miX1_firstBit 52 := ⟨121, inT2 57 rfl rfl, dX9_register_52, ⟨by decide, by decide⟩⟩
theorem sX9_register_59 : SiteG miX9_register 59 9 9 := ⟨RX9, TX9, 12, 59, rfl, by decide, uwX9, inT1 201 rfl rfl, dX9_register_59⟩
theorem sX9_register_63 : SiteG miX9_register 63 9 0 := ⟨RX9, TX9, 12, 12, rfl, by decide, uwX9, inT1 192 rfl rfl, dX9_register_63⟩
theorem sX9_register_67 : SiteG miX9_register 67 9 1 := ⟨RX9, TX9, 12, 16, rfl, by decide, uwX9, inT1 193 rfl rfl, dX9_register_67⟩
theorem sX9_register_70 : SiteV miX9_register miX2_keep 70 := ⟨99, inT2 12 rfl rfl, dX9_register_70, ⟨by decide, by decide⟩⟩
theorem sX9_register_79 : SiteV miX9_register miX1_setRegister 79 := ⟨124, inT2 61 rfl rfl, dX9_register_79, ⟨by decide, by decide⟩⟩
theorem sX9_output_1 : SiteS miX9_output miX9_isCircuit 1 := ⟨77, inT1 233 rfl rfl, dX9_output_1, ⟨by decide, by decide⟩⟩
theorem sX9_output_8 : SiteS miX9_output miX9_isWire 8 := ⟨114, inT2 50 rfl rfl, dX9_output_8, ⟨by decide, by decide⟩⟩
theorem sX9_output_14 : SiteK miX9_output 14 (-1000001) := ⟨85, inT1 239 rfl rfl, dX9_output_14⟩
theorem sX9_output_19 : SiteV miX9_output miX9_circuitAt 19 := ⟨86, inT2 0 rfl rfl, dX9_output_19, ⟨by decide, by decide⟩⟩
theorem sX9_output_24 : SiteV miX9_output miX1_outputWire 24 := ⟨128, inT2 66 rfl rfl, dX9_output_24, ⟨by decide, by decide⟩⟩
theorem sX9_output_30 : SiteG miX9_output 30 9 9 := ⟨RX9, TX9, 12, 59, rfl, by decide, uwX9, inT1 201 rfl rfl, dX9_output_30⟩
theorem sX9_output_34 : SiteG miX9_output 34 9 0 := ⟨RX9, TX9, 12, 12, rfl, by decide, uwX9, inT1 192 rfl rfl, dX9_output_34⟩
theorem sX9_output_38 : SiteG miX9_output 38 9 1 := ⟨RX9, TX9, 12, 16, rfl, by decide, uwX9, inT1 193 rfl rfl, dX9_output_38⟩
theorem sX9_output_41 : SiteV miX9_output miX2_keep 41 := ⟨99, inT2 12 rfl rfl, dX9_output_41, ⟨by decide, by decide⟩⟩
theorem sX9_output_46 : SiteV miX9_output miX1_setOutputWire 46 := ⟨131, inT2 70 rfl rfl, dX9_output_46, ⟨by decide, by decide⟩⟩
theorem sX9_copy_1 : SiteS miX9_copy miX9_isCircuit 1 := ⟨77, inT1 233 rfl rfl, dX9_copy_1, ⟨by decide, by decide⟩⟩
theorem sX9_copy_7 : SiteK miX9_copy 7 (-1000001) := ⟨85, inT1 239 rfl rfl, dX9_copy_7⟩
theorem sX9_copy_12 : SiteV miX9_copy miX9_circuitAt 12 := ⟨86, inT2 0 rfl rfl, dX9_copy_12, ⟨by decide, by decide⟩⟩
theorem sX9_copy_17 : SiteG miX9_copy 17 9 9 := ⟨RX9, TX9, 12, 59, rfl, by decide, uwX9, inT1 201 rfl rfl, dX9_copy_17⟩
theorem sX9_copy_21 : SiteG miX9_copy 21 9 0 := ⟨RX9, TX9, 12, 12, rfl, by decide, uwX9, inT1 192 rfl rfl, dX9_copy_21⟩
theorem sX9_copy_25 : SiteG miX9_copy 25 9 1 := ⟨RX9, TX9, 12, 16, rfl, by decide, uwX9, inT1 193 rfl rfl, dX9_copy_25⟩
theorem sX9_copy_28 : SiteV miX9_copy miX2_keep 28 := ⟨99, inT2 12 rfl rfl, dX9_copy_28, ⟨by decide, by decide⟩⟩
theorem sX9_copy_35 : SiteV miX9_copy miX9_circuitAt 35 := ⟨86, inT2 0 rfl rfl, dX9_copy_35, ⟨by decide, by decide⟩⟩
theorem sX9_copy_39 : SiteV miX9_copy miX1_takeFrom 39 := ⟨135, inT2 78 rfl rfl, dX9_copy_39, ⟨by decide, by decide⟩⟩
theorem sX9_copy_43 : SiteV miX9_copy miX1_gateCount 43 := ⟨90, inT2 4 rfl rfl, dX9_copy_43, ⟨by decide, by decide⟩⟩
theorem sX9_circuitOf_1 : SiteS miX9_circuitOf miX9_isCircuit 1 := ⟨77, inT1 233 rfl rfl, dX9_circuitOf_1, ⟨by decide, by decide⟩⟩
theorem sX9_circuitOf_7 : SiteK miX9_circuitOf 7 (-1000001) := ⟨85, inT1 239 rfl rfl, dX9_circuitOf_7⟩
theorem sX9_circuitOf_12 : SiteV miX9_circuitOf miX9_circuitAt 12 := ⟨86, inT2 0 rfl rfl, dX9_circuitOf_12, ⟨by decide, by decide⟩⟩
theorem sX9_circuitOf_19 : SiteS miX9_circuitOf miX9_isWithin 19 := ⟨81, inT1 236 rfl rfl, dX9_circuitOf_19, ⟨by decide, by decide⟩⟩
theorem sX9_circuitOf_28 : SiteV miX9_circuitOf miX9_tellStates 28 := ⟨139, inT2 91 rfl rfl, dX9_circuitOf_28, ⟨by decide, by decide⟩⟩
theorem sX9_circuitOf_36 : SiteS miX9_circuitOf miX9_isWithin 36 := ⟨81, inT1 236 rfl rfl, dX9_circuitOf_36, ⟨by decide, by decide⟩⟩
theorem sX9_circuitOf_44 : SiteS miX9_circuitOf miX9_tellWires 44 := ⟨143, inT2 183 rfl rfl, dX9_circuitOf_44, ⟨by decide, by decide⟩⟩
theorem sX9_circuitOf_53 : SiteS miX9_circuitOf miX9_isWithin 53 := ⟨81, inT1 236 rfl rfl, dX9_circuitOf_53, ⟨by decide, by decide⟩⟩
theorem sX9_circuitOf_64 : SiteS miX9_circuitOf miX9_isWithin 64 := ⟨81, inT1 236 rfl rfl, dX9_circuitOf_64, ⟨by decide, by decide⟩⟩
theorem sX9_circuitOf_75 : SiteS miX9_circuitOf miX9_isWithin 75 := ⟨81, inT1 236 rfl rfl, dX9_circuitOf_75, ⟨by decide, by decide⟩⟩
theorem sX9_circuitOf_90 : SiteS miX9_circuitOf miX9_tellGate 90 := ⟨146, inT2 196 rfl rfl, dX9_circuitOf_90, ⟨by decide, by decide⟩⟩
theorem sX9_circuitOf_94 : SiteK miX9_circuitOf 94 (-1000001) := ⟨85, inT1 239 rfl rfl, dX9_circuitOf_94⟩
theorem sX9_bit_1 : SiteS miX9_bit miX9_isCircuit 1 := ⟨77, inT1 233 rfl rfl, dX9_bit_1, ⟨by decide, by decide⟩⟩
theorem sX9_bit_8 : SiteS miX9_bit miX9_isState 8 := ⟨150, inT2 207 rfl rfl, dX9_bit_8, ⟨by decide, by decide⟩⟩
theorem sX9_bit_15 : SiteS miX9_bit miX9_areInputs 15 := ⟨153, inT2 210 rfl rfl, dX9_bit_15, ⟨by decide, by decide⟩⟩
theorem sX9_bit_23 : SiteS miX9_bit miX9_isWire 23 := ⟨114, inT2 50 rfl rfl, dX9_bit_23, ⟨by decide, by decide⟩⟩
theorem sX9_bit_29 : SiteK miX9_bit 29 (-1000001) := ⟨85, inT1 239 rfl rfl, dX9_bit_29⟩
theorem sX9_bit_34 : SiteV miX9_bit miX9_circuitAt 34 := ⟨86, inT2 0 rfl rfl, dX9_bit_34, ⟨by decide, by decide⟩⟩
theorem sX9_bit_39 : SiteV miX9_bit miX1_wireBits 39 := ⟨156, inT2 213 rfl rfl, dX9_bit_39, ⟨by decide, by decide⟩⟩
theorem sX9_bit_44 : SiteS miX9_bit miX9_bitOf 44 := ⟨160, inT2 214 rfl rfl, dX9_bit_44, ⟨by decide, by decide⟩⟩
theorem sX9_behind_1 : SiteS miX9_behind miX9_isCircuit 1 := ⟨77, inT1 233 rfl rfl, dX9_behind_1, ⟨by decide, by decide⟩⟩
theorem sX9_behind_8 : SiteS miX9_behind miX9_isState 8 := ⟨150, inT2 207 rfl rfl, dX9_behind_8, ⟨by decide, by decide⟩⟩
theorem sX9_behind_15 : SiteS miX9_behind miX9_areInputs 15 := ⟨153, inT2 210 rfl rfl, dX9_behind_15, ⟨by decide, by decide⟩⟩
theorem sX9_behind_21 : SiteK miX9_behind 21 (-1000001) := ⟨85, inT1 239 rfl rfl, dX9_behind_21⟩
theorem sX9_behind_26 : SiteV miX9_behind miX9_circuitAt 26 := ⟨86, inT2 0 rfl rfl, dX9_behind_26, ⟨by decide, by decide⟩⟩
theorem sX9_behind_37 : SiteV miX9_behind miX1_wireBits 37 := ⟨156, inT2 213 rfl rfl, dX9_behind_37, ⟨by decide, by decide⟩⟩
theorem sX9_behind_40 : SiteV miX9_behind miX1_stateAfter 40 := ⟨163, inT2 219 rfl rfl, dX9_behind_40, ⟨by decide, by decide⟩⟩
theorem sX9_run_1 : SiteS miX9_run miX9_isCircuit 1 := ⟨77, inT1 233 rfl rfl, dX9_run_1, ⟨by decide, by decide⟩⟩
theorem sX9_run_11 : SiteS miX9_run miX9_isWithin 11 := ⟨81, inT1 236 rfl rfl, dX9_run_11, ⟨by decide, by decide⟩⟩
theorem sX9_run_21 : SiteS miX9_run miX9_isWithin 21 := ⟨81, inT1 236 rfl rfl, dX9_run_21, ⟨by decide, by decide⟩⟩
theorem sX9_run_27 : SiteK miX9_run 27 (-1000001) := ⟨85, inT1 239 rfl rfl, dX9_run_27⟩
theorem sX9_run_32 : SiteV miX9_run miX9_circuitAt 32 := ⟨86, inT2 0 rfl rfl, dX9_run_32, ⟨by decide, by decide⟩⟩
theorem sX9_run_39 : SiteV miX9_run miX1_firstState 39 := ⟨166, inT2 186 rfl rfl, dX9_run_39, ⟨by decide, by decide⟩⟩
theorem sX9_run_68 : SiteV miX9_run miX1_wireBits 68 := ⟨156, inT2 213 rfl rfl, dX9_run_68, ⟨by decide, by decide⟩⟩
theorem sX9_run_79 : SiteV miX9_run miX1_outputWire 79 := ⟨128, inT2 66 rfl rfl, dX9_run_79, ⟨by decide, by decide⟩⟩
theorem sX9_run_82 : SiteS miX9_run miX9_bitOf 82 := ⟨160, inT2 214 rfl rfl, dX9_run_82, ⟨by decide, by decide⟩⟩
theorem sX9_run_95 : SiteV miX9_run miX1_stateAfter 95 := ⟨163, inT2 219 rfl rfl, dX9_run_95, ⟨by decide, by decide⟩⟩
theorem sX9_share_1 : SiteS miX9_share miX9_isCircuit 1 := ⟨77, inT1 233 rfl rfl, dX9_share_1, ⟨by decide, by decide⟩⟩
theorem sX9_share_8 : SiteS miX9_share miX9_areInputs 8 := ⟨153, inT2 210 rfl rfl, dX9_share_8, ⟨by decide, by decide⟩⟩
theorem sX9_share_14 : SiteK miX9_share 14 (-1000001) := ⟨85, inT1 239 rfl rfl, dX9_share_14⟩
theorem sX9_share_19 : SiteV miX9_share miX9_circuitAt 19 := ⟨86, inT2 0 rfl rfl, dX9_share_19, ⟨by decide, by decide⟩⟩
theorem sX9_share_42 : SiteV miX9_share miX1_wireBits 42 := ⟨156, inT2 213 rfl rfl, dX9_share_42, ⟨by decide, by decide⟩⟩
theorem sX9_share_46 : SiteV miX9_share miX1_outputWire 46 := ⟨128, inT2 66 rfl rfl, dX9_share_46, ⟨by decide, by decide⟩⟩
theorem sX9_share_49 : SiteS miX9_share miX9_bitOf 49 := ⟨160, inT2 214 rfl rfl, dX9_share_49, ⟨by decide, by decide⟩⟩
theorem sX9_share_63 : SiteS miX9_share miX9_floatBitsOfSixteenths 63 := ⟨169, inT2 228 rfl rfl, dX9_share_63, ⟨by decide, by decide⟩⟩
theorem sX9_pairOf_7 : SiteS miX9_pairOf miX9_isWithin 7 := ⟨81, inT1 236 rfl rfl, dX9_pairOf_7, ⟨by decide, by decide⟩⟩
theorem sX9_pairOf_19 : SiteS miX9_pairOf miX9_isWithin 19 := ⟨81, inT1 236 rfl rfl, dX9_pairOf_19, ⟨by decide, by decide⟩⟩
theorem sX9_pairOf_25 : SiteK miX9_pairOf 25 (-1000001) := ⟨85, inT1 239 rfl rfl, dX9_pairOf_25⟩
theorem sX9_pairOf_30 : SiteG miX9_pairOf 30 9 0 := ⟨RX9, TX9, 12, 12, rfl, by decide, uwX9, inT1 192 rfl rfl, dX9_pairOf_30⟩
theorem sX9_pairOf_33 : SiteV miX9_pairOf miX9_walkWith 33 := ⟨172, inT2 235 rfl rfl, dX9_pairOf_33, ⟨by decide, by decide⟩⟩
theorem sX9_pairOf_38 : SiteG miX9_pairOf 38 9 6 := ⟨RX9, TX9, 12, 38, rfl, by decide, uwX9, inT1 198 rfl rfl, dX9_pairOf_38⟩
theorem sX9_pairOf_41 : SiteV miX9_pairOf miX4_size 41 := ⟨175, inT3 23 rfl rfl, dX9_pairOf_41, ⟨by decide, by decide⟩⟩
theorem sX9_pairOf_47 : SiteK miX9_pairOf 47 (-1000004) := ⟨178, inT2 199 rfl rfl, dX9_pairOf_47⟩
theorem sX9_pairOf_81 : SiteG miX9_pairOf 81 9 6 := ⟨RX9, TX9, 12, 38, rfl, by decide, uwX9, inT1 198 rfl rfl, dX9_pairOf_81⟩
theorem sX9_pairOf_85 : SiteV miX9_pairOf miX4_zeroState 85 := ⟨179, inT3 27 rfl rfl, dX9_pairOf_85, ⟨by decide, by decide⟩⟩
theorem sX9_pairOf_90 : SiteG miX9_pairOf 90 9 6 := ⟨RX9, TX9, 12, 38, rfl, by decide, uwX9, inT1 198 rfl rfl, dX9_pairOf_90⟩
theorem sX9_pairOf_94 : SiteV miX9_pairOf miX4_oneState 94 := ⟨182, inT3 28 rfl rfl, dX9_pairOf_94, ⟨by decide, by decide⟩⟩
theorem sX9_pairOf_99 : SiteG miX9_pairOf 99 9 6 := ⟨RX9, TX9, 12, 38, rfl, by decide, uwX9, inT1 198 rfl rfl, dX9_pairOf_99⟩
theorem sX9_pairOf_103 : SiteV miX9_pairOf miX4_ticksTo 103 := ⟨185, inT3 29 rfl rfl, dX9_pairOf_103, ⟨by decide, by decide⟩⟩
theorem sX9_pairOf_109 : SiteV miX9_pairOf miX9_differingInputs 109 := ⟨188, inT3 33 rfl rfl, dX9_pairOf_109, ⟨by decide, by decide⟩⟩
theorem sX9_pairOf_118 : SiteG miX9_pairOf 118 9 6 := ⟨RX9, TX9, 12, 38, rfl, by decide, uwX9, inT1 198 rfl rfl, dX9_pairOf_118⟩
theorem sX9_pairOf_122 : SiteV miX9_pairOf miX4_ticksTo 122 := ⟨185, inT3 29 rfl rfl, dX9_pairOf_122, ⟨by decide, by decide⟩⟩
theorem sX9_pairOf_129 : SiteG miX9_pairOf 129 9 6 := ⟨RX9, TX9, 12, 38, rfl, by decide, uwX9, inT1 198 rfl rfl, dX9_pairOf_129⟩
theorem sX9_pairOf_137 : SiteV miX9_pairOf miX4_inputsOnWay 137 := ⟨191, inT3 38 rfl rfl, dX9_pairOf_137, ⟨by decide, by decide⟩⟩
theorem sX9_pairOf_143 : SiteK miX9_pairOf 143 (-1000004) := ⟨178, inT2 199 rfl rfl, dX9_pairOf_143⟩
theorem sX9_pairs_2 : SiteG miX9_pairs 2 9 0 := ⟨RX9, TX9, 12, 12, rfl, by decide, uwX9, inT1 192 rfl rfl, dX9_pairs_2⟩
theorem sX9_pairs_5 : SiteV miX9_pairs miX9_walkWith 5 := ⟨172, inT2 235 rfl rfl, dX9_pairs_5, ⟨by decide, by decide⟩⟩
theorem sX9_pairs_9 : SiteG miX9_pairs 9 9 6 := ⟨RX9, TX9, 12, 38, rfl, by decide, uwX9, inT1 198 rfl rfl, dX9_pairs_9⟩
theorem sX9_pairs_12 : SiteV miX9_pairs miX4_size 12 := ⟨175, inT3 23 rfl rfl, dX9_pairs_12, ⟨by decide, by decide⟩⟩
theorem sX9_apart_5 : SiteK miX9_apart 5 (-1000001) := ⟨85, inT1 239 rfl rfl, dX9_apart_5⟩
theorem sX9_apart_10 : SiteG miX9_apart 10 9 0 := ⟨RX9, TX9, 12, 12, rfl, by decide, uwX9, inT1 192 rfl rfl, dX9_apart_10⟩
theorem sX9_apart_13 : SiteV miX9_apart miX9_walkWith 13 := ⟨172, inT2 235 rfl rfl, dX9_apart_13, ⟨by decide, by decide⟩⟩
theorem sX9_apart_17 : SiteV miX9_apart miX9_firstPairApart 17 := ⟨194, inT3 51 rfl rfl, dX9_apart_17, ⟨by decide, by decide⟩⟩
theorem sX9_apart_23 : SiteG miX9_apart 23 9 6 := ⟨RX9, TX9, 12, 38, rfl, by decide, uwX9, inT1 198 rfl rfl, dX9_apart_23⟩
theorem sX9_apart_26 : SiteV miX9_apart miX4_size 26 := ⟨175, inT3 23 rfl rfl, dX9_apart_26, ⟨by decide, by decide⟩⟩
theorem sX9_apart_32 : SiteK miX9_apart 32 (-1000004) := ⟨178, inT2 199 rfl rfl, dX9_apart_32⟩
theorem sX9_apart_36 : SiteG miX9_apart 36 9 6 := ⟨RX9, TX9, 12, 38, rfl, by decide, uwX9, inT1 198 rfl rfl, dX9_apart_36⟩
theorem sX9_apart_40 : SiteV miX9_apart miX4_ticksTo 40 := ⟨185, inT3 29 rfl rfl, dX9_apart_40, ⟨by decide, by decide⟩⟩
theorem sX9_apart_58 : SiteK miX9_apart 58 (-1000004) := ⟨178, inT2 199 rfl rfl, dX9_apart_58⟩
theorem sX9_apart_68 : SiteV miX9_apart miX9_differingInputs 68 := ⟨188, inT3 33 rfl rfl, dX9_apart_68, ⟨by decide, by decide⟩⟩
theorem sX9_apart_71 : SiteS miX9_apart miX9_leastOf 71 := ⟨197, inT3 55 rfl rfl, dX9_apart_71, ⟨by decide, by decide⟩⟩
theorem sX9_apart_78 : SiteG miX9_apart 78 9 6 := ⟨RX9, TX9, 12, 38, rfl, by decide, uwX9, inT1 198 rfl rfl, dX9_apart_78⟩
theorem sX9_apart_83 : SiteV miX9_apart miX4_inputsOnWay 83 := ⟨191, inT3 38 rfl rfl, dX9_apart_83, ⟨by decide, by decide⟩⟩
theorem sX9_late_1 : SiteG miX9_late 1 9 3 := ⟨RX9, TX9, 12, 25, rfl, by decide, uwX9, inT1 195 rfl rfl, dX9_late_1⟩
theorem sX9_late_5 : SiteG miX9_late 5 9 0 := ⟨RX9, TX9, 12, 12, rfl, by decide, uwX9, inT1 192 rfl rfl, dX9_late_5⟩
theorem sX9_late_8 : SiteV miX9_late miX7_fillFrom 8 := ⟨200, inT2 95 rfl rfl, dX9_late_8, ⟨by decide, by decide⟩⟩
theorem sX9_late_12 : SiteG miX9_late 12 9 4 := ⟨RX9, TX9, 12, 29, rfl, by decide, uwX9, inT1 196 rfl rfl, dX9_late_12⟩
theorem sX9_late_16 : SiteG miX9_late 16 9 1 := ⟨RX9, TX9, 12, 16, rfl, by decide, uwX9, inT1 193 rfl rfl, dX9_late_16⟩
theorem sX9_late_19 : SiteV miX9_late miX7_fillFrom 19 := ⟨200, inT2 95 rfl rfl, dX9_late_19, ⟨by decide, by decide⟩⟩
theorem sX9_late_30 : SiteG miX9_late 30 9 7 := ⟨RX9, TX9, 12, 45, rfl, by decide, uwX9, inT1 199 rfl rfl, dX9_late_30⟩
theorem sX9_late_35 : SiteG miX9_late 35 9 3 := ⟨RX9, TX9, 12, 25, rfl, by decide, uwX9, inT1 195 rfl rfl, dX9_late_35⟩
theorem sX9_late_39 : SiteG miX9_late 39 9 4 := ⟨RX9, TX9, 12, 29, rfl, by decide, uwX9, inT1 196 rfl rfl, dX9_late_39⟩
theorem sX9_late_42 : SiteV miX9_late miX3_isLateBy 42 := ⟨203, inT3 62 rfl rfl, dX9_late_42, ⟨by decide, by decide⟩⟩
theorem sX9_late_56 : SiteK miX9_late 56 (-1000004) := ⟨178, inT2 199 rfl rfl, dX9_late_56⟩
theorem sX9_same_1 : SiteS miX9_same miX9_isRegister 1 := ⟨111, inT2 47 rfl rfl, dX9_same_1, ⟨by decide, by decide⟩⟩
theorem sX9_same_7 : SiteK miX9_same 7 (-1000001) := ⟨85, inT1 239 rfl rfl, dX9_same_7⟩
theorem sX9_same_12 : SiteG miX9_same 12 9 0 := ⟨RX9, TX9, 12, 12, rfl, by decide, uwX9, inT1 192 rfl rfl, dX9_same_12⟩
theorem sX9_same_15 : SiteV miX9_same miX9_walkWith 15 := ⟨172, inT2 235 rfl rfl, dX9_same_15, ⟨by decide, by decide⟩⟩
theorem sX9_same_24 : SiteG miX9_same 24 9 6 := ⟨RX9, TX9, 12, 38, rfl, by decide, uwX9, inT1 198 rfl rfl, dX9_same_24⟩
theorem sX9_same_27 : SiteV miX9_same miX4_size 27 := ⟨175, inT3 23 rfl rfl, dX9_same_27, ⟨by decide, by decide⟩⟩
theorem sX9_same_41 : SiteG miX9_same 41 9 6 := ⟨RX9, TX9, 12, 38, rfl, by decide, uwX9, inT1 198 rfl rfl, dX9_same_41⟩
theorem sX9_same_45 : SiteV miX9_same miX4_zeroState 45 := ⟨179, inT3 27 rfl rfl, dX9_same_45, ⟨by decide, by decide⟩⟩
theorem sX9_same_49 : SiteS miX9_same miX9_bitOf 49 := ⟨160, inT2 214 rfl rfl, dX9_same_49, ⟨by decide, by decide⟩⟩
theorem sX9_same_66 : SiteG miX9_same 66 9 6 := ⟨RX9, TX9, 12, 38, rfl, by decide, uwX9, inT1 198 rfl rfl, dX9_same_66⟩
theorem sX9_same_70 : SiteV miX9_same miX4_oneState 70 := ⟨182, inT3 28 rfl rfl, dX9_same_70, ⟨by decide, by decide⟩⟩
theorem sX9_kinds_4 : SiteS miX9_kinds miX9_isWithin 4 := ⟨81, inT1 236 rfl rfl, dX9_kinds_4, ⟨by decide, by decide⟩⟩
theorem sX9_kinds_10 : SiteK miX9_kinds 10 (-1000001) := ⟨85, inT1 239 rfl rfl, dX9_kinds_10⟩
theorem sX9_kinds_15 : SiteG miX9_kinds 15 9 0 := ⟨RX9, TX9, 12, 12, rfl, by decide, uwX9, inT1 192 rfl rfl, dX9_kinds_15⟩
theorem sX9_kinds_18 : SiteV miX9_kinds miX1_gateCount 18 := ⟨90, inT2 4 rfl rfl, dX9_kinds_18, ⟨by decide, by decide⟩⟩
theorem sX9_kinds_24 : SiteK miX9_kinds 24 (-1000004) := ⟨178, inT2 199 rfl rfl, dX9_kinds_24⟩
theorem sX9_kinds_37 : SiteG miX9_kinds 37 9 2 := ⟨RX9, TX9, 12, 19, rfl, by decide, uwX9, inT1 194 rfl rfl, dX9_kinds_37⟩
theorem sX9_kinds_41 : SiteG miX9_kinds 41 9 0 := ⟨RX9, TX9, 12, 12, rfl, by decide, uwX9, inT1 192 rfl rfl, dX9_kinds_41⟩
theorem sX9_kinds_44 : SiteV miX9_kinds miX1_takeFrom 44 := ⟨135, inT2 78 rfl rfl, dX9_kinds_44, ⟨by decide, by decide⟩⟩
theorem sX9_kinds_48 : SiteG miX9_kinds 48 9 2 := ⟨RX9, TX9, 12, 19, rfl, by decide, uwX9, inT1 194 rfl rfl, dX9_kinds_48⟩
theorem sX9_kinds_54 : SiteG miX9_kinds 54 9 0 := ⟨RX9, TX9, 12, 12, rfl, by decide, uwX9, inT1 192 rfl rfl, dX9_kinds_54⟩
theorem sX9_kinds_58 : SiteV miX9_kinds miX1_firstWire 58 := ⟨207, inT2 201 rfl rfl, dX9_kinds_58, ⟨by decide, by decide⟩⟩
theorem sX9_kinds_62 : SiteG miX9_kinds 62 9 0 := ⟨RX9, TX9, 12, 12, rfl, by decide, uwX9, inT1 192 rfl rfl, dX9_kinds_62⟩
theorem sX9_kinds_66 : SiteV miX9_kinds miX1_secondWire 66 := ⟨210, inT2 202 rfl rfl, dX9_kinds_66, ⟨by decide, by decide⟩⟩
theorem sX9_kinds_69 : SiteV miX9_kinds miX1_setGate 69 := ⟨103, inT2 30 rfl rfl, dX9_kinds_69, ⟨by decide, by decide⟩⟩
theorem sX9_kinds_74 : SiteG miX9_kinds 74 9 2 := ⟨RX9, TX9, 12, 19, rfl, by decide, uwX9, inT1 194 rfl rfl, dX9_kinds_74⟩
theorem sX9_kinds_77 : SiteV miX9_kinds miX9_neverApart 77 := ⟨213, inT3 92 rfl rfl, dX9_kinds_77, ⟨by decide, by decide⟩⟩
theorem sX9_count_33 : SiteG miX9_count 33 9 0 := ⟨RX9, TX9, 12, 12, rfl, by decide, uwX9, inT1 192 rfl rfl, dX9_count_33⟩
theorem sX9_count_36 : SiteV miX9_count miX1_gateCount 36 := ⟨90, inT2 4 rfl rfl, dX9_count_36, ⟨by decide, by decide⟩⟩
theorem sX9_count_40 : SiteG miX9_count 40 9 1 := ⟨RX9, TX9, 12, 16, rfl, by decide, uwX9, inT1 193 rfl rfl, dX9_count_40⟩
theorem sX9_count_43 : SiteV miX9_count miX1_gateCount 43 := ⟨90, inT2 4 rfl rfl, dX9_count_43, ⟨by decide, by decide⟩⟩
theorem sX9_count_50 : SiteG miX9_count 50 9 0 := ⟨RX9, TX9, 12, 12, rfl, by decide, uwX9, inT1 192 rfl rfl, dX9_count_50⟩
theorem sX9_count_53 : SiteV miX9_count miX9_neverApart 53 := ⟨213, inT3 92 rfl rfl, dX9_count_53, ⟨by decide, by decide⟩⟩
theorem sX9_count_66 : SiteG miX9_count 66 9 9 := ⟨RX9, TX9, 12, 59, rfl, by decide, uwX9, inT1 201 rfl rfl, dX9_count_66⟩
theorem sX9_count_69 : SiteV miX9_count miX2_size 69 := ⟨217, inT3 100 rfl rfl, dX9_count_69, ⟨by decide, by decide⟩⟩
theorem sX9_count_74 : SiteG miX9_count 74 9 10 := ⟨RX9, TX9, 12, 66, rfl, by decide, uwX9, inT1 202 rfl rfl, dX9_count_74⟩
theorem sX9_count_77 : SiteV miX9_count miX8_length 77 := ⟨218, inT3 104 rfl rfl, dX9_count_77, ⟨by decide, by decide⟩⟩
theorem sX9_count_81 : SiteK miX9_count 81 (-1000001) := ⟨85, inT1 239 rfl rfl, dX9_count_81⟩
theorem sX9_undo_1 : SiteG miX9_undo 1 9 9 := ⟨RX9, TX9, 12, 59, rfl, by decide, uwX9, inT1 201 rfl rfl, dX9_undo_1⟩
theorem sX9_undo_4 : SiteV miX9_undo miX2_size 4 := ⟨217, inT3 100 rfl rfl, dX9_undo_4, ⟨by decide, by decide⟩⟩
theorem sX9_undo_10 : SiteK miX9_undo 10 (-1000002) := ⟨107, inT2 38 rfl rfl, dX9_undo_10⟩
theorem sX9_undo_14 : SiteG miX9_undo 14 9 9 := ⟨RX9, TX9, 12, 59, rfl, by decide, uwX9, inT1 201 rfl rfl, dX9_undo_14⟩
theorem sX9_undo_18 : SiteG miX9_undo 18 9 0 := ⟨RX9, TX9, 12, 12, rfl, by decide, uwX9, inT1 192 rfl rfl, dX9_undo_18⟩
theorem sX9_undo_22 : SiteG miX9_undo 22 9 1 := ⟨RX9, TX9, 12, 16, rfl, by decide, uwX9, inT1 193 rfl rfl, dX9_undo_22⟩
theorem sX9_undo_25 : SiteV miX9_undo miX2_giveBack 25 := ⟨221, inT3 112 rfl rfl, dX9_undo_25, ⟨by decide, by decide⟩⟩
theorem sX9_undo_29 : SiteG miX9_undo 29 9 9 := ⟨RX9, TX9, 12, 59, rfl, by decide, uwX9, inT1 201 rfl rfl, dX9_undo_29⟩
theorem sX9_undo_32 : SiteV miX9_undo miX2_size 32 := ⟨217, inT3 100 rfl rfl, dX9_undo_32, ⟨by decide, by decide⟩⟩
theorem sX9_type_5 : SiteS miX9_type miX9_isWithin 5 := ⟨81, inT1 236 rfl rfl, dX9_type_5, ⟨by decide, by decide⟩⟩
theorem sX9_type_11 : SiteK miX9_type 11 (-1000001) := ⟨85, inT1 239 rfl rfl, dX9_type_11⟩
theorem sX9_type_15 : SiteG miX9_type 15 9 10 := ⟨RX9, TX9, 12, 66, rfl, by decide, uwX9, inT1 202 rfl rfl, dX9_type_15⟩
theorem sX9_type_18 : SiteV miX9_type miX8_length 18 := ⟨218, inT3 104 rfl rfl, dX9_type_18, ⟨by decide, by decide⟩⟩
theorem sX9_type_26 : SiteK miX9_type 26 (-1000003) := ⟨98, inT2 11 rfl rfl, dX9_type_26⟩
theorem sX9_type_30 : SiteG miX9_type 30 9 10 := ⟨RX9, TX9, 12, 66, rfl, by decide, uwX9, inT1 202 rfl rfl, dX9_type_30⟩
theorem sX9_type_34 : SiteV miX9_type miX8_append 34 := ⟨224, inT3 121 rfl rfl, dX9_type_34, ⟨by decide, by decide⟩⟩
theorem sX9_type_38 : SiteG miX9_type 38 9 10 := ⟨RX9, TX9, 12, 66, rfl, by decide, uwX9, inT1 202 rfl rfl, dX9_type_38⟩
theorem sX9_type_41 : SiteV miX9_type miX8_length 41 := ⟨218, inT3 104 rfl rfl, dX9_type_41, ⟨by decide, by decide⟩⟩
theorem sX9_clearText_1 : SiteG miX9_clearText 1 9 10 := ⟨RX9, TX9, 12, 66, rfl, by decide, uwX9, inT1 202 rfl rfl, dX9_clearText_1⟩
theorem sX9_clearText_4 : SiteV miX9_clearText miX8_length 4 := ⟨218, inT3 104 rfl rfl, dX9_clearText_4, ⟨by decide, by decide⟩⟩
theorem sX9_clearText_9 : SiteG miX9_clearText 9 9 10 := ⟨RX9, TX9, 12, 66, rfl, by decide, uwX9, inT1 202 rfl rfl, dX9_clearText_9⟩
theorem sX9_clearText_12 : SiteV miX9_clearText miX8_empty 12 := ⟨227, inT3 130 rfl rfl, dX9_clearText_12, ⟨by decide, by decide⟩⟩
theorem sX9_fault_3 : SiteS miX9_fault miX9_isWithin 3 := ⟨81, inT1 236 rfl rfl, dX9_fault_3, ⟨by decide, by decide⟩⟩
theorem sX9_fault_9 : SiteK miX9_fault 9 (-1000001) := ⟨85, inT1 239 rfl rfl, dX9_fault_9⟩
theorem sX9_fault_13 : SiteG miX9_fault 13 9 11 := ⟨RX9, TX9, 12, 73, rfl, by decide, uwX9, inT1 203 rfl rfl, dX9_fault_13⟩
theorem sX9_fault_17 : SiteG miX9_fault 17 9 10 := ⟨RX9, TX9, 12, 66, rfl, by decide, uwX9, inT1 202 rfl rfl, dX9_fault_17⟩
theorem sX9_fault_20 : SiteV miX9_fault miX5_readWhole 20 := ⟨230, inT3 138 rfl rfl, dX9_fault_20, ⟨by decide, by decide⟩⟩
theorem sX9_fault_24 : SiteG miX9_fault 24 9 11 := ⟨RX9, TX9, 12, 73, rfl, by decide, uwX9, inT1 203 rfl rfl, dX9_fault_24⟩
theorem sX9_fault_27 : SiteV miX9_fault miX5_faultReason 27 := ⟨234, inT3 181 rfl rfl, dX9_fault_27, ⟨by decide, by decide⟩⟩
theorem sX9_fault_33 : SiteK miX9_fault 33 (-1000004) := ⟨178, inT2 199 rfl rfl, dX9_fault_33⟩
theorem sX9_fault_41 : SiteG miX9_fault 41 9 11 := ⟨RX9, TX9, 12, 73, rfl, by decide, uwX9, inT1 203 rfl rfl, dX9_fault_41⟩
theorem sX9_fault_44 : SiteV miX9_fault miX5_faultPosition 44 := ⟨237, inT3 185 rfl rfl, dX9_fault_44, ⟨by decide, by decide⟩⟩
theorem sX9_fault_51 : SiteG miX9_fault 51 9 11 := ⟨RX9, TX9, 12, 73, rfl, by decide, uwX9, inT1 203 rfl rfl, dX9_fault_51⟩
theorem sX9_fault_54 : SiteV miX9_fault miX5_faultReason 54 := ⟨234, inT3 181 rfl rfl, dX9_fault_54, ⟨by decide, by decide⟩⟩
theorem sX9_read_1 : SiteS miX9_read miX9_isCircuit 1 := ⟨77, inT1 233 rfl rfl, dX9_read_1, ⟨by decide, by decide⟩⟩
theorem sX9_read_7 : SiteK miX9_read 7 (-1000001) := ⟨85, inT1 239 rfl rfl, dX9_read_7⟩
theorem sX9_read_11 : SiteG miX9_read 11 9 11 := ⟨RX9, TX9, 12, 73, rfl, by decide, uwX9, inT1 203 rfl rfl, dX9_read_11⟩
theorem sX9_read_15 : SiteG miX9_read 15 9 10 := ⟨RX9, TX9, 12, 66, rfl, by decide, uwX9, inT1 202 rfl rfl, dX9_read_15⟩
theorem sX9_read_18 : SiteV miX9_read miX5_readWhole 18 := ⟨230, inT3 138 rfl rfl, dX9_read_18, ⟨by decide, by decide⟩⟩
theorem sX9_read_22 : SiteG miX9_read 22 9 11 := ⟨RX9, TX9, 12, 73, rfl, by decide, uwX9, inT1 203 rfl rfl, dX9_read_22⟩
theorem sX9_read_25 : SiteV miX9_read miX5_faultReason 25 := ⟨234, inT3 181 rfl rfl, dX9_read_25, ⟨by decide, by decide⟩⟩
theorem sX9_read_31 : SiteK miX9_read 31 (-1000002) := ⟨107, inT2 38 rfl rfl, dX9_read_31⟩
theorem sX9_read_36 : SiteV miX9_read miX9_circuitAt 36 := ⟨86, inT2 0 rfl rfl, dX9_read_36, ⟨by decide, by decide⟩⟩
theorem sX9_read_41 : SiteG miX9_read 41 9 9 := ⟨RX9, TX9, 12, 59, rfl, by decide, uwX9, inT1 201 rfl rfl, dX9_read_41⟩
theorem sX9_read_45 : SiteG miX9_read 45 9 0 := ⟨RX9, TX9, 12, 12, rfl, by decide, uwX9, inT1 192 rfl rfl, dX9_read_45⟩
theorem sX9_read_49 : SiteG miX9_read 49 9 1 := ⟨RX9, TX9, 12, 16, rfl, by decide, uwX9, inT1 193 rfl rfl, dX9_read_49⟩
theorem sX9_read_52 : SiteV miX9_read miX2_keep 52 := ⟨99, inT2 12 rfl rfl, dX9_read_52, ⟨by decide, by decide⟩⟩
theorem sX9_read_57 : SiteG miX9_read 57 9 11 := ⟨RX9, TX9, 12, 73, rfl, by decide, uwX9, inT1 203 rfl rfl, dX9_read_57⟩
theorem sX9_read_60 : SiteV miX9_read miX5_circuitRead 60 := ⟨240, inT3 193 rfl rfl, dX9_read_60, ⟨by decide, by decide⟩⟩
theorem sX9_read_63 : SiteV miX9_read miX1_takeFrom 63 := ⟨135, inT2 78 rfl rfl, dX9_read_63, ⟨by decide, by decide⟩⟩
theorem sX9_read_67 : SiteV miX9_read miX1_gateCount 67 := ⟨90, inT2 4 rfl rfl, dX9_read_67, ⟨by decide, by decide⟩⟩
theorem sX9_circuitAt_5 : SiteG miX9_circuitAt 5 9 0 := ⟨RX9, TX9, 12, 12, rfl, by decide, uwX9, inT1 192 rfl rfl, dX9_circuitAt_5⟩
theorem sX9_circuitAt_12 : SiteG miX9_circuitAt 12 9 1 := ⟨RX9, TX9, 12, 16, rfl, by decide, uwX9, inT1 193 rfl rfl, dX9_circuitAt_12⟩
theorem sX9_tellWires_29 : SiteV miX9_tellWires miX1_gateCount 29 := ⟨90, inT2 4 rfl rfl, dX9_tellWires_29, ⟨by decide, by decide⟩⟩
theorem sX9_tellWires_34 : SiteV miX9_tellWires miX1_outputWire 34 := ⟨128, inT2 66 rfl rfl, dX9_tellWires_34, ⟨by decide, by decide⟩⟩
theorem sX9_tellWires_39 : SiteV miX9_tellWires miX1_firstState 39 := ⟨166, inT2 186 rfl rfl, dX9_tellWires_39, ⟨by decide, by decide⟩⟩
theorem sX9_tellWires_44 : SiteV miX9_tellWires miX1_gatesBehindOutput 44 := ⟨244, inT2 187 rfl rfl, dX9_tellWires_44, ⟨by decide, by decide⟩⟩
theorem sX9_tellStates_1 : SiteG miX9_tellStates 1 9 5 := ⟨RX9, TX9, 12, 32, rfl, by decide, uwX9, inT1 197 rfl rfl, dX9_tellStates_1⟩
theorem sX9_tellStates_5 : SiteV miX9_tellStates miX7_fillFrom 5 := ⟨200, inT2 95 rfl rfl, dX9_tellStates_5, ⟨by decide, by decide⟩⟩
theorem sX9_tellStates_9 : SiteG miX9_tellStates 9 9 5 := ⟨RX9, TX9, 12, 32, rfl, by decide, uwX9, inT1 197 rfl rfl, dX9_tellStates_9⟩
theorem sX9_tellStates_12 : SiteV miX9_tellStates miX7_statesComeTo 12 := ⟨247, inT2 135 rfl rfl, dX9_tellStates_12, ⟨by decide, by decide⟩⟩
theorem sX9_tellStates_47 : SiteG miX9_tellStates 47 9 5 := ⟨RX9, TX9, 12, 32, rfl, by decide, uwX9, inT1 197 rfl rfl, dX9_tellStates_47⟩
theorem sX9_tellStates_51 : SiteV miX9_tellStates miX7_steadyRegisters 51 := ⟨250, inT2 148 rfl rfl, dX9_tellStates_51, ⟨by decide, by decide⟩⟩
theorem sX9_tellStates_56 : SiteG miX9_tellStates 56 9 8 := ⟨RX9, TX9, 12, 52, rfl, by decide, uwX9, inT1 200 rfl rfl, dX9_tellStates_56⟩
theorem sX9_tellStates_61 : SiteG miX9_tellStates 61 9 5 := ⟨RX9, TX9, 12, 32, rfl, by decide, uwX9, inT1 197 rfl rfl, dX9_tellStates_61⟩
theorem sX9_tellStates_64 : SiteV miX9_tellStates miX0_classesAmong 64 := ⟨253, inT2 152 rfl rfl, dX9_tellStates_64, ⟨by decide, by decide⟩⟩
theorem sX9_tellGate_2 : SiteV miX9_tellGate miX1_gateCount 2 := ⟨90, inT2 4 rfl rfl, dX9_tellGate_2, ⟨by decide, by decide⟩⟩
theorem sX9_tellGate_8 : SiteK miX9_tellGate 8 (-1000004) := ⟨178, inT2 199 rfl rfl, dX9_tellGate_8⟩
theorem sX9_tellGate_18 : SiteV miX9_tellGate miX1_kindOf 18 := ⟨257, inT2 200 rfl rfl, dX9_tellGate_18, ⟨by decide, by decide⟩⟩
theorem sX9_tellGate_29 : SiteV miX9_tellGate miX1_firstWire 29 := ⟨207, inT2 201 rfl rfl, dX9_tellGate_29, ⟨by decide, by decide⟩⟩
theorem sX9_tellGate_37 : SiteV miX9_tellGate miX1_secondWire 37 := ⟨210, inT2 202 rfl rfl, dX9_tellGate_37, ⟨by decide, by decide⟩⟩
theorem sX9_walkWith_1 : SiteG miX9_walkWith 1 9 3 := ⟨RX9, TX9, 12, 25, rfl, by decide, uwX9, inT1 195 rfl rfl, dX9_walkWith_1⟩
theorem sX9_walkWith_5 : SiteV miX9_walkWith miX7_fillFrom 5 := ⟨200, inT2 95 rfl rfl, dX9_walkWith_5, ⟨by decide, by decide⟩⟩
theorem sX9_walkWith_9 : SiteG miX9_walkWith 9 9 4 := ⟨RX9, TX9, 12, 29, rfl, by decide, uwX9, inT1 196 rfl rfl, dX9_walkWith_9⟩
theorem sX9_walkWith_13 : SiteG miX9_walkWith 13 9 1 := ⟨RX9, TX9, 12, 16, rfl, by decide, uwX9, inT1 193 rfl rfl, dX9_walkWith_13⟩
theorem sX9_walkWith_16 : SiteV miX9_walkWith miX7_fillFrom 16 := ⟨200, inT2 95 rfl rfl, dX9_walkWith_16, ⟨by decide, by decide⟩⟩
theorem sX9_walkWith_20 : SiteG miX9_walkWith 20 9 6 := ⟨RX9, TX9, 12, 38, rfl, by decide, uwX9, inT1 198 rfl rfl, dX9_walkWith_20⟩
theorem sX9_walkWith_24 : SiteG miX9_walkWith 24 9 3 := ⟨RX9, TX9, 12, 25, rfl, by decide, uwX9, inT1 195 rfl rfl, dX9_walkWith_24⟩
theorem sX9_walkWith_28 : SiteG miX9_walkWith 28 9 4 := ⟨RX9, TX9, 12, 29, rfl, by decide, uwX9, inT1 196 rfl rfl, dX9_walkWith_28⟩
theorem sX9_walkWith_31 : SiteV miX9_walkWith miX4_walkFromFirst 31 := ⟨260, inT2 239 rfl rfl, dX9_walkWith_31, ⟨by decide, by decide⟩⟩
theorem sX9_neverApart_2 : SiteV miX9_neverApart miX9_walkWith 2 := ⟨172, inT2 235 rfl rfl, dX9_neverApart_2, ⟨by decide, by decide⟩⟩
theorem sX9_neverApart_6 : SiteV miX9_neverApart miX9_firstPairApart 6 := ⟨194, inT3 51 rfl rfl, dX9_neverApart_6, ⟨by decide, by decide⟩⟩
theorem sX9_neverApart_10 : SiteG miX9_neverApart 10 9 6 := ⟨RX9, TX9, 12, 38, rfl, by decide, uwX9, inT1 198 rfl rfl, dX9_neverApart_10⟩
theorem sX9_neverApart_13 : SiteV miX9_neverApart miX4_size 13 := ⟨175, inT3 23 rfl rfl, dX9_neverApart_13, ⟨by decide, by decide⟩⟩
theorem sX9_firstPairApart_4 : SiteG miX9_firstPairApart 4 9 6 := ⟨RX9, TX9, 12, 38, rfl, by decide, uwX9, inT1 198 rfl rfl, dX9_firstPairApart_4⟩
theorem sX9_firstPairApart_7 : SiteV miX9_firstPairApart miX4_size 7 := ⟨175, inT3 23 rfl rfl, dX9_firstPairApart_7, ⟨by decide, by decide⟩⟩
theorem sX9_firstPairApart_22 : SiteV miX9_firstPairApart miX9_differingInputs 22 := ⟨188, inT3 33 rfl rfl, dX9_firstPairApart_22, ⟨by decide, by decide⟩⟩
theorem sX9_differingInputs_1 : SiteG miX9_differingInputs 1 9 3 := ⟨RX9, TX9, 12, 25, rfl, by decide, uwX9, inT1 195 rfl rfl, dX9_differingInputs_1⟩
theorem sX9_differingInputs_5 : SiteG miX9_differingInputs 5 9 6 := ⟨RX9, TX9, 12, 38, rfl, by decide, uwX9, inT1 198 rfl rfl, dX9_differingInputs_5⟩
theorem sX9_differingInputs_9 : SiteV miX9_differingInputs miX4_zeroState 9 := ⟨179, inT3 27 rfl rfl, dX9_differingInputs_9, ⟨by decide, by decide⟩⟩
theorem sX9_differingInputs_12 : SiteV miX9_differingInputs miX7_outputSet 12 := ⟨264, inT3 37 rfl rfl, dX9_differingInputs_12, ⟨by decide, by decide⟩⟩
theorem sX9_differingInputs_16 : SiteG miX9_differingInputs 16 9 4 := ⟨RX9, TX9, 12, 29, rfl, by decide, uwX9, inT1 196 rfl rfl, dX9_differingInputs_16⟩
theorem sX9_differingInputs_20 : SiteG miX9_differingInputs 20 9 6 := ⟨RX9, TX9, 12, 38, rfl, by decide, uwX9, inT1 198 rfl rfl, dX9_differingInputs_20⟩
theorem sX9_differingInputs_24 : SiteV miX9_differingInputs miX4_oneState 24 := ⟨182, inT3 28 rfl rfl, dX9_differingInputs_24, ⟨by decide, by decide⟩⟩
theorem sX9_differingInputs_27 : SiteV miX9_differingInputs miX7_outputSet 27 := ⟨264, inT3 37 rfl rfl, dX9_differingInputs_27, ⟨by decide, by decide⟩⟩
theorem sX9_isCircuit_3 : SiteS miX9_isCircuit miX9_isWithin 3 := ⟨81, inT1 236 rfl rfl, dX9_isCircuit_3, ⟨by decide, by decide⟩⟩
theorem sX9_isRegister_3 : SiteS miX9_isRegister miX9_isWithin 3 := ⟨81, inT1 236 rfl rfl, dX9_isRegister_3, ⟨by decide, by decide⟩⟩
theorem sX9_isWire_4 : SiteS miX9_isWire miX9_isWithin 4 := ⟨81, inT1 236 rfl rfl, dX9_isWire_4, ⟨by decide, by decide⟩⟩
theorem sX9_isState_4 : SiteS miX9_isState miX9_isWithin 4 := ⟨81, inT1 236 rfl rfl, dX9_isState_4, ⟨by decide, by decide⟩⟩
theorem sX9_areInputs_3 : SiteS miX9_areInputs miX9_isWithin 3 := ⟨81, inT1 236 rfl rfl, dX9_areInputs_3, ⟨by decide, by decide⟩⟩
theorem sX9_mayFeed_8 : SiteS miX9_mayFeed miX9_isWithin 8 := ⟨81, inT1 236 rfl rfl, dX9_mayFeed_8, ⟨by decide, by decide⟩⟩
theorem sX9_leastOf_9 : SiteS miX9_leastOf miX9_bitOf 9 := ⟨160, inT2 214 rfl rfl, dX9_leastOf_9, ⟨by decide, by decide⟩⟩
theorem sX10_init_133 : SiteG miX10_init 133 10 0 := ⟨RX10, TX10, 23, 7, rfl, by decide, uwX10, inT3 206 rfl rfl, dX10_init_133⟩
theorem sX10_init_137 : SiteS miX10_init miX10_lays 137 := ⟨56, inT3 203 rfl rfl, dX10_init_137, ⟨by decide, by decide⟩⟩
theorem sX10_init_141 : SiteG miX10_init 141 10 0 := ⟨RX10, TX10, 23, 7, rfl, by decide, uwX10, inT3 206 rfl rfl, dX10_init_141⟩
theorem sX10_init_146 : SiteS miX10_init miX10_lays 146 := ⟨56, inT3 203 rfl rfl, dX10_init_146, ⟨by decide, by decide⟩⟩
theorem sX10_of_1 : SiteG miX10_of 1 10 0 := ⟨RX10, TX10, 23, 7, rfl, by decide, uwX10, inT3 206 rfl rfl, dX10_of_1⟩
theorem sX10_keeps_9 : SiteG miX10_keeps 9 10 2 := ⟨RX10, TX10, 23, 16, rfl, by decide, uwX10, inT3 208 rfl rfl, dX10_keeps_9⟩
theorem sX10_keeps_14 : SiteG miX10_keeps 14 10 0 := ⟨RX10, TX10, 23, 7, rfl, by decide, uwX10, inT3 206 rfl rfl, dX10_keeps_14⟩
theorem sX10_acted_1 : SiteK miX10_acted 1 (-1000001) := ⟨60, inT4 51 rfl rfl, dX10_acted_1⟩
theorem sX10_acted_7 : SiteG miX10_acted 7 10 3 := ⟨RX10, TX10, 23, 61, rfl, by decide, uwX10, inT3 209 rfl rfl, dX10_acted_7⟩
theorem sX10_acted_24 : SiteG miX10_acted 24 10 1 := ⟨RX10, TX10, 23, 13, rfl, by decide, uwX10, inT3 207 rfl rfl, dX10_acted_24⟩
theorem sX10_acted_29 : SiteG miX10_acted 29 10 1 := ⟨RX10, TX10, 23, 13, rfl, by decide, uwX10, inT3 207 rfl rfl, dX10_acted_29⟩
theorem sX10_acted_46 : SiteG miX10_acted 46 10 3 := ⟨RX10, TX10, 23, 61, rfl, by decide, uwX10, inT3 209 rfl rfl, dX10_acted_46⟩
theorem sX10_acted_51 : SiteP miX10_acted 51 10 3 := ⟨RX10, TX10, 23, 61, tyX10, rfl, by decide, uwX10, inT3 209 rfl rfl, dX10_acted_51, tyX10_ok, nmX10, rfl, rfl⟩
theorem sX10_acted_63 : SiteG miX10_acted 63 10 1 := ⟨RX10, TX10, 23, 13, rfl, by decide, uwX10, inT3 207 rfl rfl, dX10_acted_63⟩
theorem sX10_acted_69 : SiteG miX10_acted 69 10 3 := ⟨RX10, TX10, 23, 61, rfl, by decide, uwX10, inT3 209 rfl rfl, dX10_acted_69⟩
theorem sX10_acted_76 : SiteG miX10_acted 76 10 2 := ⟨RX10, TX10, 23, 16, rfl, by decide, uwX10, inT3 208 rfl rfl, dX10_acted_76⟩
theorem sX10_acted_90 : SiteG miX10_acted 90 10 3 := ⟨RX10, TX10, 23, 61, rfl, by decide, uwX10, inT3 209 rfl rfl, dX10_acted_90⟩
theorem sX10_acted_95 : SiteP miX10_acted 95 10 3 := ⟨RX10, TX10, 23, 61, tyX10, rfl, by decide, uwX10, inT3 209 rfl rfl, dX10_acted_95, tyX10_ok, nmX10, rfl, rfl⟩
theorem sX10_isAllowed_5 : SiteS miX10_isAllowed miX10_in 5 := ⟨65, inT4 41 rfl rfl, dX10_isAllowed_5, ⟨by decide, by decide⟩⟩
theorem sX10_isAllowed_16 : SiteS miX10_isAllowed miX10_in 16 := ⟨65, inT4 41 rfl rfl, dX10_isAllowed_16, ⟨by decide, by decide⟩⟩
theorem sX10_gate_3 : SiteS miX10_gate miX10_in 3 := ⟨65, inT4 41 rfl rfl, dX10_gate_3, ⟨by decide, by decide⟩⟩
theorem sX10_gate_14 : SiteV miX10_gate miX10_of 14 := ⟨69, inT4 44 rfl rfl, dX10_gate_14, ⟨by decide, by decide⟩⟩
theorem sX10_gate_17 : SiteS miX10_gate miX10_in 17 := ⟨65, inT4 41 rfl rfl, dX10_gate_17, ⟨by decide, by decide⟩⟩
theorem sX10_gate_26 : SiteS miX10_gate miX10_in 26 := ⟨65, inT4 41 rfl rfl, dX10_gate_26, ⟨by decide, by decide⟩⟩
theorem sX10_gate_35 : SiteS miX10_gate miX10_isAllowed 35 := ⟨73, inT4 48 rfl rfl, dX10_gate_35, ⟨by decide, by decide⟩⟩
theorem sX10_gate_44 : SiteS miX10_gate miX10_isAllowed 44 := ⟨73, inT4 48 rfl rfl, dX10_gate_44, ⟨by decide, by decide⟩⟩
theorem sX10_gate_50 : SiteK miX10_gate 50 (-1000001) := ⟨60, inT4 51 rfl rfl, dX10_gate_50⟩
theorem sX10_gate_59 : SiteK miX10_gate 59 (-1000003) := ⟨77, inT4 52 rfl rfl, dX10_gate_59⟩
theorem sX10_gate_63 : SiteV miX10_gate miX10_keeps 63 := ⟨78, inT4 53 rfl rfl, dX10_gate_63, ⟨by decide, by decide⟩⟩
theorem sX10_gate_80 : SiteG miX10_gate 80 10 0 := ⟨RX10, TX10, 23, 7, rfl, by decide, uwX10, inT3 206 rfl rfl, dX10_gate_80⟩
theorem sX10_gate_88 : SiteG miX10_gate 88 10 0 := ⟨RX10, TX10, 23, 7, rfl, by decide, uwX10, inT3 206 rfl rfl, dX10_gate_88⟩
theorem sX10_gate_99 : SiteG miX10_gate 99 10 0 := ⟨RX10, TX10, 23, 7, rfl, by decide, uwX10, inT3 206 rfl rfl, dX10_gate_99⟩
theorem sX10_gate_110 : SiteG miX10_gate 110 10 0 := ⟨RX10, TX10, 23, 7, rfl, by decide, uwX10, inT3 206 rfl rfl, dX10_gate_110⟩
theorem sX10_gate_123 : SiteV miX10_gate miX10_of 123 := ⟨69, inT4 44 rfl rfl, dX10_gate_123, ⟨by decide, by decide⟩⟩
theorem sX10_gate_140 : SiteV miX10_gate miX10_of 140 := ⟨69, inT4 44 rfl rfl, dX10_gate_140, ⟨by decide, by decide⟩⟩
theorem sX10_gate_143 : SiteV miX10_gate miX10_acted 143 := ⟨81, inT4 57 rfl rfl, dX10_gate_143, ⟨by decide, by decide⟩⟩
theorem sX10_dropGate_3 : SiteS miX10_dropGate miX10_in 3 := ⟨65, inT4 41 rfl rfl, dX10_dropGate_3, ⟨by decide, by decide⟩⟩
theorem sX10_dropGate_9 : SiteK miX10_dropGate 9 (-1000001) := ⟨60, inT4 51 rfl rfl, dX10_dropGate_9⟩
theorem sX10_dropGate_15 : SiteV miX10_dropGate miX10_of 15 := ⟨69, inT4 44 rfl rfl, dX10_dropGate_15, ⟨by decide, by decide⟩⟩
theorem sX10_dropGate_21 : SiteK miX10_dropGate 21 (-1000002) := ⟨85, inT4 65 rfl rfl, dX10_dropGate_21⟩
theorem sX10_dropGate_25 : SiteV miX10_dropGate miX10_keeps 25 := ⟨78, inT4 53 rfl rfl, dX10_dropGate_25, ⟨by decide, by decide⟩⟩
theorem sX10_dropGate_29 : SiteG miX10_dropGate 29 10 0 := ⟨RX10, TX10, 23, 7, rfl, by decide, uwX10, inT3 206 rfl rfl, dX10_dropGate_29⟩
theorem sX10_dropGate_45 : SiteV miX10_dropGate miX10_of 45 := ⟨69, inT4 44 rfl rfl, dX10_dropGate_45, ⟨by decide, by decide⟩⟩
theorem sX10_dropGate_48 : SiteV miX10_dropGate miX10_acted 48 := ⟨81, inT4 57 rfl rfl, dX10_dropGate_48, ⟨by decide, by decide⟩⟩
theorem sX10_register_3 : SiteS miX10_register miX10_in 3 := ⟨65, inT4 41 rfl rfl, dX10_register_3, ⟨by decide, by decide⟩⟩
theorem sX10_register_12 : SiteS miX10_register miX10_in 12 := ⟨65, inT4 41 rfl rfl, dX10_register_12, ⟨by decide, by decide⟩⟩
theorem sX10_register_22 : SiteS miX10_register miX10_in 22 := ⟨65, inT4 41 rfl rfl, dX10_register_22, ⟨by decide, by decide⟩⟩
theorem sX10_register_32 : SiteS miX10_register miX10_in 32 := ⟨65, inT4 41 rfl rfl, dX10_register_32, ⟨by decide, by decide⟩⟩
theorem sX10_register_38 : SiteK miX10_register 38 (-1000001) := ⟨60, inT4 51 rfl rfl, dX10_register_38⟩
theorem sX10_register_42 : SiteV miX10_register miX10_keeps 42 := ⟨78, inT4 53 rfl rfl, dX10_register_42, ⟨by decide, by decide⟩⟩
theorem sX10_register_55 : SiteG miX10_register 55 10 0 := ⟨RX10, TX10, 23, 7, rfl, by decide, uwX10, inT3 206 rfl rfl, dX10_register_55⟩
theorem sX10_register_65 : SiteG miX10_register 65 10 0 := ⟨RX10, TX10, 23, 7, rfl, by decide, uwX10, inT3 206 rfl rfl, dX10_register_65⟩
theorem sX10_register_78 : SiteG miX10_register 78 10 0 := ⟨RX10, TX10, 23, 7, rfl, by decide, uwX10, inT3 206 rfl rfl, dX10_register_78⟩
theorem sX10_register_88 : SiteG miX10_register 88 10 0 := ⟨RX10, TX10, 23, 7, rfl, by decide, uwX10, inT3 206 rfl rfl, dX10_register_88⟩
theorem sX10_register_102 : SiteV miX10_register miX10_acted 102 := ⟨81, inT4 57 rfl rfl, dX10_register_102, ⟨by decide, by decide⟩⟩
theorem sX10_output_3 : SiteS miX10_output miX10_in 3 := ⟨65, inT4 41 rfl rfl, dX10_output_3, ⟨by decide, by decide⟩⟩
theorem sX10_output_13 : SiteS miX10_output miX10_in 13 := ⟨65, inT4 41 rfl rfl, dX10_output_13, ⟨by decide, by decide⟩⟩
theorem sX10_output_19 : SiteK miX10_output 19 (-1000001) := ⟨60, inT4 51 rfl rfl, dX10_output_19⟩
theorem sX10_output_23 : SiteV miX10_output miX10_keeps 23 := ⟨78, inT4 53 rfl rfl, dX10_output_23, ⟨by decide, by decide⟩⟩
theorem sX10_output_29 : SiteV miX10_output miX10_of 29 := ⟨69, inT4 44 rfl rfl, dX10_output_29, ⟨by decide, by decide⟩⟩
theorem sX10_output_34 : SiteG miX10_output 34 10 0 := ⟨RX10, TX10, 23, 7, rfl, by decide, uwX10, inT3 206 rfl rfl, dX10_output_34⟩
theorem sX10_output_47 : SiteV miX10_output miX10_acted 47 := ⟨81, inT4 57 rfl rfl, dX10_output_47, ⟨by decide, by decide⟩⟩
theorem sX10_copy_3 : SiteS miX10_copy miX10_in 3 := ⟨65, inT4 41 rfl rfl, dX10_copy_3, ⟨by decide, by decide⟩⟩
theorem sX10_copy_9 : SiteK miX10_copy 9 (-1000001) := ⟨60, inT4 51 rfl rfl, dX10_copy_9⟩
theorem sX10_copy_13 : SiteV miX10_copy miX10_keeps 13 := ⟨78, inT4 53 rfl rfl, dX10_copy_13, ⟨by decide, by decide⟩⟩
theorem sX10_copy_25 : SiteG miX10_copy 25 10 0 := ⟨RX10, TX10, 23, 7, rfl, by decide, uwX10, inT3 206 rfl rfl, dX10_copy_25⟩
theorem sX10_copy_37 : SiteG miX10_copy 37 10 2 := ⟨RX10, TX10, 23, 16, rfl, by decide, uwX10, inT3 208 rfl rfl, dX10_copy_37⟩
theorem sX10_copy_58 : SiteV miX10_copy miX10_of 58 := ⟨69, inT4 44 rfl rfl, dX10_copy_58, ⟨by decide, by decide⟩⟩
theorem sX10_copy_61 : SiteV miX10_copy miX10_acted 61 := ⟨81, inT4 57 rfl rfl, dX10_copy_61, ⟨by decide, by decide⟩⟩
theorem sX10_lights_11 : SiteG miX10_lights 11 10 10 := ⟨RX10, TX10, 23, 26, rfl, by decide, uwX10, inT3 216 rfl rfl, dX10_lights_11⟩
theorem sX10_lights_76 : SiteV miX10_lights miX10_of 76 := ⟨69, inT4 44 rfl rfl, dX10_lights_76, ⟨by decide, by decide⟩⟩
theorem sX10_lights_92 : SiteG miX10_lights 92 10 10 := ⟨RX10, TX10, 23, 26, rfl, by decide, uwX10, inT3 216 rfl rfl, dX10_lights_92⟩
theorem sX10_lights_104 : SiteV miX10_lights miX10_of 104 := ⟨69, inT4 44 rfl rfl, dX10_lights_104, ⟨by decide, by decide⟩⟩
theorem sX10_lights_108 : SiteG miX10_lights 108 10 10 := ⟨RX10, TX10, 23, 26, rfl, by decide, uwX10, inT3 216 rfl rfl, dX10_lights_108⟩
theorem sX10_lights_117 : SiteV miX10_lights miX10_of 117 := ⟨69, inT4 44 rfl rfl, dX10_lights_117, ⟨by decide, by decide⟩⟩
theorem sX10_lights_122 : SiteG miX10_lights 122 10 10 := ⟨RX10, TX10, 23, 26, rfl, by decide, uwX10, inT3 216 rfl rfl, dX10_lights_122⟩
theorem sX10_lights_131 : SiteV miX10_lights miX10_of 131 := ⟨69, inT4 44 rfl rfl, dX10_lights_131, ⟨by decide, by decide⟩⟩
theorem sX10_lights_135 : SiteS miX10_lights miX10_works 135 := ⟨86, inT4 86 rfl rfl, dX10_lights_135, ⟨by decide, by decide⟩⟩
theorem sX10_out_4 : SiteV miX10_out miX10_lights 4 := ⟨90, inT4 82 rfl rfl, dX10_out_4, ⟨by decide, by decide⟩⟩
theorem sX10_out_8 : SiteG miX10_out 8 10 10 := ⟨RX10, TX10, 23, 26, rfl, by decide, uwX10, inT3 216 rfl rfl, dX10_out_8⟩
theorem sX10_out_14 : SiteV miX10_out miX10_of 14 := ⟨69, inT4 44 rfl rfl, dX10_out_14, ⟨by decide, by decide⟩⟩
theorem sX10_then_4 : SiteV miX10_then miX10_lights 4 := ⟨90, inT4 82 rfl rfl, dX10_then_4, ⟨by decide, by decide⟩⟩
theorem sX10_then_22 : SiteG miX10_then 22 10 10 := ⟨RX10, TX10, 23, 26, rfl, by decide, uwX10, inT3 216 rfl rfl, dX10_then_22⟩
theorem sX10_then_31 : SiteV miX10_then miX10_of 31 := ⟨69, inT4 44 rfl rfl, dX10_then_31, ⟨by decide, by decide⟩⟩
theorem sX10_first_16 : SiteV miX10_first miX10_of 16 := ⟨69, inT4 44 rfl rfl, dX10_first_16, ⟨by decide, by decide⟩⟩
theorem sX10_bit_3 : SiteS miX10_bit miX10_in 3 := ⟨65, inT4 41 rfl rfl, dX10_bit_3, ⟨by decide, by decide⟩⟩
theorem sX10_bit_13 : SiteS miX10_bit miX10_in 13 := ⟨65, inT4 41 rfl rfl, dX10_bit_13, ⟨by decide, by decide⟩⟩
theorem sX10_bit_22 : SiteS miX10_bit miX10_in 22 := ⟨65, inT4 41 rfl rfl, dX10_bit_22, ⟨by decide, by decide⟩⟩
theorem sX10_bit_33 : SiteS miX10_bit miX10_in 33 := ⟨65, inT4 41 rfl rfl, dX10_bit_33, ⟨by decide, by decide⟩⟩
theorem sX10_bit_39 : SiteK miX10_bit 39 (-1000001) := ⟨60, inT4 51 rfl rfl, dX10_bit_39⟩
theorem sX10_bit_46 : SiteV miX10_bit miX10_lights 46 := ⟨90, inT4 82 rfl rfl, dX10_bit_46, ⟨by decide, by decide⟩⟩
theorem sX10_bit_50 : SiteG miX10_bit 50 10 10 := ⟨RX10, TX10, 23, 26, rfl, by decide, uwX10, inT3 216 rfl rfl, dX10_bit_50⟩
theorem sX10_behind_3 : SiteS miX10_behind miX10_in 3 := ⟨65, inT4 41 rfl rfl, dX10_behind_3, ⟨by decide, by decide⟩⟩
theorem sX10_behind_13 : SiteS miX10_behind miX10_in 13 := ⟨65, inT4 41 rfl rfl, dX10_behind_13, ⟨by decide, by decide⟩⟩
theorem sX10_behind_22 : SiteS miX10_behind miX10_in 22 := ⟨65, inT4 41 rfl rfl, dX10_behind_22, ⟨by decide, by decide⟩⟩
theorem sX10_behind_32 : SiteV miX10_behind miX10_then 32 := ⟨94, inT4 93 rfl rfl, dX10_behind_32, ⟨by decide, by decide⟩⟩
theorem sX10_behind_38 : SiteK miX10_behind 38 (-1000001) := ⟨60, inT4 51 rfl rfl, dX10_behind_38⟩
theorem sX10_run_3 : SiteS miX10_run miX10_in 3 := ⟨65, inT4 41 rfl rfl, dX10_run_3, ⟨by decide, by decide⟩⟩
theorem sX10_run_13 : SiteS miX10_run miX10_in 13 := ⟨65, inT4 41 rfl rfl, dX10_run_13, ⟨by decide, by decide⟩⟩
theorem sX10_run_23 : SiteS miX10_run miX10_in 23 := ⟨65, inT4 41 rfl rfl, dX10_run_23, ⟨by decide, by decide⟩⟩
theorem sX10_run_29 : SiteK miX10_run 29 (-1000001) := ⟨60, inT4 51 rfl rfl, dX10_run_29⟩
theorem sX10_run_34 : SiteV miX10_run miX10_first 34 := ⟨97, inT4 101 rfl rfl, dX10_run_34, ⟨by decide, by decide⟩⟩
theorem sX10_run_69 : SiteV miX10_run miX10_out 69 := ⟨100, inT4 105 rfl rfl, dX10_run_69, ⟨by decide, by decide⟩⟩
theorem sX10_run_84 : SiteV miX10_run miX10_then 84 := ⟨94, inT4 93 rfl rfl, dX10_run_84, ⟨by decide, by decide⟩⟩
theorem sX10_share_3 : SiteS miX10_share miX10_in 3 := ⟨65, inT4 41 rfl rfl, dX10_share_3, ⟨by decide, by decide⟩⟩
theorem sX10_share_12 : SiteS miX10_share miX10_in 12 := ⟨65, inT4 41 rfl rfl, dX10_share_12, ⟨by decide, by decide⟩⟩
theorem sX10_share_18 : SiteK miX10_share 18 (-1000001) := ⟨60, inT4 51 rfl rfl, dX10_share_18⟩
theorem sX10_share_39 : SiteV miX10_share miX10_out 39 := ⟨100, inT4 105 rfl rfl, dX10_share_39, ⟨by decide, by decide⟩⟩
theorem sX10_share_51 : SiteS miX10_share miX10_sixteenths 51 := ⟨103, inT4 113 rfl rfl, dX10_share_51, ⟨by decide, by decide⟩⟩
theorem sX10_comesTo_3 : SiteV miX10_comesTo miX10_first 3 := ⟨97, inT4 101 rfl rfl, dX10_comesTo_3, ⟨by decide, by decide⟩⟩
theorem sX10_comesTo_54 : SiteV miX10_comesTo miX10_then 54 := ⟨94, inT4 93 rfl rfl, dX10_comesTo_54, ⟨by decide, by decide⟩⟩
theorem sX10_steady_5 : SiteV miX10_steady miX10_comesTo 5 := ⟨106, inT4 120 rfl rfl, dX10_steady_5, ⟨by decide, by decide⟩⟩
theorem sX10_steady_53 : SiteV miX10_steady miX10_of 53 := ⟨69, inT4 44 rfl rfl, dX10_steady_53, ⟨by decide, by decide⟩⟩
theorem sX10_isAlike_6 : SiteG miX10_isAlike 6 10 21 := ⟨RX10, TX10, 23, 50, rfl, by decide, uwX10, inT3 227 rfl rfl, dX10_isAlike_6⟩
theorem sX10_isAlike_12 : SiteG miX10_isAlike 12 10 21 := ⟨RX10, TX10, 23, 50, rfl, by decide, uwX10, inT3 227 rfl rfl, dX10_isAlike_12⟩
theorem sX10_isAlike_51 : SiteV miX10_isAlike miX10_out 51 := ⟨100, inT4 105 rfl rfl, dX10_isAlike_51, ⟨by decide, by decide⟩⟩
theorem sX10_isAlike_59 : SiteV miX10_isAlike miX10_out 59 := ⟨100, inT4 105 rfl rfl, dX10_isAlike_59, ⟨by decide, by decide⟩⟩
theorem sX10_isAlike_74 : SiteG miX10_isAlike 74 10 21 := ⟨RX10, TX10, 23, 50, rfl, by decide, uwX10, inT3 227 rfl rfl, dX10_isAlike_74⟩
theorem sX10_isAlike_82 : SiteV miX10_isAlike miX10_then 82 := ⟨94, inT4 93 rfl rfl, dX10_isAlike_82, ⟨by decide, by decide⟩⟩
theorem sX10_isAlike_87 : SiteG miX10_isAlike 87 10 21 := ⟨RX10, TX10, 23, 50, rfl, by decide, uwX10, inT3 227 rfl rfl, dX10_isAlike_87⟩
theorem sX10_isAlike_95 : SiteV miX10_isAlike miX10_then 95 := ⟨94, inT4 93 rfl rfl, dX10_isAlike_95, ⟨by decide, by decide⟩⟩
theorem sX10_refines_9 : SiteG miX10_refines 9 10 22 := ⟨RX10, TX10, 23, 53, rfl, by decide, uwX10, inT3 228 rfl rfl, dX10_refines_9⟩
theorem sX10_refines_26 : SiteG miX10_refines 26 10 22 := ⟨RX10, TX10, 23, 53, rfl, by decide, uwX10, inT3 228 rfl rfl, dX10_refines_26⟩
theorem sX10_refines_36 : SiteV miX10_refines miX10_isAlike 36 := ⟨109, inT4 136 rfl rfl, dX10_refines_36, ⟨by decide, by decide⟩⟩
theorem sX10_refines_48 : SiteG miX10_refines 48 10 22 := ⟨RX10, TX10, 23, 53, rfl, by decide, uwX10, inT3 228 rfl rfl, dX10_refines_48⟩
theorem sX10_refines_75 : SiteG miX10_refines 75 10 21 := ⟨RX10, TX10, 23, 50, rfl, by decide, uwX10, inT3 227 rfl rfl, dX10_refines_75⟩
theorem sX10_refines_80 : SiteG miX10_refines 80 10 22 := ⟨RX10, TX10, 23, 53, rfl, by decide, uwX10, inT3 228 rfl rfl, dX10_refines_80⟩
theorem sX10_classes_3 : SiteV miX10_classes miX10_refines 3 := ⟨113, inT4 132 rfl rfl, dX10_classes_3, ⟨by decide, by decide⟩⟩
theorem sX10_classes_17 : SiteV miX10_classes miX10_refines 17 := ⟨113, inT4 132 rfl rfl, dX10_classes_17, ⟨by decide, by decide⟩⟩
theorem sX10_classes_28 : SiteV miX10_classes miX10_comesTo 28 := ⟨106, inT4 120 rfl rfl, dX10_classes_28, ⟨by decide, by decide⟩⟩
theorem sX10_classes_57 : SiteG miX10_classes 57 10 21 := ⟨RX10, TX10, 23, 50, rfl, by decide, uwX10, inT3 227 rfl rfl, dX10_classes_57⟩
theorem sX10_depends_4 : SiteV miX10_depends miX10_of 4 := ⟨69, inT4 44 rfl rfl, dX10_depends_4, ⟨by decide, by decide⟩⟩
theorem sX10_depends_12 : SiteV miX10_depends miX10_of 12 := ⟨69, inT4 44 rfl rfl, dX10_depends_12, ⟨by decide, by decide⟩⟩
theorem sX10_depends_50 : SiteV miX10_depends miX10_of 50 := ⟨69, inT4 44 rfl rfl, dX10_depends_50, ⟨by decide, by decide⟩⟩
theorem sX10_depends_61 : SiteV miX10_depends miX10_of 61 := ⟨69, inT4 44 rfl rfl, dX10_depends_61, ⟨by decide, by decide⟩⟩
theorem sX10_depends_75 : SiteV miX10_depends miX10_of 75 := ⟨69, inT4 44 rfl rfl, dX10_depends_75, ⟨by decide, by decide⟩⟩
theorem sX10_depends_99 : SiteV miX10_depends miX10_of 99 := ⟨69, inT4 44 rfl rfl, dX10_depends_99, ⟨by decide, by decide⟩⟩
theorem sX10_circuitOf_5 : SiteS miX10_circuitOf miX10_in 5 := ⟨65, inT4 41 rfl rfl, dX10_circuitOf_5, ⟨by decide, by decide⟩⟩
theorem sX10_circuitOf_16 : SiteS miX10_circuitOf miX10_in 16 := ⟨65, inT4 41 rfl rfl, dX10_circuitOf_16, ⟨by decide, by decide⟩⟩
theorem sX10_circuitOf_27 : SiteS miX10_circuitOf miX10_in 27 := ⟨65, inT4 41 rfl rfl, dX10_circuitOf_27, ⟨by decide, by decide⟩⟩
theorem sX10_circuitOf_42 : SiteS miX10_circuitOf miX10_in 42 := ⟨65, inT4 41 rfl rfl, dX10_circuitOf_42, ⟨by decide, by decide⟩⟩
theorem sX10_circuitOf_52 : SiteS miX10_circuitOf miX10_in 52 := ⟨65, inT4 41 rfl rfl, dX10_circuitOf_52, ⟨by decide, by decide⟩⟩
theorem sX10_circuitOf_62 : SiteK miX10_circuitOf 62 (-1000001) := ⟨60, inT4 51 rfl rfl, dX10_circuitOf_62⟩
theorem sX10_circuitOf_111 : SiteV miX10_circuitOf miX10_of 111 := ⟨69, inT4 44 rfl rfl, dX10_circuitOf_111, ⟨by decide, by decide⟩⟩
theorem sX10_circuitOf_117 : SiteV miX10_circuitOf miX10_first 117 := ⟨97, inT4 101 rfl rfl, dX10_circuitOf_117, ⟨by decide, by decide⟩⟩
theorem sX10_circuitOf_123 : SiteV miX10_circuitOf miX10_comesTo 123 := ⟨106, inT4 120 rfl rfl, dX10_circuitOf_123, ⟨by decide, by decide⟩⟩
theorem sX10_circuitOf_129 : SiteV miX10_circuitOf miX10_steady 129 := ⟨117, inT4 124 rfl rfl, dX10_circuitOf_129, ⟨by decide, by decide⟩⟩
theorem sX10_circuitOf_135 : SiteV miX10_circuitOf miX10_classes 135 := ⟨120, inT4 128 rfl rfl, dX10_circuitOf_135, ⟨by decide, by decide⟩⟩
theorem sX10_circuitOf_141 : SiteV miX10_circuitOf miX10_depends 141 := ⟨123, inT4 140 rfl rfl, dX10_circuitOf_141, ⟨by decide, by decide⟩⟩
theorem sX10_circuitOf_152 : SiteV miX10_circuitOf miX10_of 152 := ⟨69, inT4 44 rfl rfl, dX10_circuitOf_152, ⟨by decide, by decide⟩⟩
theorem sX10_circuitOf_176 : SiteV miX10_circuitOf miX10_of 176 := ⟨69, inT4 44 rfl rfl, dX10_circuitOf_176, ⟨by decide, by decide⟩⟩
theorem sX10_circuitOf_182 : SiteK miX10_circuitOf 182 (-1000004) := ⟨126, inT4 144 rfl rfl, dX10_circuitOf_182⟩
theorem sX10_pairsUp_10 : SiteG miX10_pairsUp 10 10 15 := ⟨RX10, TX10, 23, 41, rfl, by decide, uwX10, inT3 221 rfl rfl, dX10_pairsUp_10⟩
theorem sX10_pairsUp_23 : SiteG miX10_pairsUp 23 10 11 := ⟨RX10, TX10, 23, 29, rfl, by decide, uwX10, inT3 217 rfl rfl, dX10_pairsUp_23⟩
theorem sX10_pairsUp_31 : SiteV miX10_pairsUp miX10_first 31 := ⟨97, inT4 101 rfl rfl, dX10_pairsUp_31, ⟨by decide, by decide⟩⟩
theorem sX10_pairsUp_37 : SiteV miX10_pairsUp miX10_first 37 := ⟨97, inT4 101 rfl rfl, dX10_pairsUp_37, ⟨by decide, by decide⟩⟩
theorem sX10_pairsUp_43 : SiteG miX10_pairsUp 43 10 15 := ⟨RX10, TX10, 23, 41, rfl, by decide, uwX10, inT3 221 rfl rfl, dX10_pairsUp_43⟩
theorem sX10_pairsUp_47 : SiteG miX10_pairsUp 47 10 11 := ⟨RX10, TX10, 23, 29, rfl, by decide, uwX10, inT3 217 rfl rfl, dX10_pairsUp_47⟩
theorem sX10_pairsUp_55 : SiteG miX10_pairsUp 55 10 12 := ⟨RX10, TX10, 23, 32, rfl, by decide, uwX10, inT3 218 rfl rfl, dX10_pairsUp_55⟩
theorem sX10_pairsUp_62 : SiteG miX10_pairsUp 62 10 14 := ⟨RX10, TX10, 23, 38, rfl, by decide, uwX10, inT3 220 rfl rfl, dX10_pairsUp_62⟩
theorem sX10_pairsUp_70 : SiteP miX10_pairsUp 70 10 16 := ⟨RX10, TX10, 23, 127, tyX10, rfl, by decide, uwX10, inT3 222 rfl rfl, dX10_pairsUp_70, tyX10_ok, nmX10, rfl, rfl⟩
theorem sX10_pairsUp_75 : SiteP miX10_pairsUp 75 10 17 := ⟨RX10, TX10, 23, 130, tyX10, rfl, by decide, uwX10, inT3 223 rfl rfl, dX10_pairsUp_75, tyX10_ok, nmX10, rfl, rfl⟩
theorem sX10_pairsUp_82 : SiteG miX10_pairsUp 82 10 16 := ⟨RX10, TX10, 23, 127, rfl, by decide, uwX10, inT3 222 rfl rfl, dX10_pairsUp_82⟩
theorem sX10_pairsUp_89 : SiteG miX10_pairsUp 89 10 11 := ⟨RX10, TX10, 23, 29, rfl, by decide, uwX10, inT3 217 rfl rfl, dX10_pairsUp_89⟩
theorem sX10_pairsUp_99 : SiteG miX10_pairsUp 99 10 11 := ⟨RX10, TX10, 23, 29, rfl, by decide, uwX10, inT3 217 rfl rfl, dX10_pairsUp_99⟩
theorem sX10_pairsUp_118 : SiteG miX10_pairsUp 118 10 17 := ⟨RX10, TX10, 23, 130, rfl, by decide, uwX10, inT3 223 rfl rfl, dX10_pairsUp_118⟩
theorem sX10_pairsUp_129 : SiteV miX10_pairsUp miX10_out 129 := ⟨100, inT4 105 rfl rfl, dX10_pairsUp_129, ⟨by decide, by decide⟩⟩
theorem sX10_pairsUp_137 : SiteV miX10_pairsUp miX10_out 137 := ⟨100, inT4 105 rfl rfl, dX10_pairsUp_137, ⟨by decide, by decide⟩⟩
theorem sX10_pairsUp_145 : SiteP miX10_pairsUp 145 10 17 := ⟨RX10, TX10, 23, 130, tyX10, rfl, by decide, uwX10, inT3 223 rfl rfl, dX10_pairsUp_145, tyX10_ok, nmX10, rfl, rfl⟩
theorem sX10_pairsUp_151 : SiteP miX10_pairsUp 151 10 18 := ⟨RX10, TX10, 23, 133, tyX10, rfl, by decide, uwX10, inT3 224 rfl rfl, dX10_pairsUp_151, tyX10_ok, nmX10, rfl, rfl⟩
theorem sX10_pairsUp_161 : SiteV miX10_pairsUp miX10_then 161 := ⟨94, inT4 93 rfl rfl, dX10_pairsUp_161, ⟨by decide, by decide⟩⟩
theorem sX10_pairsUp_170 : SiteV miX10_pairsUp miX10_then 170 := ⟨94, inT4 93 rfl rfl, dX10_pairsUp_170, ⟨by decide, by decide⟩⟩
theorem sX10_pairsUp_177 : SiteG miX10_pairsUp 177 10 15 := ⟨RX10, TX10, 23, 41, rfl, by decide, uwX10, inT3 221 rfl rfl, dX10_pairsUp_177⟩
theorem sX10_pairsUp_187 : SiteG miX10_pairsUp 187 10 15 := ⟨RX10, TX10, 23, 41, rfl, by decide, uwX10, inT3 221 rfl rfl, dX10_pairsUp_187⟩
theorem sX10_pairsUp_195 : SiteG miX10_pairsUp 195 10 11 := ⟨RX10, TX10, 23, 29, rfl, by decide, uwX10, inT3 217 rfl rfl, dX10_pairsUp_195⟩
theorem sX10_pairsUp_199 : SiteG miX10_pairsUp 199 10 16 := ⟨RX10, TX10, 23, 127, rfl, by decide, uwX10, inT3 222 rfl rfl, dX10_pairsUp_199⟩
theorem sX10_pairsUp_206 : SiteG miX10_pairsUp 206 10 12 := ⟨RX10, TX10, 23, 32, rfl, by decide, uwX10, inT3 218 rfl rfl, dX10_pairsUp_206⟩
theorem sX10_pairsUp_210 : SiteG miX10_pairsUp 210 10 16 := ⟨RX10, TX10, 23, 127, rfl, by decide, uwX10, inT3 222 rfl rfl, dX10_pairsUp_210⟩
theorem sX10_pairsUp_216 : SiteG miX10_pairsUp 216 10 13 := ⟨RX10, TX10, 23, 35, rfl, by decide, uwX10, inT3 219 rfl rfl, dX10_pairsUp_216⟩
theorem sX10_pairsUp_220 : SiteG miX10_pairsUp 220 10 16 := ⟨RX10, TX10, 23, 127, rfl, by decide, uwX10, inT3 222 rfl rfl, dX10_pairsUp_220⟩
theorem sX10_pairsUp_227 : SiteG miX10_pairsUp 227 10 14 := ⟨RX10, TX10, 23, 38, rfl, by decide, uwX10, inT3 220 rfl rfl, dX10_pairsUp_227⟩
theorem sX10_pairsUp_231 : SiteG miX10_pairsUp 231 10 16 := ⟨RX10, TX10, 23, 127, rfl, by decide, uwX10, inT3 222 rfl rfl, dX10_pairsUp_231⟩
theorem sX10_pairsUp_235 : SiteG miX10_pairsUp 235 10 14 := ⟨RX10, TX10, 23, 38, rfl, by decide, uwX10, inT3 220 rfl rfl, dX10_pairsUp_235⟩
theorem sX10_pairsUp_245 : SiteG miX10_pairsUp 245 10 16 := ⟨RX10, TX10, 23, 127, rfl, by decide, uwX10, inT3 222 rfl rfl, dX10_pairsUp_245⟩
theorem sX10_pairsUp_250 : SiteP miX10_pairsUp 250 10 16 := ⟨RX10, TX10, 23, 127, tyX10, rfl, by decide, uwX10, inT3 222 rfl rfl, dX10_pairsUp_250, tyX10_ok, nmX10, rfl, rfl⟩
theorem sX10_rowAt_3 : SiteG miX10_rowAt 3 10 14 := ⟨RX10, TX10, 23, 38, rfl, by decide, uwX10, inT3 220 rfl rfl, dX10_rowAt_3⟩
theorem sX10_rowAt_15 : SiteG miX10_rowAt 15 10 12 := ⟨RX10, TX10, 23, 32, rfl, by decide, uwX10, inT3 218 rfl rfl, dX10_rowAt_15⟩
theorem sX10_rowAt_25 : SiteG miX10_rowAt 25 10 13 := ⟨RX10, TX10, 23, 35, rfl, by decide, uwX10, inT3 219 rfl rfl, dX10_rowAt_25⟩
theorem sX10_differs_13 : SiteG miX10_differs 13 10 11 := ⟨RX10, TX10, 23, 29, rfl, by decide, uwX10, inT3 217 rfl rfl, dX10_differs_13⟩
theorem sX10_differs_22 : SiteV miX10_differs miX10_out 22 := ⟨100, inT4 105 rfl rfl, dX10_differs_22, ⟨by decide, by decide⟩⟩
theorem sX10_differs_28 : SiteG miX10_differs 28 10 11 := ⟨RX10, TX10, 23, 29, rfl, by decide, uwX10, inT3 217 rfl rfl, dX10_differs_28⟩
theorem sX10_differs_37 : SiteV miX10_differs miX10_out 37 := ⟨100, inT4 105 rfl rfl, dX10_differs_37, ⟨by decide, by decide⟩⟩
theorem sX10_pairOf_7 : SiteS miX10_pairOf miX10_in 7 := ⟨65, inT4 41 rfl rfl, dX10_pairOf_7, ⟨by decide, by decide⟩⟩
theorem sX10_pairOf_19 : SiteS miX10_pairOf miX10_in 19 := ⟨65, inT4 41 rfl rfl, dX10_pairOf_19, ⟨by decide, by decide⟩⟩
theorem sX10_pairOf_25 : SiteK miX10_pairOf 25 (-1000001) := ⟨60, inT4 51 rfl rfl, dX10_pairOf_25⟩
theorem sX10_pairOf_29 : SiteV miX10_pairOf miX10_pairsUp 29 := ⟨136, inT4 149 rfl rfl, dX10_pairOf_29, ⟨by decide, by decide⟩⟩
theorem sX10_pairOf_34 : SiteG miX10_pairOf 34 10 16 := ⟨RX10, TX10, 23, 127, rfl, by decide, uwX10, inT3 222 rfl rfl, dX10_pairOf_34⟩
theorem sX10_pairOf_45 : SiteG miX10_pairOf 45 10 14 := ⟨RX10, TX10, 23, 38, rfl, by decide, uwX10, inT3 220 rfl rfl, dX10_pairOf_45⟩
theorem sX10_pairOf_53 : SiteK miX10_pairOf 53 (-1000004) := ⟨126, inT4 144 rfl rfl, dX10_pairOf_53⟩
theorem sX10_pairOf_89 : SiteG miX10_pairOf 89 10 11 := ⟨RX10, TX10, 23, 29, rfl, by decide, uwX10, inT3 217 rfl rfl, dX10_pairOf_89⟩
theorem sX10_pairOf_99 : SiteG miX10_pairOf 99 10 11 := ⟨RX10, TX10, 23, 29, rfl, by decide, uwX10, inT3 217 rfl rfl, dX10_pairOf_99⟩
theorem sX10_pairOf_109 : SiteG miX10_pairOf 109 10 14 := ⟨RX10, TX10, 23, 38, rfl, by decide, uwX10, inT3 220 rfl rfl, dX10_pairOf_109⟩
theorem sX10_pairOf_117 : SiteV miX10_pairOf miX10_differs 117 := ⟨139, inT4 153 rfl rfl, dX10_pairOf_117, ⟨by decide, by decide⟩⟩
theorem sX10_pairOf_127 : SiteV miX10_pairOf miX10_rowAt 127 := ⟨142, inT4 157 rfl rfl, dX10_pairOf_127, ⟨by decide, by decide⟩⟩
theorem sX10_pairs_1 : SiteV miX10_pairs miX10_pairsUp 1 := ⟨136, inT4 149 rfl rfl, dX10_pairs_1, ⟨by decide, by decide⟩⟩
theorem sX10_pairs_5 : SiteG miX10_pairs 5 10 16 := ⟨RX10, TX10, 23, 127, rfl, by decide, uwX10, inT3 222 rfl rfl, dX10_pairs_5⟩
theorem sX10_apart_5 : SiteK miX10_apart 5 (-1000001) := ⟨60, inT4 51 rfl rfl, dX10_apart_5⟩
theorem sX10_apart_9 : SiteV miX10_apart miX10_pairsUp 9 := ⟨136, inT4 149 rfl rfl, dX10_apart_9, ⟨by decide, by decide⟩⟩
theorem sX10_apart_13 : SiteG miX10_apart 13 10 17 := ⟨RX10, TX10, 23, 130, rfl, by decide, uwX10, inT3 223 rfl rfl, dX10_apart_13⟩
theorem sX10_apart_21 : SiteG miX10_apart 21 10 14 := ⟨RX10, TX10, 23, 38, rfl, by decide, uwX10, inT3 220 rfl rfl, dX10_apart_21⟩
theorem sX10_apart_25 : SiteG miX10_apart 25 10 17 := ⟨RX10, TX10, 23, 130, rfl, by decide, uwX10, inT3 223 rfl rfl, dX10_apart_25⟩
theorem sX10_apart_32 : SiteK miX10_apart 32 (-1000004) := ⟨126, inT4 144 rfl rfl, dX10_apart_32⟩
theorem sX10_apart_40 : SiteG miX10_apart 40 10 14 := ⟨RX10, TX10, 23, 38, rfl, by decide, uwX10, inT3 220 rfl rfl, dX10_apart_40⟩
theorem sX10_apart_44 : SiteG miX10_apart 44 10 17 := ⟨RX10, TX10, 23, 130, rfl, by decide, uwX10, inT3 223 rfl rfl, dX10_apart_44⟩
theorem sX10_apart_55 : SiteG miX10_apart 55 10 14 := ⟨RX10, TX10, 23, 38, rfl, by decide, uwX10, inT3 220 rfl rfl, dX10_apart_55⟩
theorem sX10_apart_59 : SiteG miX10_apart 59 10 17 := ⟨RX10, TX10, 23, 130, rfl, by decide, uwX10, inT3 223 rfl rfl, dX10_apart_59⟩
theorem sX10_apart_67 : SiteG miX10_apart 67 10 18 := ⟨RX10, TX10, 23, 133, rfl, by decide, uwX10, inT3 224 rfl rfl, dX10_apart_67⟩
theorem sX10_apart_75 : SiteG miX10_apart 75 10 17 := ⟨RX10, TX10, 23, 130, rfl, by decide, uwX10, inT3 223 rfl rfl, dX10_apart_75⟩
theorem sX10_apart_79 : SiteV miX10_apart miX10_rowAt 79 := ⟨142, inT4 157 rfl rfl, dX10_apart_79, ⟨by decide, by decide⟩⟩
theorem sX10_isLate_10 : SiteG miX10_isLate 10 10 20 := ⟨RX10, TX10, 23, 47, rfl, by decide, uwX10, inT3 226 rfl rfl, dX10_isLate_10⟩
theorem sX10_isLate_31 : SiteG miX10_isLate 31 10 19 := ⟨RX10, TX10, 23, 44, rfl, by decide, uwX10, inT3 225 rfl rfl, dX10_isLate_31⟩
theorem sX10_isLate_39 : SiteV miX10_isLate miX10_first 39 := ⟨97, inT4 101 rfl rfl, dX10_isLate_39, ⟨by decide, by decide⟩⟩
theorem sX10_isLate_45 : SiteV miX10_isLate miX10_first 45 := ⟨97, inT4 101 rfl rfl, dX10_isLate_45, ⟨by decide, by decide⟩⟩
theorem sX10_isLate_51 : SiteG miX10_isLate 51 10 20 := ⟨RX10, TX10, 23, 47, rfl, by decide, uwX10, inT3 226 rfl rfl, dX10_isLate_51⟩
theorem sX10_isLate_55 : SiteG miX10_isLate 55 10 19 := ⟨RX10, TX10, 23, 44, rfl, by decide, uwX10, inT3 225 rfl rfl, dX10_isLate_55⟩
theorem sX10_isLate_72 : SiteG miX10_isLate 72 10 19 := ⟨RX10, TX10, 23, 44, rfl, by decide, uwX10, inT3 225 rfl rfl, dX10_isLate_72⟩
theorem sX10_isLate_85 : SiteG miX10_isLate 85 10 19 := ⟨RX10, TX10, 23, 44, rfl, by decide, uwX10, inT3 225 rfl rfl, dX10_isLate_85⟩
theorem sX10_isLate_101 : SiteG miX10_isLate 101 10 19 := ⟨RX10, TX10, 23, 44, rfl, by decide, uwX10, inT3 225 rfl rfl, dX10_isLate_101⟩
theorem sX10_isLate_116 : SiteG miX10_isLate 116 10 19 := ⟨RX10, TX10, 23, 44, rfl, by decide, uwX10, inT3 225 rfl rfl, dX10_isLate_116⟩
theorem sX10_isLate_142 : SiteV miX10_isLate miX10_out 142 := ⟨100, inT4 105 rfl rfl, dX10_isLate_142, ⟨by decide, by decide⟩⟩
theorem sX10_isLate_178 : SiteV miX10_isLate miX10_out 178 := ⟨100, inT4 105 rfl rfl, dX10_isLate_178, ⟨by decide, by decide⟩⟩
theorem sX10_isLate_228 : SiteV miX10_isLate miX10_then 228 := ⟨94, inT4 93 rfl rfl, dX10_isLate_228, ⟨by decide, by decide⟩⟩
theorem sX10_isLate_239 : SiteV miX10_isLate miX10_then 239 := ⟨94, inT4 93 rfl rfl, dX10_isLate_239, ⟨by decide, by decide⟩⟩
theorem sX10_isLate_246 : SiteG miX10_isLate 246 10 20 := ⟨RX10, TX10, 23, 47, rfl, by decide, uwX10, inT3 226 rfl rfl, dX10_isLate_246⟩
theorem sX10_isLate_256 : SiteG miX10_isLate 256 10 20 := ⟨RX10, TX10, 23, 47, rfl, by decide, uwX10, inT3 226 rfl rfl, dX10_isLate_256⟩
theorem sX10_isLate_264 : SiteG miX10_isLate 264 10 19 := ⟨RX10, TX10, 23, 44, rfl, by decide, uwX10, inT3 225 rfl rfl, dX10_isLate_264⟩
theorem sX10_late_9 : SiteV miX10_late miX10_isLate 9 := ⟨145, inT4 173 rfl rfl, dX10_late_9, ⟨by decide, by decide⟩⟩
theorem sX10_late_23 : SiteK miX10_late 23 (-1000004) := ⟨126, inT4 144 rfl rfl, dX10_late_23⟩
theorem sX10_same_3 : SiteS miX10_same miX10_in 3 := ⟨65, inT4 41 rfl rfl, dX10_same_3, ⟨by decide, by decide⟩⟩
theorem sX10_same_9 : SiteK miX10_same 9 (-1000001) := ⟨60, inT4 51 rfl rfl, dX10_same_9⟩
theorem sX10_same_13 : SiteV miX10_same miX10_pairsUp 13 := ⟨136, inT4 149 rfl rfl, dX10_same_13, ⟨by decide, by decide⟩⟩
theorem sX10_same_23 : SiteG miX10_same 23 10 16 := ⟨RX10, TX10, 23, 127, rfl, by decide, uwX10, inT3 222 rfl rfl, dX10_same_23⟩
theorem sX10_same_30 : SiteG miX10_same 30 10 11 := ⟨RX10, TX10, 23, 29, rfl, by decide, uwX10, inT3 217 rfl rfl, dX10_same_30⟩
theorem sX10_same_52 : SiteG miX10_same 52 10 11 := ⟨RX10, TX10, 23, 29, rfl, by decide, uwX10, inT3 217 rfl rfl, dX10_same_52⟩
theorem sX10_same_66 : SiteG miX10_same 66 10 11 := ⟨RX10, TX10, 23, 29, rfl, by decide, uwX10, inT3 217 rfl rfl, dX10_same_66⟩
theorem sX10_kinds_4 : SiteS miX10_kinds miX10_in 4 := ⟨65, inT4 41 rfl rfl, dX10_kinds_4, ⟨by decide, by decide⟩⟩
theorem sX10_kinds_10 : SiteK miX10_kinds 10 (-1000001) := ⟨60, inT4 51 rfl rfl, dX10_kinds_10⟩
theorem sX10_kinds_15 : SiteG miX10_kinds 15 10 0 := ⟨RX10, TX10, 23, 7, rfl, by decide, uwX10, inT3 206 rfl rfl, dX10_kinds_15⟩
theorem sX10_kinds_23 : SiteK miX10_kinds 23 (-1000004) := ⟨126, inT4 144 rfl rfl, dX10_kinds_23⟩
theorem sX10_kinds_27 : SiteG miX10_kinds 27 10 0 := ⟨RX10, TX10, 23, 7, rfl, by decide, uwX10, inT3 206 rfl rfl, dX10_kinds_27⟩
theorem sX10_kinds_51 : SiteG miX10_kinds 51 10 0 := ⟨RX10, TX10, 23, 7, rfl, by decide, uwX10, inT3 206 rfl rfl, dX10_kinds_51⟩
theorem sX10_kinds_64 : SiteV miX10_kinds miX10_pairsUp 64 := ⟨136, inT4 149 rfl rfl, dX10_kinds_64, ⟨by decide, by decide⟩⟩
theorem sX10_kinds_69 : SiteG miX10_kinds 69 10 17 := ⟨RX10, TX10, 23, 130, rfl, by decide, uwX10, inT3 223 rfl rfl, dX10_kinds_69⟩
theorem sX10_kinds_92 : SiteG miX10_kinds 92 10 0 := ⟨RX10, TX10, 23, 7, rfl, by decide, uwX10, inT3 206 rfl rfl, dX10_kinds_92⟩
theorem sX10_count_1 : SiteV miX10_count miX10_pairsUp 1 := ⟨136, inT4 149 rfl rfl, dX10_count_1, ⟨by decide, by decide⟩⟩
theorem sX10_count_39 : SiteV miX10_count miX10_of 39 := ⟨69, inT4 44 rfl rfl, dX10_count_39, ⟨by decide, by decide⟩⟩
theorem sX10_count_45 : SiteV miX10_count miX10_of 45 := ⟨69, inT4 44 rfl rfl, dX10_count_45, ⟨by decide, by decide⟩⟩
theorem sX10_count_51 : SiteG miX10_count 51 10 17 := ⟨RX10, TX10, 23, 130, rfl, by decide, uwX10, inT3 223 rfl rfl, dX10_count_51⟩
theorem sX10_count_64 : SiteG miX10_count 64 10 3 := ⟨RX10, TX10, 23, 61, rfl, by decide, uwX10, inT3 209 rfl rfl, dX10_count_64⟩
theorem sX10_count_69 : SiteG miX10_count 69 10 5 := ⟨RX10, TX10, 23, 149, rfl, by decide, uwX10, inT3 211 rfl rfl, dX10_count_69⟩
theorem sX10_count_73 : SiteK miX10_count 73 (-1000001) := ⟨60, inT4 51 rfl rfl, dX10_count_73⟩
theorem sX10_undo_1 : SiteG miX10_undo 1 10 3 := ⟨RX10, TX10, 23, 61, rfl, by decide, uwX10, inT3 209 rfl rfl, dX10_undo_1⟩
theorem sX10_undo_7 : SiteK miX10_undo 7 (-1000002) := ⟨85, inT4 65 rfl rfl, dX10_undo_7⟩
theorem sX10_undo_12 : SiteG miX10_undo 12 10 3 := ⟨RX10, TX10, 23, 61, rfl, by decide, uwX10, inT3 209 rfl rfl, dX10_undo_12⟩
theorem sX10_undo_17 : SiteP miX10_undo 17 10 3 := ⟨RX10, TX10, 23, 61, tyX10, rfl, by decide, uwX10, inT3 209 rfl rfl, dX10_undo_17, tyX10_ok, nmX10, rfl, rfl⟩
theorem sX10_undo_29 : SiteG miX10_undo 29 10 0 := ⟨RX10, TX10, 23, 7, rfl, by decide, uwX10, inT3 206 rfl rfl, dX10_undo_29⟩
theorem sX10_undo_34 : SiteG miX10_undo 34 10 1 := ⟨RX10, TX10, 23, 13, rfl, by decide, uwX10, inT3 207 rfl rfl, dX10_undo_34⟩
theorem sX10_undo_40 : SiteG miX10_undo 40 10 3 := ⟨RX10, TX10, 23, 61, rfl, by decide, uwX10, inT3 209 rfl rfl, dX10_undo_40⟩
theorem sX10_undo_55 : SiteG miX10_undo 55 10 3 := ⟨RX10, TX10, 23, 61, rfl, by decide, uwX10, inT3 209 rfl rfl, dX10_undo_55⟩
theorem sX10_type_5 : SiteS miX10_type miX10_in 5 := ⟨65, inT4 41 rfl rfl, dX10_type_5, ⟨by decide, by decide⟩⟩
theorem sX10_type_11 : SiteK miX10_type 11 (-1000001) := ⟨60, inT4 51 rfl rfl, dX10_type_11⟩
theorem sX10_type_15 : SiteG miX10_type 15 10 5 := ⟨RX10, TX10, 23, 149, rfl, by decide, uwX10, inT3 211 rfl rfl, dX10_type_15⟩
theorem sX10_type_23 : SiteK miX10_type 23 (-1000003) := ⟨77, inT4 52 rfl rfl, dX10_type_23⟩
theorem sX10_type_27 : SiteG miX10_type 27 10 4 := ⟨RX10, TX10, 23, 19, rfl, by decide, uwX10, inT3 210 rfl rfl, dX10_type_27⟩
theorem sX10_type_31 : SiteG miX10_type 31 10 5 := ⟨RX10, TX10, 23, 149, rfl, by decide, uwX10, inT3 211 rfl rfl, dX10_type_31⟩
theorem sX10_type_39 : SiteG miX10_type 39 10 5 := ⟨RX10, TX10, 23, 149, rfl, by decide, uwX10, inT3 211 rfl rfl, dX10_type_39⟩
theorem sX10_type_44 : SiteP miX10_type 44 10 5 := ⟨RX10, TX10, 23, 149, tyX10, rfl, by decide, uwX10, inT3 211 rfl rfl, dX10_type_44, tyX10_ok, nmX10, rfl, rfl⟩
theorem sX10_type_48 : SiteG miX10_type 48 10 5 := ⟨RX10, TX10, 23, 149, rfl, by decide, uwX10, inT3 211 rfl rfl, dX10_type_48⟩
theorem sX10_clearText_1 : SiteG miX10_clearText 1 10 5 := ⟨RX10, TX10, 23, 149, rfl, by decide, uwX10, inT3 211 rfl rfl, dX10_clearText_1⟩
theorem sX10_clearText_7 : SiteP miX10_clearText 7 10 5 := ⟨RX10, TX10, 23, 149, tyX10, rfl, by decide, uwX10, inT3 211 rfl rfl, dX10_clearText_7, tyX10_ok, nmX10, rfl, rfl⟩
theorem sX10_sign_2 : SiteG miX10_sign 2 10 5 := ⟨RX10, TX10, 23, 149, rfl, by decide, uwX10, inT3 211 rfl rfl, dX10_sign_2⟩
theorem sX10_sign_9 : SiteG miX10_sign 9 10 4 := ⟨RX10, TX10, 23, 19, rfl, by decide, uwX10, inT3 210 rfl rfl, dX10_sign_9⟩
theorem sX10_wireAt_2 : SiteV miX10_wireAt miX10_sign 2 := ⟨152, inT4 209 rfl rfl, dX10_wireAt_2, ⟨by decide, by decide⟩⟩
theorem sX10_wireAt_11 : SiteS miX10_wireAt miX10_in 11 := ⟨65, inT4 41 rfl rfl, dX10_wireAt_11, ⟨by decide, by decide⟩⟩
theorem sX10_wireAt_29 : SiteS miX10_wireAt miX10_in 29 := ⟨65, inT4 41 rfl rfl, dX10_wireAt_29, ⟨by decide, by decide⟩⟩
theorem sX10_doesGate_2 : SiteG miX10_doesGate 2 10 7 := ⟨RX10, TX10, 23, 155, rfl, by decide, uwX10, inT3 213 rfl rfl, dX10_doesGate_2⟩
theorem sX10_doesGate_7 : SiteV miX10_doesGate miX10_wireAt 7 := ⟨158, inT4 217 rfl rfl, dX10_doesGate_7, ⟨by decide, by decide⟩⟩
theorem sX10_doesGate_13 : SiteG miX10_doesGate 13 10 7 := ⟨RX10, TX10, 23, 155, rfl, by decide, uwX10, inT3 213 rfl rfl, dX10_doesGate_13⟩
theorem sX10_doesGate_18 : SiteV miX10_doesGate miX10_wireAt 18 := ⟨158, inT4 217 rfl rfl, dX10_doesGate_18, ⟨by decide, by decide⟩⟩
theorem sX10_doesGate_32 : SiteG miX10_doesGate 32 10 7 := ⟨RX10, TX10, 23, 155, rfl, by decide, uwX10, inT3 213 rfl rfl, dX10_doesGate_32⟩
theorem sX10_doesGate_37 : SiteV miX10_doesGate miX10_sign 37 := ⟨152, inT4 209 rfl rfl, dX10_doesGate_37, ⟨by decide, by decide⟩⟩
theorem sX10_doesGate_48 : SiteG miX10_doesGate 48 10 8 := ⟨RX10, TX10, 23, 23, rfl, by decide, uwX10, inT3 214 rfl rfl, dX10_doesGate_48⟩
theorem sX10_doesGate_67 : SiteS miX10_doesGate miX10_isAllowed 67 := ⟨73, inT4 48 rfl rfl, dX10_doesGate_67, ⟨by decide, by decide⟩⟩
theorem sX10_doesGate_76 : SiteS miX10_doesGate miX10_isAllowed 76 := ⟨73, inT4 48 rfl rfl, dX10_doesGate_76, ⟨by decide, by decide⟩⟩
theorem sX10_doesGate_85 : SiteG miX10_doesGate 85 10 8 := ⟨RX10, TX10, 23, 23, rfl, by decide, uwX10, inT3 214 rfl rfl, dX10_doesGate_85⟩
theorem sX10_doesGate_98 : SiteG miX10_doesGate 98 10 8 := ⟨RX10, TX10, 23, 23, rfl, by decide, uwX10, inT3 214 rfl rfl, dX10_doesGate_98⟩
theorem sX10_doesGate_113 : SiteG miX10_doesGate 113 10 8 := ⟨RX10, TX10, 23, 23, rfl, by decide, uwX10, inT3 214 rfl rfl, dX10_doesGate_113⟩
theorem sX10_doesGate_128 : SiteG miX10_doesGate 128 10 8 := ⟨RX10, TX10, 23, 23, rfl, by decide, uwX10, inT3 214 rfl rfl, dX10_doesGate_128⟩
theorem sX10_doesGate_139 : SiteG miX10_doesGate 139 10 7 := ⟨RX10, TX10, 23, 155, rfl, by decide, uwX10, inT3 213 rfl rfl, dX10_doesGate_139⟩
theorem sX10_doesGate_144 : SiteP miX10_doesGate 144 10 7 := ⟨RX10, TX10, 23, 155, tyX10, rfl, by decide, uwX10, inT3 213 rfl rfl, dX10_doesGate_144, tyX10_ok, nmX10, rfl, rfl⟩
theorem sX10_doesRegister_2 : SiteG miX10_doesRegister 2 10 7 := ⟨RX10, TX10, 23, 155, rfl, by decide, uwX10, inT3 213 rfl rfl, dX10_doesRegister_2⟩
theorem sX10_doesRegister_7 : SiteV miX10_doesRegister miX10_sign 7 := ⟨152, inT4 209 rfl rfl, dX10_doesRegister_7, ⟨by decide, by decide⟩⟩
theorem sX10_doesRegister_16 : SiteG miX10_doesRegister 16 10 7 := ⟨RX10, TX10, 23, 155, rfl, by decide, uwX10, inT3 213 rfl rfl, dX10_doesRegister_16⟩
theorem sX10_doesRegister_21 : SiteV miX10_doesRegister miX10_wireAt 21 := ⟨158, inT4 217 rfl rfl, dX10_doesRegister_21, ⟨by decide, by decide⟩⟩
theorem sX10_doesRegister_27 : SiteG miX10_doesRegister 27 10 7 := ⟨RX10, TX10, 23, 155, rfl, by decide, uwX10, inT3 213 rfl rfl, dX10_doesRegister_27⟩
theorem sX10_doesRegister_32 : SiteV miX10_doesRegister miX10_sign 32 := ⟨152, inT4 209 rfl rfl, dX10_doesRegister_32, ⟨by decide, by decide⟩⟩
theorem sX10_doesRegister_42 : SiteS miX10_doesRegister miX10_in 42 := ⟨65, inT4 41 rfl rfl, dX10_doesRegister_42, ⟨by decide, by decide⟩⟩
theorem sX10_doesRegister_55 : SiteS miX10_doesRegister miX10_in 55 := ⟨65, inT4 41 rfl rfl, dX10_doesRegister_55, ⟨by decide, by decide⟩⟩
theorem sX10_doesRegister_63 : SiteG miX10_doesRegister 63 10 7 := ⟨RX10, TX10, 23, 155, rfl, by decide, uwX10, inT3 213 rfl rfl, dX10_doesRegister_63⟩
theorem sX10_doesRegister_68 : SiteV miX10_doesRegister miX10_sign 68 := ⟨152, inT4 209 rfl rfl, dX10_doesRegister_68, ⟨by decide, by decide⟩⟩
theorem sX10_doesRegister_79 : SiteG miX10_doesRegister 79 10 9 := ⟨RX10, TX10, 23, 161, rfl, by decide, uwX10, inT3 215 rfl rfl, dX10_doesRegister_79⟩
theorem sX10_doesRegister_94 : SiteG miX10_doesRegister 94 10 9 := ⟨RX10, TX10, 23, 161, rfl, by decide, uwX10, inT3 215 rfl rfl, dX10_doesRegister_94⟩
theorem sX10_doesRegister_101 : SiteP miX10_doesRegister 101 10 9 := ⟨RX10, TX10, 23, 161, tyX10, rfl, by decide, uwX10, inT3 215 rfl rfl, dX10_doesRegister_101, tyX10_ok, nmX10, rfl, rfl⟩
theorem sX10_doesRegister_105 : SiteG miX10_doesRegister 105 10 8 := ⟨RX10, TX10, 23, 23, rfl, by decide, uwX10, inT3 214 rfl rfl, dX10_doesRegister_105⟩
theorem sX10_doesRegister_114 : SiteG miX10_doesRegister 114 10 8 := ⟨RX10, TX10, 23, 23, rfl, by decide, uwX10, inT3 214 rfl rfl, dX10_doesRegister_114⟩
theorem sX10_doesRegister_125 : SiteG miX10_doesRegister 125 10 7 := ⟨RX10, TX10, 23, 155, rfl, by decide, uwX10, inT3 213 rfl rfl, dX10_doesRegister_125⟩
theorem sX10_doesRegister_130 : SiteP miX10_doesRegister 130 10 7 := ⟨RX10, TX10, 23, 155, tyX10, rfl, by decide, uwX10, inT3 213 rfl rfl, dX10_doesRegister_130, tyX10_ok, nmX10, rfl, rfl⟩
theorem sX10_doesOutput_2 : SiteG miX10_doesOutput 2 10 7 := ⟨RX10, TX10, 23, 155, rfl, by decide, uwX10, inT3 213 rfl rfl, dX10_doesOutput_2⟩
theorem sX10_doesOutput_7 : SiteV miX10_doesOutput miX10_wireAt 7 := ⟨158, inT4 217 rfl rfl, dX10_doesOutput_7, ⟨by decide, by decide⟩⟩
theorem sX10_doesOutput_17 : SiteG miX10_doesOutput 17 10 7 := ⟨RX10, TX10, 23, 155, rfl, by decide, uwX10, inT3 213 rfl rfl, dX10_doesOutput_17⟩
theorem sX10_doesOutput_22 : SiteV miX10_doesOutput miX10_sign 22 := ⟨152, inT4 209 rfl rfl, dX10_doesOutput_22, ⟨by decide, by decide⟩⟩
theorem sX10_doesOutput_33 : SiteG miX10_doesOutput 33 10 9 := ⟨RX10, TX10, 23, 161, rfl, by decide, uwX10, inT3 215 rfl rfl, dX10_doesOutput_33⟩
theorem sX10_doesOutput_48 : SiteG miX10_doesOutput 48 10 9 := ⟨RX10, TX10, 23, 161, rfl, by decide, uwX10, inT3 215 rfl rfl, dX10_doesOutput_48⟩
theorem sX10_doesOutput_54 : SiteP miX10_doesOutput 54 10 9 := ⟨RX10, TX10, 23, 161, tyX10, rfl, by decide, uwX10, inT3 215 rfl rfl, dX10_doesOutput_54, tyX10_ok, nmX10, rfl, rfl⟩
theorem sX10_doesOutput_58 : SiteG miX10_doesOutput 58 10 8 := ⟨RX10, TX10, 23, 23, rfl, by decide, uwX10, inT3 214 rfl rfl, dX10_doesOutput_58⟩
theorem sX10_doesOutput_66 : SiteG miX10_doesOutput 66 10 7 := ⟨RX10, TX10, 23, 155, rfl, by decide, uwX10, inT3 213 rfl rfl, dX10_doesOutput_66⟩
theorem sX10_doesOutput_71 : SiteP miX10_doesOutput 71 10 7 := ⟨RX10, TX10, 23, 155, tyX10, rfl, by decide, uwX10, inT3 213 rfl rfl, dX10_doesOutput_71, tyX10_ok, nmX10, rfl, rfl⟩
theorem sX10_faulty_1 : SiteG miX10_faulty 1 10 8 := ⟨RX10, TX10, 23, 23, rfl, by decide, uwX10, inT3 214 rfl rfl, dX10_faulty_1⟩
theorem sX10_faulty_5 : SiteS miX10_faulty miX10_lays 5 := ⟨56, inT3 203 rfl rfl, dX10_faulty_5, ⟨by decide, by decide⟩⟩
theorem sX10_faulty_10 : SiteP miX10_faulty 10 10 9 := ⟨RX10, TX10, 23, 161, tyX10, rfl, by decide, uwX10, inT3 215 rfl rfl, dX10_faulty_10, tyX10_ok, nmX10, rfl, rfl⟩
theorem sX10_faulty_15 : SiteP miX10_faulty 15 10 7 := ⟨RX10, TX10, 23, 155, tyX10, rfl, by decide, uwX10, inT3 213 rfl rfl, dX10_faulty_15, tyX10_ok, nmX10, rfl, rfl⟩
theorem sX10_faulty_19 : SiteG miX10_faulty 19 10 7 := ⟨RX10, TX10, 23, 155, rfl, by decide, uwX10, inT3 213 rfl rfl, dX10_faulty_19⟩
theorem sX10_faulty_23 : SiteG miX10_faulty 23 10 5 := ⟨RX10, TX10, 23, 149, rfl, by decide, uwX10, inT3 211 rfl rfl, dX10_faulty_23⟩
theorem sX10_faulty_31 : SiteG miX10_faulty 31 10 7 := ⟨RX10, TX10, 23, 155, rfl, by decide, uwX10, inT3 213 rfl rfl, dX10_faulty_31⟩
theorem sX10_faulty_34 : SiteV miX10_faulty miX10_sign 34 := ⟨152, inT4 209 rfl rfl, dX10_faulty_34, ⟨by decide, by decide⟩⟩
theorem sX10_faulty_46 : SiteV miX10_faulty miX10_doesRegister 46 := ⟨164, inT4 213 rfl rfl, dX10_faulty_46, ⟨by decide, by decide⟩⟩
theorem sX10_faulty_59 : SiteV miX10_faulty miX10_doesOutput 59 := ⟨168, inT4 221 rfl rfl, dX10_faulty_59, ⟨by decide, by decide⟩⟩
theorem sX10_faulty_70 : SiteS miX10_faulty miX10_in 70 := ⟨65, inT4 41 rfl rfl, dX10_faulty_70, ⟨by decide, by decide⟩⟩
theorem sX10_faulty_81 : SiteV miX10_faulty miX10_doesGate 81 := ⟨171, inT4 225 rfl rfl, dX10_faulty_81, ⟨by decide, by decide⟩⟩
theorem sX10_faulty_88 : SiteP miX10_faulty 88 10 6 := ⟨RX10, TX10, 23, 174, tyX10, rfl, by decide, uwX10, inT3 212 rfl rfl, dX10_faulty_88, tyX10_ok, nmX10, rfl, rfl⟩
theorem sX10_faulty_92 : SiteG miX10_faulty 92 10 6 := ⟨RX10, TX10, 23, 174, rfl, by decide, uwX10, inT3 212 rfl rfl, dX10_faulty_92⟩
theorem sX10_faulty_99 : SiteG miX10_faulty 99 10 7 := ⟨RX10, TX10, 23, 155, rfl, by decide, uwX10, inT3 213 rfl rfl, dX10_faulty_99⟩
theorem sX10_faulty_106 : SiteK miX10_faulty 106 (-1000004) := ⟨126, inT4 144 rfl rfl, dX10_faulty_106⟩
theorem sX10_fault_3 : SiteS miX10_fault miX10_in 3 := ⟨65, inT4 41 rfl rfl, dX10_fault_3, ⟨by decide, by decide⟩⟩
theorem sX10_fault_9 : SiteK miX10_fault 9 (-1000001) := ⟨60, inT4 51 rfl rfl, dX10_fault_9⟩
theorem sX10_fault_13 : SiteV miX10_fault miX10_faulty 13 := ⟨177, inT4 205 rfl rfl, dX10_fault_13, ⟨by decide, by decide⟩⟩
theorem sX10_fault_18 : SiteK miX10_fault 18 (-1000004) := ⟨126, inT4 144 rfl rfl, dX10_fault_18⟩
theorem sX10_fault_32 : SiteG miX10_fault 32 10 6 := ⟨RX10, TX10, 23, 174, rfl, by decide, uwX10, inT3 212 rfl rfl, dX10_fault_32⟩
theorem sX10_read_3 : SiteS miX10_read miX10_in 3 := ⟨65, inT4 41 rfl rfl, dX10_read_3, ⟨by decide, by decide⟩⟩
theorem sX10_read_9 : SiteK miX10_read 9 (-1000001) := ⟨60, inT4 51 rfl rfl, dX10_read_9⟩
theorem sX10_read_13 : SiteV miX10_read miX10_faulty 13 := ⟨177, inT4 205 rfl rfl, dX10_read_13, ⟨by decide, by decide⟩⟩
theorem sX10_read_16 : SiteK miX10_read 16 (-1000004) := ⟨126, inT4 144 rfl rfl, dX10_read_16⟩
theorem sX10_read_21 : SiteK miX10_read 21 (-1000002) := ⟨85, inT4 65 rfl rfl, dX10_read_21⟩
theorem sX10_read_25 : SiteV miX10_read miX10_keeps 25 := ⟨78, inT4 53 rfl rfl, dX10_read_25, ⟨by decide, by decide⟩⟩
theorem sX10_read_37 : SiteG miX10_read 37 10 0 := ⟨RX10, TX10, 23, 7, rfl, by decide, uwX10, inT3 206 rfl rfl, dX10_read_37⟩
theorem sX10_read_47 : SiteG miX10_read 47 10 8 := ⟨RX10, TX10, 23, 23, rfl, by decide, uwX10, inT3 214 rfl rfl, dX10_read_47⟩
theorem sX10_read_61 : SiteG miX10_read 61 10 8 := ⟨RX10, TX10, 23, 23, rfl, by decide, uwX10, inT3 214 rfl rfl, dX10_read_61⟩
theorem sX10_read_66 : SiteV miX10_read miX10_acted 66 := ⟨81, inT4 57 rfl rfl, dX10_read_66, ⟨by decide, by decide⟩⟩
theorem sX0_classesAmong_2 : SiteV miX0_classesAmong miX0_findUnlike 2 := ⟨20, inT2 156 rfl rfl, dX0_classesAmong_2, ⟨by decide, by decide⟩⟩
theorem sX0_classesAmong_19 : SiteG miX0_classesAmong 19 0 0 := ⟨RX0, TX0, 1, 14, rfl, by decide, uwX0, inT1 137 rfl rfl, dX0_classesAmong_19⟩
theorem sX0_classesAmong_24 : SiteV miX0_classesAmong miX6_get 24 := ⟨24, inT2 180 rfl rfl, dX0_classesAmong_24, ⟨by decide, by decide⟩⟩
theorem sX0_classesAmong_42 : SiteN miX0_classesAmong miX9_bitOf 42 := ⟨28, "TickCircuits", inN2 181 rfl, dX0_classesAmong_42, ⟨by decide, by decide⟩⟩
theorem sX0_findUnlike_1 : SiteG miX0_findUnlike 1 0 0 := ⟨RX0, TX0, 1, 14, rfl, by decide, uwX0, inT1 137 rfl rfl, dX0_findUnlike_1⟩
theorem sX0_findUnlike_4 : SiteV miX0_findUnlike miX6_clear 4 := ⟨32, inT2 160 rfl rfl, dX0_findUnlike_4, ⟨by decide, by decide⟩⟩
theorem sX0_findUnlike_37 : SiteV miX0_findUnlike miX0_unlikeTo 37 := ⟨35, inT2 167 rfl rfl, dX0_findUnlike_37, ⟨by decide, by decide⟩⟩
theorem sX0_findUnlike_49 : SiteG miX0_findUnlike 49 0 0 := ⟨RX0, TX0, 1, 14, rfl, by decide, uwX0, inT1 137 rfl rfl, dX0_findUnlike_49⟩
theorem sX0_findUnlike_54 : SiteV miX0_findUnlike miX6_get 54 := ⟨24, inT2 180 rfl rfl, dX0_findUnlike_54, ⟨by decide, by decide⟩⟩
theorem sX0_findUnlike_67 : SiteG miX0_findUnlike 67 0 0 := ⟨RX0, TX0, 1, 14, rfl, by decide, uwX0, inT1 137 rfl rfl, dX0_findUnlike_67⟩
theorem sX0_findUnlike_74 : SiteV miX0_findUnlike miX6_set 74 := ⟨39, inT2 182 rfl rfl, dX0_findUnlike_74, ⟨by decide, by decide⟩⟩
theorem sX0_unlikeTo_14 : SiteV miX0_unlikeTo miX7_outputSet 14 := ⟨43, inT2 171 rfl rfl, dX0_unlikeTo_14, ⟨by decide, by decide⟩⟩
theorem sX0_unlikeTo_20 : SiteV miX0_unlikeTo miX7_outputSet 20 := ⟨43, inT2 171 rfl rfl, dX0_unlikeTo_20, ⟨by decide, by decide⟩⟩
theorem sX0_unlikeTo_31 : SiteV miX0_unlikeTo miX0_leadToUnlike 31 := ⟨48, inT2 175 rfl rfl, dX0_unlikeTo_31, ⟨by decide, by decide⟩⟩
theorem sX0_leadToUnlike_21 : SiteV miX0_leadToUnlike miX7_stateBehind 21 := ⟨52, inT2 179 rfl rfl, dX0_leadToUnlike_21, ⟨by decide, by decide⟩⟩
theorem sX0_leadToUnlike_30 : SiteV miX0_leadToUnlike miX7_stateBehind 30 := ⟨52, inT2 179 rfl rfl, dX0_leadToUnlike_30, ⟨by decide, by decide⟩⟩
theorem sX0_leadToUnlike_36 : SiteG miX0_leadToUnlike 36 0 0 := ⟨RX0, TX0, 1, 14, rfl, by decide, uwX0, inT1 137 rfl rfl, dX0_leadToUnlike_36⟩
theorem sX0_leadToUnlike_41 : SiteV miX0_leadToUnlike miX6_get 41 := ⟨24, inT2 180 rfl rfl, dX0_leadToUnlike_41, ⟨by decide, by decide⟩⟩
theorem sX0_leadToUnlike_46 : SiteN miX0_leadToUnlike miX9_bitOf 46 := ⟨28, "TickCircuits", inN2 181 rfl, dX0_leadToUnlike_46, ⟨by decide, by decide⟩⟩
theorem sX1_init_30 : SiteV miX1_init miX1_startAnew 30 := ⟨23, inT1 38 rfl rfl, dX1_init_30, ⟨by decide, by decide⟩⟩
theorem sX1_startAnew_2 : SiteP miX1_startAnew 2 1 0 := ⟨RX1, TX1, 4, 26, tyX1, rfl, by decide, uwX1, inT1 50 rfl rfl, dX1_startAnew_2, tyX1_ok, nmX1, rfl, rfl⟩
theorem sX1_startAnew_8 : SiteP miX1_startAnew 8 1 1 := ⟨RX1, TX1, 4, 30, tyX1, rfl, by decide, uwX1, inT1 51 rfl rfl, dX1_startAnew_8, tyX1_ok, nmX1, rfl, rfl⟩
theorem sX1_startAnew_23 : SiteV miX1_startAnew miX1_setRegister 23 := ⟨33, inT1 42 rfl rfl, dX1_startAnew_23, ⟨by decide, by decide⟩⟩
theorem sX1_gateCount_1 : SiteG miX1_gateCount 1 1 0 := ⟨RX1, TX1, 4, 26, rfl, by decide, uwX1, inT1 50 rfl rfl, dX1_gateCount_1⟩
theorem sX1_outputWire_1 : SiteG miX1_outputWire 1 1 1 := ⟨RX1, TX1, 4, 30, rfl, by decide, uwX1, inT1 51 rfl rfl, dX1_outputWire_1⟩
theorem sX1_setOutputWire_2 : SiteP miX1_setOutputWire 2 1 1 := ⟨RX1, TX1, 4, 30, tyX1, rfl, by decide, uwX1, inT1 51 rfl rfl, dX1_setOutputWire_2, tyX1_ok, nmX1, rfl, rfl⟩
theorem sX1_setRegister_1 : SiteG miX1_setRegister 1 1 2 := ⟨RX1, TX1, 4, 14, rfl, by decide, uwX1, inT1 52 rfl rfl, dX1_setRegister_1⟩
theorem sX1_setRegister_10 : SiteV miX1_setRegister miX6_set 10 := ⟨37, inT1 46 rfl rfl, dX1_setRegister_10, ⟨by decide, by decide⟩⟩
theorem sX1_nextWire_1 : SiteG miX1_nextWire 1 1 2 := ⟨RX1, TX1, 4, 14, rfl, by decide, uwX1, inT1 52 rfl rfl, dX1_nextWire_1⟩
theorem sX1_nextWire_5 : SiteV miX1_nextWire miX6_get 5 := ⟨41, inT2 29 rfl rfl, dX1_nextWire_5, ⟨by decide, by decide⟩⟩
theorem sX1_firstBit_1 : SiteG miX1_firstBit 1 1 2 := ⟨RX1, TX1, 4, 14, rfl, by decide, uwX1, inT1 52 rfl rfl, dX1_firstBit_1⟩
theorem sX1_firstBit_5 : SiteV miX1_firstBit miX6_get 5 := ⟨41, inT2 29 rfl rfl, dX1_firstBit_5, ⟨by decide, by decide⟩⟩
theorem sX1_firstState_12 : SiteV miX1_firstState miX1_firstBit 12 := ⟨45, inT2 103 rfl rfl, dX1_firstState_12, ⟨by decide, by decide⟩⟩
theorem sX1_setGate_1 : SiteG miX1_setGate 1 1 3 := ⟨RX1, TX1, 4, 20, rfl, by decide, uwX1, inT1 53 rfl rfl, dX1_setGate_1⟩
theorem sX1_setGate_16 : SiteV miX1_setGate miX6_set 16 := ⟨37, inT1 46 rfl rfl, dX1_setGate_16, ⟨by decide, by decide⟩⟩
theorem sX1_setGate_21 : SiteG miX1_setGate 21 1 0 := ⟨RX1, TX1, 4, 26, rfl, by decide, uwX1, inT1 50 rfl rfl, dX1_setGate_21⟩
theorem sX1_setGate_28 : SiteG miX1_setGate 28 1 0 := ⟨RX1, TX1, 4, 26, rfl, by decide, uwX1, inT1 50 rfl rfl, dX1_setGate_28⟩
theorem sX1_setGate_38 : SiteG miX1_setGate 38 1 0 := ⟨RX1, TX1, 4, 26, rfl, by decide, uwX1, inT1 50 rfl rfl, dX1_setGate_38⟩
theorem sX1_setGate_43 : SiteP miX1_setGate 43 1 0 := ⟨RX1, TX1, 4, 26, tyX1, rfl, by decide, uwX1, inT1 50 rfl rfl, dX1_setGate_43, tyX1_ok, nmX1, rfl, rfl⟩
theorem sX1_dropLastGate_1 : SiteG miX1_dropLastGate 1 1 0 := ⟨RX1, TX1, 4, 26, rfl, by decide, uwX1, inT1 50 rfl rfl, dX1_dropLastGate_1⟩
theorem sX1_dropLastGate_9 : SiteG miX1_dropLastGate 9 1 0 := ⟨RX1, TX1, 4, 26, rfl, by decide, uwX1, inT1 50 rfl rfl, dX1_dropLastGate_9⟩
theorem sX1_dropLastGate_14 : SiteP miX1_dropLastGate 14 1 0 := ⟨RX1, TX1, 4, 26, tyX1, rfl, by decide, uwX1, inT1 50 rfl rfl, dX1_dropLastGate_14, tyX1_ok, nmX1, rfl, rfl⟩
theorem sX1_kindOf_1 : SiteG miX1_kindOf 1 1 3 := ⟨RX1, TX1, 4, 20, rfl, by decide, uwX1, inT1 53 rfl rfl, dX1_kindOf_1⟩
theorem sX1_kindOf_5 : SiteV miX1_kindOf miX6_get 5 := ⟨41, inT2 29 rfl rfl, dX1_kindOf_5, ⟨by decide, by decide⟩⟩
theorem sX1_firstWire_1 : SiteG miX1_firstWire 1 1 3 := ⟨RX1, TX1, 4, 20, rfl, by decide, uwX1, inT1 53 rfl rfl, dX1_firstWire_1⟩
theorem sX1_firstWire_5 : SiteV miX1_firstWire miX6_get 5 := ⟨41, inT2 29 rfl rfl, dX1_firstWire_5, ⟨by decide, by decide⟩⟩
theorem sX1_secondWire_1 : SiteG miX1_secondWire 1 1 3 := ⟨RX1, TX1, 4, 20, rfl, by decide, uwX1, inT1 53 rfl rfl, dX1_secondWire_1⟩
theorem sX1_secondWire_5 : SiteV miX1_secondWire miX6_get 5 := ⟨41, inT2 29 rfl rfl, dX1_secondWire_5, ⟨by decide, by decide⟩⟩
theorem sX1_wireBits_0 : SiteK miX1_wireBits 0 (32768) := ⟨48, inT2 108 rfl rfl, dX1_wireBits_0⟩
theorem sX1_wireBits_15 : SiteG miX1_wireBits 15 1 0 := ⟨RX1, TX1, 4, 26, rfl, by decide, uwX1, inT1 50 rfl rfl, dX1_wireBits_15⟩
theorem sX1_wireBits_32 : SiteV miX1_wireBits miX1_firstWire 32 := ⟨49, inT2 109 rfl rfl, dX1_wireBits_32, ⟨by decide, by decide⟩⟩
theorem sX1_wireBits_35 : SiteN miX1_wireBits miX9_bitOf 35 := ⟨52, "TickCircuits", inN2 113 rfl, dX1_wireBits_35, ⟨by decide, by decide⟩⟩
theorem sX1_wireBits_44 : SiteV miX1_wireBits miX1_secondWire 44 := ⟨56, inT2 116 rfl rfl, dX1_wireBits_44, ⟨by decide, by decide⟩⟩
theorem sX1_wireBits_47 : SiteN miX1_wireBits miX9_bitOf 47 := ⟨52, "TickCircuits", inN2 113 rfl, dX1_wireBits_47, ⟨by decide, by decide⟩⟩
theorem sX1_wireBits_56 : SiteV miX1_wireBits miX1_kindOf 56 := ⟨59, inT2 120 rfl rfl, dX1_wireBits_56, ⟨by decide, by decide⟩⟩
theorem sX1_wireBits_63 : SiteS miX1_wireBits miX1_gateBit 63 := ⟨62, inT2 124 rfl rfl, dX1_wireBits_63, ⟨by decide, by decide⟩⟩
theorem sX1_stateAfter_13 : SiteV miX1_stateAfter miX1_nextWire 13 := ⟨66, inT2 133 rfl rfl, dX1_stateAfter_13, ⟨by decide, by decide⟩⟩
theorem sX1_stateAfter_16 : SiteN miX1_stateAfter miX9_bitOf 16 := ⟨52, "TickCircuits", inN2 113 rfl, dX1_stateAfter_16, ⟨by decide, by decide⟩⟩
theorem sX1_gatesBehindOutput_2 : SiteG miX1_gatesBehindOutput 2 1 1 := ⟨RX1, TX1, 4, 30, rfl, by decide, uwX1, inT1 51 rfl rfl, dX1_gatesBehindOutput_2⟩
theorem sX1_gatesBehindOutput_5 : SiteV miX1_gatesBehindOutput miX1_gateOnWire 5 := ⟨69, inT2 191 rfl rfl, dX1_gatesBehindOutput_5, ⟨by decide, by decide⟩⟩
theorem sX1_gatesBehindOutput_18 : SiteN miX1_gatesBehindOutput miX9_bitOf 18 := ⟨52, "TickCircuits", inN2 113 rfl, dX1_gatesBehindOutput_18, ⟨by decide, by decide⟩⟩
theorem sX1_gatesBehindOutput_29 : SiteV miX1_gatesBehindOutput miX1_firstWire 29 := ⟨49, inT2 109 rfl rfl, dX1_gatesBehindOutput_29, ⟨by decide, by decide⟩⟩
theorem sX1_gatesBehindOutput_32 : SiteV miX1_gatesBehindOutput miX1_gateOnWire 32 := ⟨69, inT2 191 rfl rfl, dX1_gatesBehindOutput_32, ⟨by decide, by decide⟩⟩
theorem sX1_gatesBehindOutput_39 : SiteV miX1_gatesBehindOutput miX1_kindOf 39 := ⟨59, inT2 120 rfl rfl, dX1_gatesBehindOutput_39, ⟨by decide, by decide⟩⟩
theorem sX1_gatesBehindOutput_50 : SiteV miX1_gatesBehindOutput miX1_secondWire 50 := ⟨56, inT2 116 rfl rfl, dX1_gatesBehindOutput_50, ⟨by decide, by decide⟩⟩
theorem sX1_gatesBehindOutput_53 : SiteV miX1_gatesBehindOutput miX1_gateOnWire 53 := ⟨69, inT2 191 rfl rfl, dX1_gatesBehindOutput_53, ⟨by decide, by decide⟩⟩
theorem sX1_gateOnWire_8 : SiteG miX1_gateOnWire 8 1 0 := ⟨RX1, TX1, 4, 26, rfl, by decide, uwX1, inT1 50 rfl rfl, dX1_gateOnWire_8⟩
theorem sX1_gateOnWire_13 : SiteN miX1_gateOnWire miX9_isWithin 13 := ⟨72, "TickCircuits", inN2 195 rfl, dX1_gateOnWire_13, ⟨by decide, by decide⟩⟩
theorem sX1_takeFrom_12 : SiteV miX1_takeFrom miX1_savedCell 12 := ⟨76, inT2 82 rfl rfl, dX1_takeFrom_12, ⟨by decide, by decide⟩⟩
theorem sX1_takeFrom_15 : SiteV miX1_takeFrom miX1_setSavedCell 15 := ⟨79, inT2 83 rfl rfl, dX1_takeFrom_15, ⟨by decide, by decide⟩⟩
theorem sX1_savedCell_5 : SiteG miX1_savedCell 5 1 0 := ⟨RX1, TX1, 4, 26, rfl, by decide, uwX1, inT1 50 rfl rfl, dX1_savedCell_5⟩
theorem sX1_savedCell_15 : SiteG miX1_savedCell 15 1 1 := ⟨RX1, TX1, 4, 30, rfl, by decide, uwX1, inT1 51 rfl rfl, dX1_savedCell_15⟩
theorem sX1_savedCell_26 : SiteG miX1_savedCell 26 1 2 := ⟨RX1, TX1, 4, 14, rfl, by decide, uwX1, inT1 52 rfl rfl, dX1_savedCell_26⟩
theorem sX1_savedCell_32 : SiteV miX1_savedCell miX6_get 32 := ⟨41, inT2 29 rfl rfl, dX1_savedCell_32, ⟨by decide, by decide⟩⟩
theorem sX1_savedCell_39 : SiteG miX1_savedCell 39 1 3 := ⟨RX1, TX1, 4, 20, rfl, by decide, uwX1, inT1 53 rfl rfl, dX1_savedCell_39⟩
theorem sX1_savedCell_47 : SiteV miX1_savedCell miX6_get 47 := ⟨41, inT2 29 rfl rfl, dX1_savedCell_47, ⟨by decide, by decide⟩⟩
theorem sX1_setSavedCell_6 : SiteP miX1_setSavedCell 6 1 0 := ⟨RX1, TX1, 4, 26, tyX1, rfl, by decide, uwX1, inT1 50 rfl rfl, dX1_setSavedCell_6, tyX1_ok, nmX1, rfl, rfl⟩
theorem sX1_setSavedCell_19 : SiteP miX1_setSavedCell 19 1 1 := ⟨RX1, TX1, 4, 30, tyX1, rfl, by decide, uwX1, inT1 51 rfl rfl, dX1_setSavedCell_19, tyX1_ok, nmX1, rfl, rfl⟩
theorem sX1_setSavedCell_32 : SiteG miX1_setSavedCell 32 1 2 := ⟨RX1, TX1, 4, 14, rfl, by decide, uwX1, inT1 52 rfl rfl, dX1_setSavedCell_32⟩
theorem sX1_setSavedCell_39 : SiteV miX1_setSavedCell miX6_set 39 := ⟨37, inT1 46 rfl rfl, dX1_setSavedCell_39, ⟨by decide, by decide⟩⟩
theorem sX1_setSavedCell_46 : SiteG miX1_setSavedCell 46 1 3 := ⟨RX1, TX1, 4, 20, rfl, by decide, uwX1, inT1 53 rfl rfl, dX1_setSavedCell_46⟩
theorem sX1_setSavedCell_55 : SiteV miX1_setSavedCell miX6_set 55 := ⟨37, inT1 46 rfl rfl, dX1_setSavedCell_55, ⟨by decide, by decide⟩⟩
theorem sX2_size_1 : SiteG miX2_size 1 2 1 := ⟨RX2, TX2, 2, 20, rfl, by decide, uwX2, inT1 150 rfl rfl, dX2_size_1⟩
theorem sX2_keep_1 : SiteG miX2_keep 1 2 1 := ⟨RX2, TX2, 2, 20, rfl, by decide, uwX2, inT1 150 rfl rfl, dX2_keep_1⟩
theorem sX2_keep_9 : SiteV miX2_keep miX2_dropOldest 9 := ⟨24, inT2 16 rfl rfl, dX2_keep_9, ⟨by decide, by decide⟩⟩
theorem sX2_keep_13 : SiteG miX2_keep 13 2 1 := ⟨RX2, TX2, 2, 20, rfl, by decide, uwX2, inT1 150 rfl rfl, dX2_keep_13⟩
theorem sX2_keep_31 : SiteG miX2_keep 31 2 0 := ⟨RX2, TX2, 2, 16, rfl, by decide, uwX2, inT1 149 rfl rfl, dX2_keep_31⟩
theorem sX2_keep_41 : SiteV miX2_keep miX1_savedCell 41 := ⟨27, inT2 25 rfl rfl, dX2_keep_41, ⟨by decide, by decide⟩⟩
theorem sX2_keep_44 : SiteV miX2_keep miX6_set 44 := ⟨31, inT2 24 rfl rfl, dX2_keep_44, ⟨by decide, by decide⟩⟩
theorem sX2_keep_48 : SiteG miX2_keep 48 2 0 := ⟨RX2, TX2, 2, 16, rfl, by decide, uwX2, inT1 149 rfl rfl, dX2_keep_48⟩
theorem sX2_keep_61 : SiteV miX2_keep miX1_savedCell 61 := ⟨27, inT2 25 rfl rfl, dX2_keep_61, ⟨by decide, by decide⟩⟩
theorem sX2_keep_64 : SiteV miX2_keep miX6_set 64 := ⟨31, inT2 24 rfl rfl, dX2_keep_64, ⟨by decide, by decide⟩⟩
theorem sX2_keep_75 : SiteG miX2_keep 75 2 1 := ⟨RX2, TX2, 2, 20, rfl, by decide, uwX2, inT1 150 rfl rfl, dX2_keep_75⟩
theorem sX2_keep_80 : SiteP miX2_keep 80 2 1 := ⟨RX2, TX2, 2, 20, tyX2, rfl, by decide, uwX2, inT1 150 rfl rfl, dX2_keep_80, tyX2_ok, nmX2, rfl, rfl⟩
theorem sX2_dropOldest_9 : SiteG miX2_dropOldest 9 2 0 := ⟨RX2, TX2, 2, 16, rfl, by decide, uwX2, inT1 149 rfl rfl, dX2_dropOldest_9⟩
theorem sX2_dropOldest_14 : SiteG miX2_dropOldest 14 2 0 := ⟨RX2, TX2, 2, 16, rfl, by decide, uwX2, inT1 149 rfl rfl, dX2_dropOldest_14⟩
theorem sX2_dropOldest_21 : SiteV miX2_dropOldest miX6_get 21 := ⟨35, inT2 20 rfl rfl, dX2_dropOldest_21, ⟨by decide, by decide⟩⟩
theorem sX2_dropOldest_24 : SiteV miX2_dropOldest miX6_set 24 := ⟨31, inT2 24 rfl rfl, dX2_dropOldest_24, ⟨by decide, by decide⟩⟩
theorem sX2_dropOldest_35 : SiteG miX2_dropOldest 35 2 1 := ⟨RX2, TX2, 2, 20, rfl, by decide, uwX2, inT1 150 rfl rfl, dX2_dropOldest_35⟩
theorem sX2_dropOldest_40 : SiteP miX2_dropOldest 40 2 1 := ⟨RX2, TX2, 2, 20, tyX2, rfl, by decide, uwX2, inT1 150 rfl rfl, dX2_dropOldest_40, tyX2_ok, nmX2, rfl, rfl⟩
theorem sX2_giveBack_1 : SiteG miX2_giveBack 1 2 1 := ⟨RX2, TX2, 2, 20, rfl, by decide, uwX2, inT1 150 rfl rfl, dX2_giveBack_1⟩
theorem sX2_giveBack_10 : SiteG miX2_giveBack 10 2 1 := ⟨RX2, TX2, 2, 20, rfl, by decide, uwX2, inT1 150 rfl rfl, dX2_giveBack_10⟩
theorem sX2_giveBack_15 : SiteP miX2_giveBack 15 2 1 := ⟨RX2, TX2, 2, 20, tyX2, rfl, by decide, uwX2, inT1 150 rfl rfl, dX2_giveBack_15, tyX2_ok, nmX2, rfl, rfl⟩
theorem sX2_giveBack_19 : SiteG miX2_giveBack 19 2 1 := ⟨RX2, TX2, 2, 20, rfl, by decide, uwX2, inT1 150 rfl rfl, dX2_giveBack_19⟩
theorem sX2_giveBack_40 : SiteG miX2_giveBack 40 2 0 := ⟨RX2, TX2, 2, 16, rfl, by decide, uwX2, inT1 149 rfl rfl, dX2_giveBack_40⟩
theorem sX2_giveBack_47 : SiteV miX2_giveBack miX6_get 47 := ⟨35, inT2 20 rfl rfl, dX2_giveBack_47, ⟨by decide, by decide⟩⟩
theorem sX2_giveBack_50 : SiteV miX2_giveBack miX1_setSavedCell 50 := ⟨38, inT3 116 rfl rfl, dX2_giveBack_50, ⟨by decide, by decide⟩⟩
theorem sX2_giveBack_57 : SiteG miX2_giveBack 57 2 0 := ⟨RX2, TX2, 2, 16, rfl, by decide, uwX2, inT1 149 rfl rfl, dX2_giveBack_57⟩
theorem sX2_giveBack_67 : SiteV miX2_giveBack miX6_get 67 := ⟨35, inT2 20 rfl rfl, dX2_giveBack_67, ⟨by decide, by decide⟩⟩
theorem sX2_giveBack_70 : SiteV miX2_giveBack miX1_setSavedCell 70 := ⟨38, inT3 116 rfl rfl, dX2_giveBack_70, ⟨by decide, by decide⟩⟩
theorem sX3_isLateBy_2 : SiteP miX3_isLateBy 2 3 2 := ⟨RX3, TX3, 3, 23, tyX3, rfl, by decide, uwX3, inT1 121 rfl rfl, dX3_isLateBy_2, tyX3_ok, nmX3, rfl, rfl⟩
theorem sX3_isLateBy_8 : SiteV miX3_isLateBy miX7_firstState 8 := ⟨27, inT3 66 rfl rfl, dX3_isLateBy_8, ⟨by decide, by decide⟩⟩
theorem sX3_isLateBy_12 : SiteV miX3_isLateBy miX7_firstState 12 := ⟨27, inT3 66 rfl rfl, dX3_isLateBy_12, ⟨by decide, by decide⟩⟩
theorem sX3_isLateBy_15 : SiteV miX3_isLateBy miX3_meet 15 := ⟨33, inT3 67 rfl rfl, dX3_isLateBy_15, ⟨by decide, by decide⟩⟩
theorem sX3_isLateBy_27 : SiteG miX3_isLateBy 27 3 2 := ⟨RX3, TX3, 3, 23, rfl, by decide, uwX3, inT1 121 rfl rfl, dX3_isLateBy_27⟩
theorem sX3_isLateBy_62 : SiteG miX3_isLateBy 62 3 1 := ⟨RX3, TX3, 3, 20, rfl, by decide, uwX3, inT1 120 rfl rfl, dX3_isLateBy_62⟩
theorem sX3_isLateBy_67 : SiteV miX3_isLateBy miX6_get 67 := ⟨37, inT3 71 rfl rfl, dX3_isLateBy_67, ⟨by decide, by decide⟩⟩
theorem sX3_isLateBy_75 : SiteV miX3_isLateBy miX3_step 75 := ⟨41, inT3 73 rfl rfl, dX3_isLateBy_75, ⟨by decide, by decide⟩⟩
theorem sX3_isLateBy_93 : SiteV miX3_isLateBy miX3_forgetAll 93 := ⟨45, inT3 80 rfl rfl, dX3_isLateBy_93, ⟨by decide, by decide⟩⟩
theorem sX3_step_26 : SiteV miX3_step miX7_outputSet 26 := ⟨48, inT3 77 rfl rfl, dX3_step_26, ⟨by decide, by decide⟩⟩
theorem sX3_step_30 : SiteN miX3_step miX9_bitOf 30 := ⟨51, "TickCircuits", inN3 78 rfl, dX3_step_30, ⟨by decide, by decide⟩⟩
theorem sX3_step_51 : SiteN miX3_step miX9_bitOf 51 := ⟨51, "TickCircuits", inN3 78 rfl, dX3_step_51, ⟨by decide, by decide⟩⟩
theorem sX3_step_58 : SiteV miX3_step miX7_outputSet 58 := ⟨48, inT3 77 rfl rfl, dX3_step_58, ⟨by decide, by decide⟩⟩
theorem sX3_step_62 : SiteN miX3_step miX9_bitOf 62 := ⟨51, "TickCircuits", inN3 78 rfl, dX3_step_62, ⟨by decide, by decide⟩⟩
theorem sX3_step_94 : SiteV miX3_step miX7_stateBehind 94 := ⟨55, inT3 79 rfl rfl, dX3_step_94, ⟨by decide, by decide⟩⟩
theorem sX3_step_102 : SiteV miX3_step miX7_stateBehind 102 := ⟨55, inT3 79 rfl rfl, dX3_step_102, ⟨by decide, by decide⟩⟩
theorem sX3_step_105 : SiteV miX3_step miX3_meet 105 := ⟨33, inT3 67 rfl rfl, dX3_step_105, ⟨by decide, by decide⟩⟩
theorem sX3_meet_14 : SiteG miX3_meet 14 3 0 := ⟨RX3, TX3, 3, 16, rfl, by decide, uwX3, inT1 119 rfl rfl, dX3_meet_14⟩
theorem sX3_meet_19 : SiteV miX3_meet miX6_get 19 := ⟨37, inT3 71 rfl rfl, dX3_meet_19, ⟨by decide, by decide⟩⟩
theorem sX3_meet_26 : SiteG miX3_meet 26 3 2 := ⟨RX3, TX3, 3, 23, rfl, by decide, uwX3, inT1 121 rfl rfl, dX3_meet_26⟩
theorem sX3_meet_36 : SiteG miX3_meet 36 3 0 := ⟨RX3, TX3, 3, 16, rfl, by decide, uwX3, inT1 119 rfl rfl, dX3_meet_36⟩
theorem sX3_meet_42 : SiteV miX3_meet miX6_set 42 := ⟨58, inT3 72 rfl rfl, dX3_meet_42, ⟨by decide, by decide⟩⟩
theorem sX3_meet_46 : SiteG miX3_meet 46 3 1 := ⟨RX3, TX3, 3, 20, rfl, by decide, uwX3, inT1 120 rfl rfl, dX3_meet_46⟩
theorem sX3_meet_50 : SiteG miX3_meet 50 3 2 := ⟨RX3, TX3, 3, 23, rfl, by decide, uwX3, inT1 121 rfl rfl, dX3_meet_50⟩
theorem sX3_meet_55 : SiteV miX3_meet miX6_set 55 := ⟨58, inT3 72 rfl rfl, dX3_meet_55, ⟨by decide, by decide⟩⟩
theorem sX3_meet_60 : SiteG miX3_meet 60 3 2 := ⟨RX3, TX3, 3, 23, rfl, by decide, uwX3, inT1 121 rfl rfl, dX3_meet_60⟩
theorem sX3_meet_65 : SiteP miX3_meet 65 3 2 := ⟨RX3, TX3, 3, 23, tyX3, rfl, by decide, uwX3, inT1 121 rfl rfl, dX3_meet_65, tyX3_ok, nmX3, rfl, rfl⟩
theorem sX3_forgetAll_4 : SiteG miX3_forgetAll 4 3 2 := ⟨RX3, TX3, 3, 23, rfl, by decide, uwX3, inT1 121 rfl rfl, dX3_forgetAll_4⟩
theorem sX3_forgetAll_18 : SiteG miX3_forgetAll 18 3 0 := ⟨RX3, TX3, 3, 16, rfl, by decide, uwX3, inT1 119 rfl rfl, dX3_forgetAll_18⟩
theorem sX3_forgetAll_22 : SiteG miX3_forgetAll 22 3 1 := ⟨RX3, TX3, 3, 20, rfl, by decide, uwX3, inT1 120 rfl rfl, dX3_forgetAll_22⟩
theorem sX3_forgetAll_26 : SiteV miX3_forgetAll miX6_get 26 := ⟨37, inT3 71 rfl rfl, dX3_forgetAll_26, ⟨by decide, by decide⟩⟩
theorem sX3_forgetAll_30 : SiteV miX3_forgetAll miX6_set 30 := ⟨58, inT3 72 rfl rfl, dX3_forgetAll_30, ⟨by decide, by decide⟩⟩
theorem sX4_walkFromFirst_1 : SiteG miX4_walkFromFirst 1 4 0 := ⟨RX4, TX4, 7, 14, rfl, by decide, uwX4, inT1 89 rfl rfl, dX4_walkFromFirst_1⟩
theorem sX4_walkFromFirst_4 : SiteV miX4_walkFromFirst miX6_clear 4 := ⟨35, inT3 3 rfl rfl, dX4_walkFromFirst_4, ⟨by decide, by decide⟩⟩
theorem sX4_walkFromFirst_9 : SiteP miX4_walkFromFirst 9 4 6 := ⟨RX4, TX4, 7, 38, tyX4, rfl, by decide, uwX4, inT1 95 rfl rfl, dX4_walkFromFirst_9, tyX4_ok, nmX4, rfl, rfl⟩
theorem sX4_walkFromFirst_14 : SiteV miX4_walkFromFirst miX7_firstState 14 := ⟨42, inT3 4 rfl rfl, dX4_walkFromFirst_14, ⟨by decide, by decide⟩⟩
theorem sX4_walkFromFirst_18 : SiteV miX4_walkFromFirst miX7_firstState 18 := ⟨42, inT3 4 rfl rfl, dX4_walkFromFirst_18, ⟨by decide, by decide⟩⟩
theorem sX4_walkFromFirst_23 : SiteV miX4_walkFromFirst miX4_meet 23 := ⟨48, inT3 8 rfl rfl, dX4_walkFromFirst_23, ⟨by decide, by decide⟩⟩
theorem sX4_walkFromFirst_30 : SiteG miX4_walkFromFirst 30 4 6 := ⟨RX4, TX4, 7, 38, rfl, by decide, uwX4, inT1 95 rfl rfl, dX4_walkFromFirst_30⟩
theorem sX4_walkFromFirst_56 : SiteV miX4_walkFromFirst miX4_zeroState 56 := ⟨52, inT3 14 rfl rfl, dX4_walkFromFirst_56, ⟨by decide, by decide⟩⟩
theorem sX4_walkFromFirst_61 : SiteV miX4_walkFromFirst miX7_stateBehind 61 := ⟨56, inT3 18 rfl rfl, dX4_walkFromFirst_61, ⟨by decide, by decide⟩⟩
theorem sX4_walkFromFirst_67 : SiteV miX4_walkFromFirst miX4_oneState 67 := ⟨60, inT3 19 rfl rfl, dX4_walkFromFirst_67, ⟨by decide, by decide⟩⟩
theorem sX4_walkFromFirst_72 : SiteV miX4_walkFromFirst miX7_stateBehind 72 := ⟨56, inT3 18 rfl rfl, dX4_walkFromFirst_72, ⟨by decide, by decide⟩⟩
theorem sX4_walkFromFirst_78 : SiteV miX4_walkFromFirst miX4_meet 78 := ⟨48, inT3 8 rfl rfl, dX4_walkFromFirst_78, ⟨by decide, by decide⟩⟩
theorem sX4_meet_9 : SiteG miX4_meet 9 4 0 := ⟨RX4, TX4, 7, 14, rfl, by decide, uwX4, inT1 89 rfl rfl, dX4_meet_9⟩
theorem sX4_meet_14 : SiteV miX4_meet miX6_get 14 := ⟨63, inT3 12 rfl rfl, dX4_meet_14, ⟨by decide, by decide⟩⟩
theorem sX4_meet_22 : SiteG miX4_meet 22 4 6 := ⟨RX4, TX4, 7, 38, rfl, by decide, uwX4, inT1 95 rfl rfl, dX4_meet_22⟩
theorem sX4_meet_33 : SiteG miX4_meet 33 4 0 := ⟨RX4, TX4, 7, 14, rfl, by decide, uwX4, inT1 89 rfl rfl, dX4_meet_33⟩
theorem sX4_meet_39 : SiteV miX4_meet miX6_set 39 := ⟨66, inT3 13 rfl rfl, dX4_meet_39, ⟨by decide, by decide⟩⟩
theorem sX4_meet_43 : SiteG miX4_meet 43 4 1 := ⟨RX4, TX4, 7, 20, rfl, by decide, uwX4, inT1 90 rfl rfl, dX4_meet_43⟩
theorem sX4_meet_47 : SiteG miX4_meet 47 4 6 := ⟨RX4, TX4, 7, 38, rfl, by decide, uwX4, inT1 95 rfl rfl, dX4_meet_47⟩
theorem sX4_meet_51 : SiteV miX4_meet miX6_set 51 := ⟨66, inT3 13 rfl rfl, dX4_meet_51, ⟨by decide, by decide⟩⟩
theorem sX4_meet_55 : SiteG miX4_meet 55 4 2 := ⟨RX4, TX4, 7, 23, rfl, by decide, uwX4, inT1 91 rfl rfl, dX4_meet_55⟩
theorem sX4_meet_59 : SiteG miX4_meet 59 4 6 := ⟨RX4, TX4, 7, 38, rfl, by decide, uwX4, inT1 95 rfl rfl, dX4_meet_59⟩
theorem sX4_meet_63 : SiteV miX4_meet miX6_set 63 := ⟨66, inT3 13 rfl rfl, dX4_meet_63, ⟨by decide, by decide⟩⟩
theorem sX4_meet_67 : SiteG miX4_meet 67 4 3 := ⟨RX4, TX4, 7, 26, rfl, by decide, uwX4, inT1 92 rfl rfl, dX4_meet_67⟩
theorem sX4_meet_71 : SiteG miX4_meet 71 4 6 := ⟨RX4, TX4, 7, 38, rfl, by decide, uwX4, inT1 95 rfl rfl, dX4_meet_71⟩
theorem sX4_meet_83 : SiteG miX4_meet 83 4 3 := ⟨RX4, TX4, 7, 26, rfl, by decide, uwX4, inT1 92 rfl rfl, dX4_meet_83⟩
theorem sX4_meet_87 : SiteV miX4_meet miX6_get 87 := ⟨63, inT3 12 rfl rfl, dX4_meet_87, ⟨by decide, by decide⟩⟩
theorem sX4_meet_92 : SiteV miX4_meet miX6_set 92 := ⟨66, inT3 13 rfl rfl, dX4_meet_92, ⟨by decide, by decide⟩⟩
theorem sX4_meet_96 : SiteG miX4_meet 96 4 4 := ⟨RX4, TX4, 7, 29, rfl, by decide, uwX4, inT1 93 rfl rfl, dX4_meet_96⟩
theorem sX4_meet_100 : SiteG miX4_meet 100 4 6 := ⟨RX4, TX4, 7, 38, rfl, by decide, uwX4, inT1 95 rfl rfl, dX4_meet_100⟩
theorem sX4_meet_104 : SiteV miX4_meet miX6_set 104 := ⟨66, inT3 13 rfl rfl, dX4_meet_104, ⟨by decide, by decide⟩⟩
theorem sX4_meet_108 : SiteG miX4_meet 108 4 5 := ⟨RX4, TX4, 7, 32, rfl, by decide, uwX4, inT1 94 rfl rfl, dX4_meet_108⟩
theorem sX4_meet_112 : SiteG miX4_meet 112 4 6 := ⟨RX4, TX4, 7, 38, rfl, by decide, uwX4, inT1 95 rfl rfl, dX4_meet_112⟩
theorem sX4_meet_117 : SiteV miX4_meet miX6_set 117 := ⟨66, inT3 13 rfl rfl, dX4_meet_117, ⟨by decide, by decide⟩⟩
theorem sX4_meet_122 : SiteG miX4_meet 122 4 6 := ⟨RX4, TX4, 7, 38, rfl, by decide, uwX4, inT1 95 rfl rfl, dX4_meet_122⟩
theorem sX4_meet_127 : SiteP miX4_meet 127 4 6 := ⟨RX4, TX4, 7, 38, tyX4, rfl, by decide, uwX4, inT1 95 rfl rfl, dX4_meet_127, tyX4_ok, nmX4, rfl, rfl⟩
theorem sX4_size_1 : SiteG miX4_size 1 4 6 := ⟨RX4, TX4, 7, 38, rfl, by decide, uwX4, inT1 95 rfl rfl, dX4_size_1⟩
theorem sX4_zeroState_1 : SiteG miX4_zeroState 1 4 1 := ⟨RX4, TX4, 7, 20, rfl, by decide, uwX4, inT1 90 rfl rfl, dX4_zeroState_1⟩
theorem sX4_zeroState_5 : SiteV miX4_zeroState miX6_get 5 := ⟨63, inT3 12 rfl rfl, dX4_zeroState_5, ⟨by decide, by decide⟩⟩
theorem sX4_oneState_1 : SiteG miX4_oneState 1 4 2 := ⟨RX4, TX4, 7, 23, rfl, by decide, uwX4, inT1 91 rfl rfl, dX4_oneState_1⟩
theorem sX4_oneState_5 : SiteV miX4_oneState miX6_get 5 := ⟨63, inT3 12 rfl rfl, dX4_oneState_5, ⟨by decide, by decide⟩⟩
theorem sX4_ticksTo_1 : SiteG miX4_ticksTo 1 4 3 := ⟨RX4, TX4, 7, 26, rfl, by decide, uwX4, inT1 92 rfl rfl, dX4_ticksTo_1⟩
theorem sX4_ticksTo_5 : SiteV miX4_ticksTo miX6_get 5 := ⟨63, inT3 12 rfl rfl, dX4_ticksTo_5, ⟨by decide, by decide⟩⟩
theorem sX4_inputsOnWay_4 : SiteV miX4_inputsOnWay miX4_ticksTo 4 := ⟨70, inT3 42 rfl rfl, dX4_inputsOnWay_4, ⟨by decide, by decide⟩⟩
theorem sX4_inputsOnWay_19 : SiteG miX4_inputsOnWay 19 4 4 := ⟨RX4, TX4, 7, 29, rfl, by decide, uwX4, inT1 93 rfl rfl, dX4_inputsOnWay_19⟩
theorem sX4_inputsOnWay_23 : SiteV miX4_inputsOnWay miX6_get 23 := ⟨63, inT3 12 rfl rfl, dX4_inputsOnWay_23, ⟨by decide, by decide⟩⟩
theorem sX4_inputsOnWay_34 : SiteG miX4_inputsOnWay 34 4 5 := ⟨RX4, TX4, 7, 32, rfl, by decide, uwX4, inT1 94 rfl rfl, dX4_inputsOnWay_34⟩
theorem sX4_inputsOnWay_38 : SiteV miX4_inputsOnWay miX6_get 38 := ⟨63, inT3 12 rfl rfl, dX4_inputsOnWay_38, ⟨by decide, by decide⟩⟩
theorem sX5_circuitRead_1 : SiteG miX5_circuitRead 1 5 0 := ⟨RX5, TX5, 4, 12, rfl, by decide, uwX5, inT1 179 rfl rfl, dX5_circuitRead_1⟩
theorem sX5_faultPosition_1 : SiteG miX5_faultPosition 1 5 1 := ⟨RX5, TX5, 4, 18, rfl, by decide, uwX5, inT1 180 rfl rfl, dX5_faultPosition_1⟩
theorem sX5_faultReason_1 : SiteG miX5_faultReason 1 5 2 := ⟨RX5, TX5, 4, 22, rfl, by decide, uwX5, inT1 181 rfl rfl, dX5_faultReason_1⟩
theorem sX5_readWhole_1 : SiteG miX5_readWhole 1 5 0 := ⟨RX5, TX5, 4, 12, rfl, by decide, uwX5, inT1 179 rfl rfl, dX5_readWhole_1⟩
theorem sX5_readWhole_4 : SiteV miX5_readWhole miX1_startAnew 4 := ⟨25, inT3 142 rfl rfl, dX5_readWhole_4, ⟨by decide, by decide⟩⟩
theorem sX5_readWhole_9 : SiteP miX5_readWhole 9 5 1 := ⟨RX5, TX5, 4, 18, tyX5, rfl, by decide, uwX5, inT1 180 rfl rfl, dX5_readWhole_9, tyX5_ok, nmX5, rfl, rfl⟩
theorem sX5_readWhole_14 : SiteP miX5_readWhole 14 5 2 := ⟨RX5, TX5, 4, 22, tyX5, rfl, by decide, uwX5, inT1 181 rfl rfl, dX5_readWhole_14, tyX5_ok, nmX5, rfl, rfl⟩
theorem sX5_readWhole_19 : SiteP miX5_readWhole 19 5 3 := ⟨RX5, TX5, 4, 28, tyX5, rfl, by decide, uwX5, inT1 182 rfl rfl, dX5_readWhole_19, tyX5_ok, nmX5, rfl, rfl⟩
theorem sX5_readWhole_31 : SiteG miX5_readWhole 31 5 2 := ⟨RX5, TX5, 4, 22, rfl, by decide, uwX5, inT1 181 rfl rfl, dX5_readWhole_31⟩
theorem sX5_readWhole_38 : SiteG miX5_readWhole 38 5 1 := ⟨RX5, TX5, 4, 18, rfl, by decide, uwX5, inT1 180 rfl rfl, dX5_readWhole_38⟩
theorem sX5_readWhole_42 : SiteV miX5_readWhole miX8_length 42 := ⟨33, inT3 143 rfl rfl, dX5_readWhole_42, ⟨by decide, by decide⟩⟩
theorem sX5_readWhole_50 : SiteV miX5_readWhole miX5_readPart 50 := ⟨37, inT3 144 rfl rfl, dX5_readWhole_50, ⟨by decide, by decide⟩⟩
theorem sX5_readPart_2 : SiteG miX5_readPart 2 5 1 := ⟨RX5, TX5, 4, 18, rfl, by decide, uwX5, inT1 180 rfl rfl, dX5_readPart_2⟩
theorem sX5_readPart_5 : SiteV miX5_readPart miX8_characterAt 5 := ⟨41, inT3 148 rfl rfl, dX5_readPart_5, ⟨by decide, by decide⟩⟩
theorem sX5_readPart_17 : SiteV miX5_readPart miX5_readRegister 17 := ⟨45, inT3 153 rfl rfl, dX5_readPart_17, ⟨by decide, by decide⟩⟩
theorem sX5_readPart_31 : SiteV miX5_readPart miX5_readOutput 31 := ⟨48, inT3 169 rfl rfl, dX5_readPart_31, ⟨by decide, by decide⟩⟩
theorem sX5_readPart_39 : SiteV miX5_readPart miX5_readGate 39 := ⟨51, inT3 174 rfl rfl, dX5_readPart_39, ⟨by decide, by decide⟩⟩
theorem sX5_readGate_3 : SiteV miX5_readGate miX5_digitAt 3 := ⟨54, inT3 157 rfl rfl, dX5_readGate_3, ⟨by decide, by decide⟩⟩
theorem sX5_readGate_10 : SiteV miX5_readGate miX5_digitAt 10 := ⟨54, inT3 157 rfl rfl, dX5_readGate_10, ⟨by decide, by decide⟩⟩
theorem sX5_readGate_17 : SiteV miX5_readGate miX5_digitAt 17 := ⟨54, inT3 157 rfl rfl, dX5_readGate_17, ⟨by decide, by decide⟩⟩
theorem sX5_readGate_23 : SiteG miX5_readGate 23 5 0 := ⟨RX5, TX5, 4, 12, rfl, by decide, uwX5, inT1 179 rfl rfl, dX5_readGate_23⟩
theorem sX5_readGate_26 : SiteV miX5_readGate miX1_gateCount 26 := ⟨58, inT3 178 rfl rfl, dX5_readGate_26, ⟨by decide, by decide⟩⟩
theorem sX5_readGate_34 : SiteN miX5_readGate miX9_isWithin 34 := ⟨61, "TickCircuits", inN3 161 rfl, dX5_readGate_34, ⟨by decide, by decide⟩⟩
theorem sX5_readGate_52 : SiteV miX5_readGate miX5_partEndsAt 52 := ⟨65, inT3 163 rfl rfl, dX5_readGate_52, ⟨by decide, by decide⟩⟩
theorem sX5_readGate_60 : SiteP miX5_readGate 60 5 2 := ⟨RX5, TX5, 4, 22, tyX5, rfl, by decide, uwX5, inT1 181 rfl rfl, dX5_readGate_60, tyX5_ok, nmX5, rfl, rfl⟩
theorem sX5_readGate_75 : SiteP miX5_readGate 75 5 2 := ⟨RX5, TX5, 4, 22, tyX5, rfl, by decide, uwX5, inT1 181 rfl rfl, dX5_readGate_75, tyX5_ok, nmX5, rfl, rfl⟩
theorem sX5_readGate_84 : SiteN miX5_readGate miX9_mayFeed 84 := ⟨69, "TickCircuits", inN3 179 rfl, dX5_readGate_84, ⟨by decide, by decide⟩⟩
theorem sX5_readGate_94 : SiteN miX5_readGate miX9_mayFeed 94 := ⟨69, "TickCircuits", inN3 179 rfl, dX5_readGate_94, ⟨by decide, by decide⟩⟩
theorem sX5_readGate_102 : SiteP miX5_readGate 102 5 2 := ⟨RX5, TX5, 4, 22, tyX5, rfl, by decide, uwX5, inT1 181 rfl rfl, dX5_readGate_102, tyX5_ok, nmX5, rfl, rfl⟩
theorem sX5_readGate_109 : SiteG miX5_readGate 109 5 0 := ⟨RX5, TX5, 4, 12, rfl, by decide, uwX5, inT1 179 rfl rfl, dX5_readGate_109⟩
theorem sX5_readGate_118 : SiteV miX5_readGate miX1_setGate 118 := ⟨73, inT3 180 rfl rfl, dX5_readGate_118, ⟨by decide, by decide⟩⟩
theorem sX5_readGate_123 : SiteG miX5_readGate 123 5 1 := ⟨RX5, TX5, 4, 18, rfl, by decide, uwX5, inT1 180 rfl rfl, dX5_readGate_123⟩
theorem sX5_readGate_128 : SiteP miX5_readGate 128 5 1 := ⟨RX5, TX5, 4, 18, tyX5, rfl, by decide, uwX5, inT1 180 rfl rfl, dX5_readGate_128, tyX5_ok, nmX5, rfl, rfl⟩
theorem sX5_readRegister_3 : SiteV miX5_readRegister miX5_digitAt 3 := ⟨54, inT3 157 rfl rfl, dX5_readRegister_3, ⟨by decide, by decide⟩⟩
theorem sX5_readRegister_10 : SiteV miX5_readRegister miX5_digitAt 10 := ⟨54, inT3 157 rfl rfl, dX5_readRegister_10, ⟨by decide, by decide⟩⟩
theorem sX5_readRegister_17 : SiteV miX5_readRegister miX5_digitAt 17 := ⟨54, inT3 157 rfl rfl, dX5_readRegister_17, ⟨by decide, by decide⟩⟩
theorem sX5_readRegister_23 : SiteN miX5_readRegister miX9_isRegister 23 := ⟨77, "TickCircuits", inN3 162 rfl, dX5_readRegister_23, ⟨by decide, by decide⟩⟩
theorem sX5_readRegister_37 : SiteN miX5_readRegister miX9_isWithin 37 := ⟨61, "TickCircuits", inN3 161 rfl, dX5_readRegister_37, ⟨by decide, by decide⟩⟩
theorem sX5_readRegister_46 : SiteV miX5_readRegister miX5_partEndsAt 46 := ⟨65, inT3 163 rfl rfl, dX5_readRegister_46, ⟨by decide, by decide⟩⟩
theorem sX5_readRegister_54 : SiteP miX5_readRegister 54 5 2 := ⟨RX5, TX5, 4, 22, tyX5, rfl, by decide, uwX5, inT1 181 rfl rfl, dX5_readRegister_54, tyX5_ok, nmX5, rfl, rfl⟩
theorem sX5_readRegister_61 : SiteG miX5_readRegister 61 5 3 := ⟨RX5, TX5, 4, 28, rfl, by decide, uwX5, inT1 182 rfl rfl, dX5_readRegister_61⟩
theorem sX5_readRegister_65 : SiteN miX5_readRegister miX9_bitOf 65 := ⟨81, "TickCircuits", inN3 167 rfl, dX5_readRegister_65, ⟨by decide, by decide⟩⟩
theorem sX5_readRegister_74 : SiteP miX5_readRegister 74 5 2 := ⟨RX5, TX5, 4, 22, tyX5, rfl, by decide, uwX5, inT1 181 rfl rfl, dX5_readRegister_74, tyX5_ok, nmX5, rfl, rfl⟩
theorem sX5_readRegister_82 : SiteG miX5_readRegister 82 5 3 := ⟨RX5, TX5, 4, 28, rfl, by decide, uwX5, inT1 182 rfl rfl, dX5_readRegister_82⟩
theorem sX5_readRegister_89 : SiteP miX5_readRegister 89 5 3 := ⟨RX5, TX5, 4, 28, tyX5, rfl, by decide, uwX5, inT1 182 rfl rfl, dX5_readRegister_89, tyX5_ok, nmX5, rfl, rfl⟩
theorem sX5_readRegister_93 : SiteG miX5_readRegister 93 5 0 := ⟨RX5, TX5, 4, 12, rfl, by decide, uwX5, inT1 179 rfl rfl, dX5_readRegister_93⟩
theorem sX5_readRegister_100 : SiteV miX5_readRegister miX1_setRegister 100 := ⟨85, inT3 168 rfl rfl, dX5_readRegister_100, ⟨by decide, by decide⟩⟩
theorem sX5_readRegister_105 : SiteG miX5_readRegister 105 5 1 := ⟨RX5, TX5, 4, 18, rfl, by decide, uwX5, inT1 180 rfl rfl, dX5_readRegister_105⟩
theorem sX5_readRegister_110 : SiteP miX5_readRegister 110 5 1 := ⟨RX5, TX5, 4, 18, tyX5, rfl, by decide, uwX5, inT1 180 rfl rfl, dX5_readRegister_110, tyX5_ok, nmX5, rfl, rfl⟩
theorem sX5_readOutput_3 : SiteV miX5_readOutput miX5_digitAt 3 := ⟨54, inT3 157 rfl rfl, dX5_readOutput_3, ⟨by decide, by decide⟩⟩
theorem sX5_readOutput_14 : SiteV miX5_readOutput miX5_partEndsAt 14 := ⟨65, inT3 163 rfl rfl, dX5_readOutput_14, ⟨by decide, by decide⟩⟩
theorem sX5_readOutput_22 : SiteP miX5_readOutput 22 5 2 := ⟨RX5, TX5, 4, 22, tyX5, rfl, by decide, uwX5, inT1 181 rfl rfl, dX5_readOutput_22, tyX5_ok, nmX5, rfl, rfl⟩
theorem sX5_readOutput_29 : SiteG miX5_readOutput 29 5 3 := ⟨RX5, TX5, 4, 28, rfl, by decide, uwX5, inT1 182 rfl rfl, dX5_readOutput_29⟩
theorem sX5_readOutput_33 : SiteN miX5_readOutput miX9_bitOf 33 := ⟨81, "TickCircuits", inN3 167 rfl, dX5_readOutput_33, ⟨by decide, by decide⟩⟩
theorem sX5_readOutput_42 : SiteP miX5_readOutput 42 5 2 := ⟨RX5, TX5, 4, 22, tyX5, rfl, by decide, uwX5, inT1 181 rfl rfl, dX5_readOutput_42, tyX5_ok, nmX5, rfl, rfl⟩
theorem sX5_readOutput_50 : SiteG miX5_readOutput 50 5 3 := ⟨RX5, TX5, 4, 28, rfl, by decide, uwX5, inT1 182 rfl rfl, dX5_readOutput_50⟩
theorem sX5_readOutput_56 : SiteP miX5_readOutput 56 5 3 := ⟨RX5, TX5, 4, 28, tyX5, rfl, by decide, uwX5, inT1 182 rfl rfl, dX5_readOutput_56, tyX5_ok, nmX5, rfl, rfl⟩
theorem sX5_readOutput_60 : SiteG miX5_readOutput 60 5 0 := ⟨RX5, TX5, 4, 12, rfl, by decide, uwX5, inT1 179 rfl rfl, dX5_readOutput_60⟩
theorem sX5_readOutput_64 : SiteV miX5_readOutput miX1_setOutputWire 64 := ⟨89, inT3 173 rfl rfl, dX5_readOutput_64, ⟨by decide, by decide⟩⟩
theorem sX5_readOutput_69 : SiteG miX5_readOutput 69 5 1 := ⟨RX5, TX5, 4, 18, rfl, by decide, uwX5, inT1 180 rfl rfl, dX5_readOutput_69⟩
theorem sX5_readOutput_74 : SiteP miX5_readOutput 74 5 1 := ⟨RX5, TX5, 4, 18, tyX5, rfl, by decide, uwX5, inT1 180 rfl rfl, dX5_readOutput_74, tyX5_ok, nmX5, rfl, rfl⟩
theorem sX5_partEndsAt_2 : SiteG miX5_partEndsAt 2 5 1 := ⟨RX5, TX5, 4, 18, rfl, by decide, uwX5, inT1 180 rfl rfl, dX5_partEndsAt_2⟩
theorem sX5_partEndsAt_7 : SiteV miX5_partEndsAt miX8_characterAt 7 := ⟨41, inT3 148 rfl rfl, dX5_partEndsAt_7, ⟨by decide, by decide⟩⟩
theorem sX5_digitAt_2 : SiteG miX5_digitAt 2 5 1 := ⟨RX5, TX5, 4, 18, rfl, by decide, uwX5, inT1 180 rfl rfl, dX5_digitAt_2⟩
theorem sX5_digitAt_7 : SiteV miX5_digitAt miX8_characterAt 7 := ⟨41, inT3 148 rfl rfl, dX5_digitAt_7, ⟨by decide, by decide⟩⟩
theorem sX5_digitAt_16 : SiteN miX5_digitAt miX9_isWithin 16 := ⟨61, "TickCircuits", inN3 161 rfl, dX5_digitAt_16, ⟨by decide, by decide⟩⟩
theorem sX5_digitAt_32 : SiteN miX5_digitAt miX9_isWithin 32 := ⟨61, "TickCircuits", inN3 161 rfl, dX5_digitAt_32, ⟨by decide, by decide⟩⟩
theorem sX6_get_6 : SiteG miX6_get 6 6 0 := ⟨RX6, TX6, 1, 7, rfl, by decide, uwX6, inT1 33 rfl rfl, dX6_get_6⟩
theorem sX6_get_14 : SiteG miX6_get 14 6 0 := ⟨RX6, TX6, 1, 7, rfl, by decide, uwX6, inT1 33 rfl rfl, dX6_get_14⟩
theorem sX6_set_6 : SiteG miX6_set 6 6 0 := ⟨RX6, TX6, 1, 7, rfl, by decide, uwX6, inT1 33 rfl rfl, dX6_set_6⟩
theorem sX6_set_14 : SiteG miX6_set 14 6 0 := ⟨RX6, TX6, 1, 7, rfl, by decide, uwX6, inT1 33 rfl rfl, dX6_set_14⟩
theorem sX6_clear_1 : SiteG miX6_clear 1 6 0 := ⟨RX6, TX6, 1, 7, rfl, by decide, uwX6, inT1 33 rfl rfl, dX6_clear_1⟩
theorem sX6_clear_5 : SiteS miX6_clear miJ7_fill_53178 5 := ⟨13, inT2 164 rfl rfl, dX6_clear_5, ⟨by decide, by decide⟩⟩
theorem sX7_fillFrom_2 : SiteV miX7_fillFrom miX1_firstState 2 := ⟨23, inT2 99 rfl rfl, dX7_fillFrom_2, ⟨by decide, by decide⟩⟩
theorem sX7_fillFrom_5 : SiteP miX7_fillFrom 5 7 2 := ⟨RX7, TX7, 3, 29, tyX7, rfl, by decide, uwX7, inT1 73 rfl rfl, dX7_fillFrom_5, tyX7_ok, nmX7, rfl, rfl⟩
theorem sX7_fillFrom_31 : SiteV miX7_fillFrom miX1_wireBits 31 := ⟨32, inT2 104 rfl rfl, dX7_fillFrom_31, ⟨by decide, by decide⟩⟩
theorem sX7_fillFrom_40 : SiteV miX7_fillFrom miX1_outputWire 40 := ⟨36, inT2 127 rfl rfl, dX7_fillFrom_40, ⟨by decide, by decide⟩⟩
theorem sX7_fillFrom_43 : SiteN miX7_fillFrom miX9_bitOf 43 := ⟨39, "TickCircuits", inN2 128 rfl, dX7_fillFrom_43, ⟨by decide, by decide⟩⟩
theorem sX7_fillFrom_52 : SiteG miX7_fillFrom 52 7 0 := ⟨RX7, TX7, 3, 14, rfl, by decide, uwX7, inT1 71 rfl rfl, dX7_fillFrom_52⟩
theorem sX7_fillFrom_64 : SiteV miX7_fillFrom miX1_stateAfter 64 := ⟨42, inT2 129 rfl rfl, dX7_fillFrom_64, ⟨by decide, by decide⟩⟩
theorem sX7_fillFrom_67 : SiteV miX7_fillFrom miX6_set 67 := ⟨46, inT2 134 rfl rfl, dX7_fillFrom_67, ⟨by decide, by decide⟩⟩
theorem sX7_fillFrom_77 : SiteG miX7_fillFrom 77 7 1 := ⟨RX7, TX7, 3, 20, rfl, by decide, uwX7, inT1 72 rfl rfl, dX7_fillFrom_77⟩
theorem sX7_fillFrom_82 : SiteV miX7_fillFrom miX6_set 82 := ⟨46, inT2 134 rfl rfl, dX7_fillFrom_82, ⟨by decide, by decide⟩⟩
theorem sX7_firstState_1 : SiteG miX7_firstState 1 7 2 := ⟨RX7, TX7, 3, 29, rfl, by decide, uwX7, inT1 73 rfl rfl, dX7_firstState_1⟩
theorem sX7_stateBehind_1 : SiteG miX7_stateBehind 1 7 0 := ⟨RX7, TX7, 3, 14, rfl, by decide, uwX7, inT1 71 rfl rfl, dX7_stateBehind_1⟩
theorem sX7_stateBehind_9 : SiteV miX7_stateBehind miX6_get 9 := ⟨50, inT2 147 rfl rfl, dX7_stateBehind_9, ⟨by decide, by decide⟩⟩
theorem sX7_outputSet_1 : SiteG miX7_outputSet 1 7 1 := ⟨RX7, TX7, 3, 20, rfl, by decide, uwX7, inT1 72 rfl rfl, dX7_outputSet_1⟩
theorem sX7_outputSet_5 : SiteV miX7_outputSet miX6_get 5 := ⟨50, inT2 147 rfl rfl, dX7_outputSet_5, ⟨by decide, by decide⟩⟩
theorem sX7_statesComeTo_2 : SiteG miX7_statesComeTo 2 7 2 := ⟨RX7, TX7, 3, 29, rfl, by decide, uwX7, inT1 73 rfl rfl, dX7_statesComeTo_2⟩
theorem sX7_statesComeTo_18 : SiteV miX7_statesComeTo miX7_statesBehindAny 18 := ⟨53, inT2 139 rfl rfl, dX7_statesComeTo_18, ⟨by decide, by decide⟩⟩
theorem sX7_statesBehindAny_21 : SiteN miX7_statesBehindAny miX9_bitOf 21 := ⟨39, "TickCircuits", inN2 128 rfl, dX7_statesBehindAny_21, ⟨by decide, by decide⟩⟩
theorem sX7_statesBehindAny_34 : SiteV miX7_statesBehindAny miX7_stateBehind 34 := ⟨56, inT2 143 rfl rfl, dX7_statesBehindAny_34, ⟨by decide, by decide⟩⟩
theorem sX7_steadyRegisters_12 : SiteN miX7_steadyRegisters miX9_bitOf 12 := ⟨39, "TickCircuits", inN2 128 rfl, dX7_steadyRegisters_12, ⟨by decide, by decide⟩⟩
theorem sX7_steadyRegisters_22 : SiteG miX7_steadyRegisters 22 7 2 := ⟨RX7, TX7, 3, 29, rfl, by decide, uwX7, inT1 73 rfl rfl, dX7_steadyRegisters_22⟩
theorem sX8_length_1 : SiteG miX8_length 1 8 1 := ⟨RX8, TX8, 2, 18, rfl, by decide, uwX8, inT1 165 rfl rfl, dX8_length_1⟩
theorem sX8_append_1 : SiteG miX8_append 1 8 1 := ⟨RX8, TX8, 2, 18, rfl, by decide, uwX8, inT1 165 rfl rfl, dX8_append_1⟩
theorem sX8_append_10 : SiteG miX8_append 10 8 0 := ⟨RX8, TX8, 2, 14, rfl, by decide, uwX8, inT1 164 rfl rfl, dX8_append_10⟩
theorem sX8_append_14 : SiteG miX8_append 14 8 1 := ⟨RX8, TX8, 2, 18, rfl, by decide, uwX8, inT1 165 rfl rfl, dX8_append_14⟩
theorem sX8_append_18 : SiteV miX8_append miX6_set 18 := ⟨22, inT3 125 rfl rfl, dX8_append_18, ⟨by decide, by decide⟩⟩
theorem sX8_append_23 : SiteG miX8_append 23 8 1 := ⟨RX8, TX8, 2, 18, rfl, by decide, uwX8, inT1 165 rfl rfl, dX8_append_23⟩
theorem sX8_append_28 : SiteP miX8_append 28 8 1 := ⟨RX8, TX8, 2, 18, tyX8, rfl, by decide, uwX8, inT1 165 rfl rfl, dX8_append_28, tyX8_ok, nmX8, rfl, rfl⟩
theorem sX8_empty_2 : SiteP miX8_empty 2 8 1 := ⟨RX8, TX8, 2, 18, tyX8, rfl, by decide, uwX8, inT1 165 rfl rfl, dX8_empty_2, tyX8_ok, nmX8, rfl, rfl⟩
theorem sX8_characterAt_2 : SiteG miX8_characterAt 2 8 1 := ⟨RX8, TX8, 2, 18, rfl, by decide, uwX8, inT1 165 rfl rfl, dX8_characterAt_2⟩
theorem sX8_characterAt_9 : SiteG miX8_characterAt 9 8 0 := ⟨RX8, TX8, 2, 14, rfl, by decide, uwX8, inT1 164 rfl rfl, dX8_characterAt_9⟩
theorem sX8_characterAt_13 : SiteV miX8_characterAt miX6_get 13 := ⟨26, inT3 152 rfl rfl, dX8_characterAt_13, ⟨by decide, by decide⟩⟩
end
section
/-! CIRCUITS AS VALUES: how many gates, the output's wire, registers' next wires and first bits, gates (kind, first, second) -/
abbrev Circ : Type := Nat × Nat × (Nat → Nat) × (Nat → Nat) × (Nat → Nat × Nat × Nat)
abbrev cn (C : Circ) : Nat := C.1
abbrev co (C : Circ) : Nat := C.2.1
abbrev cx (C : Circ) (r : Nat) : Nat := C.2.2.1 r
abbrev cb (C : Circ) (r : Nat) : Nat := C.2.2.2.1 r
abbrev ck (C : Circ) (g : Nat) : Nat := (C.2.2.2.2 g).1
abbrev cf (C : Circ) (g : Nat) : Nat := (C.2.2.2.2 g).2.1
abbrev cs (C : Circ) (g : Nat) : Nat := (C.2.2.2.2 g).2.2
def FeedN (g w : Nat) : Prop := w < 6 + g ∨ w = 14 ∨ w = 15
def WF (C : Circ) : Prop := cn C ≤ 8 ∧ co C < 16 ∧ (∀ r, r < 4 → cx C r < 16 ∧ cb C r < 2) ∧ ∀ g, g < cn C → ck C g < 6 ∧ FeedN g (cf C g) ∧ FeedN g (cs C g)
theorem FeedN.lt {g w : Nat} (hg : g < 8) (h : FeedN g w) : w < 16 := by unfold FeedN at h; omega
/-- a bit of a number -/
def bt (b p : Nat) : Nat := b / 2 ^ p % 2
theorem bt_lt (b p : Nat) : bt b p < 2 := Nat.mod_lt _ (by decide)
theorem bt_tb (b p : Nat) : bt b p = (b.testBit p).toNat := by
  unfold bt
  rw [Nat.testBit_eq_decide_div_mod_eq]
  rcases Nat.mod_two_eq_zero_or_one (b / 2 ^ p) with h | h <;> simp [h]
/-- what a kind does -/
def gb (k a b : Nat) : Nat := if k = 0 then a &&& b else if k = 1 then a ||| b else if k = 2 then a ^^^ b else if k = 3 then 1 - (a &&& b) else if k = 4 then a else 1 - a
theorem gb_lt : ∀ k, k < 6 → ∀ a, a < 2 → ∀ b, b < 2 → gb k a b < 2 := by decide
/-- all wires of a tick as bits, the first g gates worked out -/
def wb (C : Circ) (st i : Nat) : Nat → Nat
  | 0 => (32768 ||| st * 4) ||| i
  | g + 1 => wb C st i g ||| gb (ck C g) (bt (wb C st i g) (cf C g)) (bt (wb C st i g) (cs C g)) * 2 ^ (6 + g)
theorem wb_lt {C : Circ} (hC : WF C) {st i : Nat} (hs : st < 16) (hi : i < 4) : ∀ g, g ≤ cn C → wb C st i g < 65536
  | 0, _ => by
    show (32768 ||| st * 4) ||| i < 2 ^ 16
    exact Nat.or_lt_two_pow (Nat.or_lt_two_pow (by decide) (by omega)) (by omega)
  | g + 1, h => by
    have h1 := wb_lt hC hs hi g (by omega)
    have h2 := hC.1
    obtain ⟨k1, k2, k3⟩ := hC.2.2.2 g h
    have h3 := gb_lt (ck C g) k1 _ (bt_lt (wb C st i g) (cf C g)) _ (bt_lt (wb C st i g) (cs C g))
    show wb C st i g ||| gb (ck C g) (bt (wb C st i g) (cf C g)) (bt (wb C st i g) (cs C g)) * 2 ^ (6 + g) < 2 ^ 16
    refine Nat.or_lt_two_pow h1 ?_
    have h4 : 2 ^ (6 + g) ≤ 2 ^ 13 := Nat.pow_le_pow_right (by decide) (by omega)
    generalize gb (ck C g) (bt (wb C st i g) (cf C g)) (bt (wb C st i g) (cs C g)) = x at h3 ⊢
    have h5 : x * 2 ^ (6 + g) ≤ 1 * 2 ^ 13 := Nat.mul_le_mul (by omega) h4
    omega
abbrev wbits (C : Circ) (st i : Nat) : Nat := wb C st i (cn C)
/-- the output, the state behind a tick, the first state -/
def outS (C : Circ) (st i : Nat) : Nat := bt (wbits C st i) (co C)
def st4 (f : Nat → Nat) : Nat := f 0 + 2 * f 1 + 4 * f 2 + 8 * f 3
def nxtS (C : Circ) (st i : Nat) : Nat := st4 (fun r => bt (wbits C st i) (cx C r))
def fstS (C : Circ) : Nat := st4 (cb C)
theorem or4 : ∀ a, a < 2 → ∀ b, b < 2 → ∀ c, c < 2 → ∀ d, d < 2 → (((0 ||| a * 2 ^ 0) ||| b * 2 ^ 1) ||| c * 2 ^ 2) ||| d * 2 ^ 3 = a + 2 * b + 4 * c + 8 * d := by decide
theorem st4_lt {f : Nat → Nat} (h : ∀ r, r < 4 → f r < 2) : st4 f < 16 := by
  have := h 0 (by decide); have := h 1 (by decide); have := h 2 (by decide); have := h 3 (by decide)
  unfold st4; omega
theorem nxt_lt (C : Circ) (st i : Nat) : nxtS C st i < 16 := st4_lt (fun r _ => bt_lt _ _)
theorem out_lt (C : Circ) (st i : Nat) : outS C st i < 2 := bt_lt _ _
theorem fst_lt {C : Circ} (h : WF C) : fstS C < 16 := st4_lt (fun r hr => (h.2.2.1 r hr).2)
/-- the gate on a wire, as a set -/
def gw (n w : Nat) : Nat := if 6 ≤ w ∧ w - 6 < n then 2 ^ (w - 6) else 0
theorem gw_lt {n w : Nat} : gw n w < 2 ^ n := by
  unfold gw
  split
  · next h => exact Nat.pow_lt_pow_right (by decide) h.2
  · exact Nat.two_pow_pos n
/-- gates on which the output depends: gates g - 1 down to 0 -/
def depS (C : Circ) : Nat → Nat → Nat
  | 0, f => f
  | g + 1, f => depS C g (if bt f g = 1 then (if ck C g < 4 then (f ||| gw (cn C) (cf C g)) ||| gw (cn C) (cs C g) else f ||| gw (cn C) (cf C g)) else f)
end
section
/-! STEP TABLES AS VALUES: the state behind, the set of inputs with output 1, the first state -/
abbrev Tab : Type := (Nat → Nat → Nat) × (Nat → Nat) × Nat
def TWF (T : Tab) : Prop := (∀ s i, T.1 s i < 16) ∧ (∀ s, T.2.1 s < 16) ∧ T.2.2 < 16
def tabOf (C : Circ) : Tab := (nxtS C, fun s => st4 (outS C s), fstS C)
theorem tabOf_wf {C : Circ} (h : WF C) : TWF (tabOf C) := ⟨nxt_lt C, fun s => st4_lt (fun r _ => out_lt C s r), fst_lt h⟩
def acc4 (f : Nat → Nat) : Nat → Nat
  | 0 => 0
  | i + 1 => acc4 f i ||| f i * 2 ^ i
theorem acc4_4 {f : Nat → Nat} (h : ∀ r, r < 4 → f r < 2) : acc4 f 4 = st4 f := or4 _ (h 0 (by decide)) _ (h 1 (by decide)) _ (h 2 (by decide)) _ (h 3 (by decide))
theorem acc4_lt {f : Nat → Nat} (h : ∀ r, f r < 2) : ∀ i, i ≤ 4 → acc4 f i < 16
  | 0, _ => (by decide : (0 : Nat) < 16)
  | i + 1, hi => by
    have h1 := acc4_lt h i (by omega)
    show acc4 f i ||| f i * 2 ^ i < 2 ^ 4
    refine Nat.or_lt_two_pow h1 ?_
    have h2 := h i
    have h3 : 2 ^ i ≤ 2 ^ 3 := Nat.pow_le_pow_right (by decide) (by omega)
    have h4 : f i * 2 ^ i ≤ 1 * 2 ^ 3 := Nat.mul_le_mul (by omega) h3
    omega
/-- the states behind state s with the inputs below i, added to f -/
def sbI (T : Tab) (s : Nat) : Nat → Nat → Nat
  | 0, f => f
  | i + 1, f => sbI T s i f ||| 2 ^ T.1 s i
def sbS (T : Tab) (X : Nat) : Nat → Nat
  | 0 => 0
  | s + 1 => if bt X s = 1 then sbI T s 4 (sbS T X s) else sbS T X s
def sct (T : Tab) : Nat → Nat
  | 0 => 2 ^ T.2.2
  | r + 1 => sct T r ||| sbS T (sct T r) 16
theorem p2_lt {n : Nat} (h : n < 16) : 2 ^ n < 65536 := Nat.pow_lt_pow_right (by decide) h
theorem sbI_lt {T : Tab} (hT : TWF T) {s : Nat} : ∀ (i f : Nat), f < 65536 → sbI T s i f < 65536
  | 0, f, h => h
  | i + 1, f, h => Nat.or_lt_two_pow (n := 16) (sbI_lt hT i f h) (p2_lt (hT.1 s i))
theorem sbS_lt {T : Tab} (hT : TWF T) {X : Nat} : ∀ s, sbS T X s < 65536
  | 0 => (by decide : (0 : Nat) < 65536)
  | s + 1 => by
    unfold sbS
    split
    · exact sbI_lt hT 4 _ (sbS_lt hT s)
    · exact sbS_lt hT s
theorem sct_lt {T : Tab} (hT : TWF T) : ∀ r, sct T r < 65536
  | 0 => p2_lt hT.2.2
  | r + 1 => Nat.or_lt_two_pow (n := 16) (sct_lt hT r) (sbS_lt hT 16)
/-- what changes from the first state over the states of a set below s -/
def chg (T : Tab) (X : Nat) : Nat → Nat
  | 0 => 0
  | s + 1 => if bt X s = 1 then chg T X s ||| (s ^^^ T.2.2) else chg T X s
theorem chg_lt {T : Tab} (hT : TWF T) {X : Nat} : ∀ s, s ≤ 16 → chg T X s < 16
  | 0, _ => (by decide : (0 : Nat) < 16)
  | s + 1, h => by
    have ih := chg_lt (X := X) hT s (by omega)
    unfold chg
    split
    · exact Nat.or_lt_two_pow (n := 4) ih (Nat.xor_lt_two_pow (by omega) hT.2.2)
    · exact ih
end
section
/-! STATES THAT ARE ALIKE: by rows of fewer than r inputs -/
def eqb (T : Tab) : Nat → Nat → Nat → Bool
  | 0, _, _ => true
  | r + 1, s, o => T.2.1 s == T.2.1 o && (eqb T r (T.1 s 0) (T.1 o 0) && (eqb T r (T.1 s 1) (T.1 o 1) && (eqb T r (T.1 s 2) (T.1 o 2) && eqb T r (T.1 s 3) (T.1 o 3))))
theorem eqb_s (T : Tab) (r s o : Nat) : eqb T (r + 1) s o = true ↔ T.2.1 s = T.2.1 o ∧ ∀ i, i < 4 → eqb T r (T.1 s i) (T.1 o i) = true := by
  simp only [eqb, Bool.and_eq_true, beq_iff_eq]
  constructor
  · rintro ⟨h, a, b, c, d⟩
    refine ⟨h, fun i hi => ?_⟩
    rcases (show i = 0 ∨ i = 1 ∨ i = 2 ∨ i = 3 by omega) with rfl | rfl | rfl | rfl
    · exact a
    · exact b
    · exact c
    · exact d
  · rintro ⟨h, k⟩
    exact ⟨h, k 0 (by decide), k 1 (by decide), k 2 (by decide), k 3 (by decide)⟩
theorem eqb_refl (T : Tab) : ∀ r s, eqb T r s s = true
  | 0, _ => rfl
  | r + 1, s => (eqb_s T r s s).mpr ⟨rfl, fun i _ => eqb_refl T r _⟩
theorem eqb_symm (T : Tab) : ∀ r s o, eqb T r s o = true → eqb T r o s = true
  | 0, _, _, _ => rfl
  | r + 1, s, o, h => by
    obtain ⟨a, b⟩ := (eqb_s T r s o).mp h
    exact (eqb_s T r o s).mpr ⟨a.symm, fun i hi => eqb_symm T r _ _ (b i hi)⟩
theorem eqb_trans (T : Tab) : ∀ r s o q, eqb T r s o = true → eqb T r o q = true → eqb T r s q = true
  | 0, _, _, _, _, _ => rfl
  | r + 1, s, o, q, h, g => by
    obtain ⟨a, b⟩ := (eqb_s T r s o).mp h
    obtain ⟨c, d⟩ := (eqb_s T r o q).mp g
    exact (eqb_s T r s q).mpr ⟨a.trans c, fun i hi => eqb_trans T r _ _ _ (b i hi) (d i hi)⟩
theorem eqb_anti (T : Tab) : ∀ r s o, eqb T (r + 1) s o = true → eqb T r s o = true
  | 0, _, _, _ => rfl
  | r + 1, s, o, h => by
    obtain ⟨a, b⟩ := (eqb_s T (r + 1) s o).mp h
    exact (eqb_s T r s o).mpr ⟨a, fun i hi => eqb_anti T r _ _ (b i hi)⟩
theorem eqb_le (T : Tab) {r q : Nat} (h : r ≤ q) {s o : Nat} (e : eqb T q s o = true) : eqb T r s o = true := by
  induction h with
  | refl => exact e
  | step _ ih => exact ih (eqb_anti T _ s o e)
/-- the least states of their classes -/
def lst (T : Tab) (r s : Nat) : Bool := (List.range s).all (fun o => !eqb T r o s)
theorem lst_iff {T : Tab} {r s : Nat} : lst T r s = true ↔ ∀ o, o < s → eqb T r o s = false := by
  simp [lst, List.all_eq_true]
theorem lst_up {T : Tab} {r s : Nat} (h : lst T r s = true) : lst T (r + 1) s = true := by
  rw [lst_iff] at h ⊢
  intro o ho
  cases e : eqb T (r + 1) o s with
  | false => rfl
  | true => exact absurd (h o ho) (by rw [eqb_anti T r o s e]; decide)
def cnt (p : Nat → Bool) : Nat → Nat
  | 0 => 0
  | n + 1 => cnt p n + (if p n = true then 1 else 0)
theorem cnt_le (p : Nat → Bool) : ∀ n, cnt p n ≤ n
  | 0 => Nat.le_refl 0
  | n + 1 => by have := cnt_le p n; unfold cnt; split <;> omega
theorem cnt_mono {p q : Nat → Bool} (h : ∀ s, p s = true → q s = true) : ∀ n, cnt p n ≤ cnt q n
  | 0 => Nat.le_refl 0
  | n + 1 => by
    have := cnt_mono h n
    unfold cnt
    by_cases e : p n = true
    · rw [if_pos e, if_pos (h n e)]; omega
    · rw [if_neg e]; split <;> omega
theorem cnt_eq {p q : Nat → Bool} (h : ∀ s, p s = true → q s = true) : ∀ n, cnt p n = cnt q n → ∀ s, s < n → p s = q s
  | 0, _, s, hs => absurd hs (Nat.not_lt_zero s)
  | n + 1, e, s, hs => by
    have m := cnt_mono h n
    unfold cnt at e
    by_cases e1 : p n = true
    · rw [if_pos e1, if_pos (h n e1)] at e
      rcases Nat.lt_or_ge s n with h1 | h1
      · exact cnt_eq h n (by omega) s h1
      · rw [show s = n by omega, e1, h n e1]
    · rw [if_neg e1] at e
      by_cases e2 : q n = true
      · rw [if_pos e2] at e; omega
      · rw [if_neg e2] at e
        rcases Nat.lt_or_ge s n with h1 | h1
        · exact cnt_eq h n (by omega) s h1
        · rw [show s = n by omega]
          cases hp : p n <;> cases hq : q n <;> simp_all
theorem ex_least {P : Nat → Prop} : ∀ n, P n → ∃ m, m ≤ n ∧ P m ∧ ∀ o, o < m → ¬ P o := by
  intro n
  induction n using Nat.strongRecOn with
  | ind n ih =>
    intro hn
    by_cases h : ∃ o, o < n ∧ P o
    · obtain ⟨o, h1, h2⟩ := h
      obtain ⟨m, a, b, c⟩ := ih o h1 h2
      exact ⟨m, by omega, b, c⟩
    · exact ⟨n, Nat.le_refl n, hn, fun o ho hp => h ⟨o, ho, hp⟩⟩
/-- where the least ones are the same, so are the classes -/
theorem eqb_stop {T : Tab} {r : Nat} (h : ∀ s, s < 16 → lst T r s = lst T (r + 1) s) {s o : Nat} (hs : s < 16) (ho : o < 16) (e : eqb T r s o = true) : eqb T (r + 1) s o = true := by
  obtain ⟨a, a1, a2, a3⟩ := ex_least (P := fun m => eqb T (r + 1) m s = true) s (eqb_refl T _ s)
  obtain ⟨b, b1, b2, b3⟩ := ex_least (P := fun m => eqb T (r + 1) m o = true) o (eqb_refl T _ o)
  have la : lst T (r + 1) a = true := lst_iff.mpr (fun q hq => by
    cases g : eqb T (r + 1) q a with
    | false => rfl
    | true => exact absurd (eqb_trans T _ _ _ _ g a2) (a3 q hq))
  have lb : lst T (r + 1) b = true := lst_iff.mpr (fun q hq => by
    cases g : eqb T (r + 1) q b with
    | false => rfl
    | true => exact absurd (eqb_trans T _ _ _ _ g b2) (b3 q hq))
  rw [← h a (by omega), lst_iff] at la
  rw [← h b (by omega), lst_iff] at lb
  have eab : eqb T r a b = true := eqb_trans T r _ _ _ (eqb_anti T r a s a2) (eqb_trans T r _ _ _ e (eqb_symm T r _ _ (eqb_anti T r b o b2)))
  have hab : a = b := by
    rcases Nat.lt_trichotomy a b with g | g | g
    · rw [lb a g] at eab; cases eab
    · exact g
    · have := la b g; rw [eqb_symm T r _ _ eab] at this; cases this
  subst hab
  exact eqb_trans T _ _ _ _ (eqb_symm T _ _ _ a2) b2
theorem eqb_stay {T : Tab} (hT : TWF T) {r : Nat} (h : ∀ s o, s < 16 → o < 16 → eqb T r s o = true → eqb T (r + 1) s o = true) : ∀ (q : Nat) (s o : Nat), s < 16 → o < 16 → eqb T r s o = true → eqb T (r + q) s o = true
  | 0, _, _, _, _, e => e
  | q + 1, s, o, hs, ho, e => by
    obtain ⟨a, b⟩ := (eqb_s T r s o).mp (h s o hs ho e)
    exact (eqb_s T (r + q) s o).mpr ⟨a, fun i hi => eqb_stay hT h q _ _ (hT.1 s i) (hT.1 o i) (b i hi)⟩
theorem cnt_grow {T : Tab} : ∀ r, (∀ q, q < r → ∃ s, s < 16 ∧ lst T q s ≠ lst T (q + 1) s) → r + 1 ≤ cnt (lst T r) 16
  | 0, _ => by
    have h0 : lst T 0 0 = true := rfl
    have : ∀ n, 1 ≤ cnt (lst T 0) (n + 1) := by
      intro n
      induction n with
      | zero => simp [cnt, h0]
      | succ n ih => unfold cnt; omega
    exact this 15
  | r + 1, h => by
    have ih := cnt_grow r (fun q hq => h q (by omega))
    have m := cnt_mono (fun s => lst_up (T := T) (r := r) (s := s)) 16
    rcases Nat.lt_or_ge (cnt (lst T r) 16) (cnt (lst T (r + 1)) 16) with g | g
    · omega
    · obtain ⟨s, hs, hne⟩ := h r (by omega)
      exact absurd (cnt_eq (fun s => lst_up (T := T) (r := r) (s := s)) 16 (by omega) s hs) hne
/-- rows of 16 inputs tell all that can be told -/
theorem eqb_16 {T : Tab} (hT : TWF T) {s o : Nat} (hs : s < 16) (ho : o < 16) (e : eqb T 16 s o = true) (q : Nat) : eqb T q s o = true := by
  have hex : ∃ r, r < 16 ∧ ∀ s, s < 16 → lst T r s = lst T (r + 1) s := by
    apply Classical.byContradiction
    intro hn
    have h2 : ∀ q, q < 16 → ∃ s, s < 16 ∧ lst T q s ≠ lst T (q + 1) s := by
      intro q hq
      apply Classical.byContradiction
      intro h3
      exact hn ⟨q, hq, fun s hs => Classical.byContradiction (fun h4 => h3 ⟨s, hs, h4⟩)⟩
    have := cnt_grow 16 h2
    have := cnt_le (lst T 16) 16
    omega
  obtain ⟨r, hr, h⟩ := hex
  have st := eqb_stay hT (r := r) (fun s o hs ho e => eqb_stop h hs ho e)
  have er := eqb_le T (show r ≤ 16 by omega) e
  rcases Nat.lt_or_ge q r with g | g
  · exact eqb_le T (Nat.le_of_lt g) er
  · have := st (q - r) s o hs ho er
    rwa [show r + (q - r) = q by omega] at this
theorem eqb_step {T : Tab} (hT : TWF T) {s o : Nat} (hs : s < 16) (ho : o < 16) : eqb T 16 s o = true ↔ T.2.1 s = T.2.1 o ∧ ∀ i, i < 4 → eqb T 16 (T.1 s i) (T.1 o i) = true := by
  constructor
  · intro h
    exact (eqb_s T 16 s o).mp (eqb_16 hT hs ho h 17)
  · intro h
    exact eqb_anti T 16 s o ((eqb_s T 16 s o).mpr h)
/-- unlike by a relation u: different outputs, or unlike states behind -/
def unl (T : Tab) (u : Nat → Nat) (s o : Nat) : Prop := T.2.1 s ≠ T.2.1 o ∨ ∃ i, i < 4 ∧ bt (u (T.1 s i)) (T.1 o i) = 1
/-- u tells no alike states apart; u tells apart what rows of fewer than r inputs do -/
def uSnd (T : Tab) (u : Nat → Nat) : Prop := ∀ s o, s < 16 → o < 16 → bt (u s) o = 1 → eqb T 16 s o = false
def uLow (T : Tab) (r : Nat) (u : Nat → Nat) (s : Nat) : Prop := ∀ o, o < 16 → eqb T r s o = false → bt (u s) o = 1
theorem unl_snd {T : Tab} (hT : TWF T) {u : Nat → Nat} (h : uSnd T u) {s o : Nat} (hs : s < 16) (ho : o < 16) (hu : unl T u s o) : eqb T 16 s o = false := by
  cases e : eqb T 16 s o with
  | false => rfl
  | true =>
    obtain ⟨a, b⟩ := (eqb_step hT hs ho).mp e
    rcases hu with g | ⟨i, hi, g⟩
    · exact absurd a g
    · have := h _ _ (hT.1 s i) (hT.1 o i) g
      rw [b i hi] at this
      cases this
theorem unl_low {T : Tab} (hT : TWF T) {r : Nat} {u : Nat → Nat} (h : ∀ s, s < 16 → uLow T r u s) {s o : Nat} (e : eqb T (r + 1) s o = false) : unl T u s o := by
  apply Classical.byContradiction
  intro hn
  have : eqb T (r + 1) s o = true := by
    refine (eqb_s T r s o).mpr ⟨Classical.byContradiction (fun g => hn (Or.inl g)), fun i hi => ?_⟩
    cases g : eqb T r (T.1 s i) (T.1 o i) with
    | true => rfl
    | false => exact absurd (Or.inr ⟨i, hi, h _ (hT.1 s i) _ (hT.1 o i) g⟩) hn
  rw [e] at this
  cases this
/-- a relation that a round leaves as it is tells all apart -/
theorem unl_fix {T : Tab} (hT : TWF T) {u : Nat → Nat} (h : ∀ s o, s < 16 → o < 16 → (bt (u s) o = 1 ↔ unl T u s o)) : ∀ (r s o : Nat), s < 16 → o < 16 → bt (u s) o ≠ 1 → eqb T r s o = true
  | 0, _, _, _, _, _ => rfl
  | r + 1, s, o, hs, ho, g => by
    have hn : ¬ unl T u s o := fun k => g ((h s o hs ho).mpr k)
    refine (eqb_s T r s o).mpr ⟨Classical.byContradiction (fun k => hn (Or.inl k)), fun i hi => ?_⟩
    exact unl_fix hT h r _ _ (hT.1 s i) (hT.1 o i) (fun k => hn (Or.inr ⟨i, hi, k⟩))
/-- classes among the states of a set below s: those with no lesser one alike -/
def clsP (T : Tab) (X s : Nat) : Bool := bt X s == 1 && (List.range s).all (fun o => !(bt X o == 1 && eqb T 16 s o))
theorem clsP_iff {T : Tab} {X s : Nat} : clsP T X s = true ↔ bt X s = 1 ∧ ∀ o, o < s → bt X o = 1 → eqb T 16 s o = false := by
  simp only [clsP, Bool.and_eq_true, beq_iff_eq, List.all_eq_true, List.mem_range, Bool.not_eq_true', Bool.and_eq_false_imp]
def clsS (T : Tab) (X : Nat) : Nat := cnt (clsP T X) 16
end
section
/-! PAIRS THAT ARE COME TO: how many, their states, ticks, the place ahead, the last inputs; which codes are met -/
abbrev Bst : Type := Nat × (Nat → Nat) × (Nat → Nat) × (Nat → Nat) × (Nat → Nat) × (Nat → Nat) × (Nat → Bool)
abbrev bn (s : Bst) : Nat := s.1
abbrev bz (s : Bst) : Nat → Nat := s.2.1
abbrev bo (s : Bst) : Nat → Nat := s.2.2.1
abbrev btk (s : Bst) : Nat → Nat := s.2.2.2.1
abbrev bah (s : Bst) : Nat → Nat := s.2.2.2.2.1
abbrev bli (s : Bst) : Nat → Nat := s.2.2.2.2.2.1
abbrev bmet (s : Bst) : Nat → Bool := s.2.2.2.2.2.2
def fup {α : Type} (f : Nat → α) (k : Nat) (v : α) : Nat → α := fun j => if j = k then v else f j
theorem fup_s {α : Type} (f : Nat → α) (k : Nat) (v : α) : fup f k v k = v := by simp [fup]
theorem fup_n {α : Type} (f : Nat → α) {k j : Nat} (v : α) (h : j ≠ k) : fup f k v j = f j := by simp [fup, h]
def bPush (s : Bst) (z o t a i : Nat) : Bst := (bn s + 1, fup (bz s) (bn s) z, fup (bo s) (bn s) o, fup (btk s) (bn s) t, fup (bah s) (bn s) a, fup (bli s) (bn s) i, fup (bmet s) (16 * z + o) true)
def bMeet (s : Bst) (z o k i : Nat) : Bst := if bmet s (16 * z + o) = true then s else bPush s z o (btk s k + 1) k i
def b0 : Bst := (0, fun _ => 0, fun _ => 0, fun _ => 0, fun _ => 0, fun _ => 0, fun _ => false)
def bInit (T0 T1 : Tab) : Bst := bPush b0 T0.2.2 T1.2.2 0 0 0
def bIn (T0 T1 : Tab) (k : Nat) : Nat → Bst → Bst
  | 0, s => s
  | i + 1, s => bMeet (bIn T0 T1 k i s) (T0.1 (bz (bIn T0 T1 k i s) k) i) (T1.1 (bo (bIn T0 T1 k i s) k) i) k i
def bOut (T0 T1 : Tab) : Nat → Nat → Bst → Bst
  | 0, _, s => s
  | f + 1, k, s => if k < bn s then bOut T0 T1 f (k + 1) (bIn T0 T1 k 4 s) else s
def bfs (T0 T1 : Tab) : Bst := bOut T0 T1 257 0 (bInit T0 T1)
theorem cnt_up {p : Nat → Bool} {c : Nat} (hc : p c = false) : ∀ n, c < n → cnt (fup p c true) n = cnt p n + 1
  | 0, h => absurd h (Nat.not_lt_zero c)
  | n + 1, h => by
    unfold cnt
    by_cases e : c = n
    · subst e
      have : ∀ m, m ≤ c → cnt (fup p c true) m = cnt p m := by
        intro m
        induction m with
        | zero => intro _; rfl
        | succ m ih =>
          intro hm
          unfold cnt
          rw [ih (by omega), fup_n p true (show m ≠ c by omega)]
      rw [this c (Nat.le_refl c), fup_s, hc]
      simp
    · rw [cnt_up hc n (by omega), fup_n p true (Ne.symm e)]
      omega
def BI (s : Bst) : Prop := cnt (bmet s) 256 = bn s ∧ ∀ j, j < bn s → bz s j < 16 ∧ bo s j < 16 ∧ btk s j ≤ j ∧ bli s j < 4 ∧ (0 < j → bah s j < j ∧ btk s j = btk s (bah s j) + 1)
theorem BI.le {s : Bst} (h : BI s) : bn s ≤ 256 := by rw [← h.1]; exact cnt_le _ _
theorem BI.lt {s : Bst} (h : BI s) {z o : Nat} (hz : z < 16) (ho : o < 16) (hm : ¬ bmet s (16 * z + o) = true) : bn s < 256 := by
  have h1 := cnt_up (p := bmet s) (c := 16 * z + o) (by cases e : bmet s (16 * z + o) <;> simp_all) 256 (by omega)
  have h2 := cnt_le (fup (bmet s) (16 * z + o) true) 256
  have h3 := h.1
  omega
theorem BI.push {s : Bst} (h : BI s) {z o t a i : Nat} (hz : z < 16) (ho : o < 16) (hm : ¬ bmet s (16 * z + o) = true) (hi : i < 4) (ht : t ≤ bn s) (ha : 0 < bn s → a < bn s ∧ t = btk s a + 1) : BI (bPush s z o t a i) := by
  refine ⟨?_, fun j hj => ?_⟩
  · show cnt (fup (bmet s) (16 * z + o) true) 256 = bn s + 1
    rw [cnt_up (by cases e : bmet s (16 * z + o) <;> simp_all) 256 (by omega), h.1]
  · have hj2 : j < bn s + 1 := hj
    show fup (bz s) (bn s) z j < 16 ∧ fup (bo s) (bn s) o j < 16 ∧ fup (btk s) (bn s) t j ≤ j ∧ fup (bli s) (bn s) i j < 4 ∧ (0 < j → fup (bah s) (bn s) a j < j ∧ fup (btk s) (bn s) t j = fup (btk s) (bn s) t (fup (bah s) (bn s) a j) + 1)
    by_cases e : j = bn s
    · subst e
      simp only [fup_s]
      refine ⟨hz, ho, ht, hi, fun h0 => ?_⟩
      obtain ⟨a1, a2⟩ := ha h0
      exact ⟨a1, by rw [fup_n _ _ (show a ≠ bn s by omega)]; exact a2⟩
    · obtain ⟨c1, c2, c3, c4, c5⟩ := h.2 j (by omega)
      simp only [fup_n _ _ e]
      refine ⟨c1, c2, c3, c4, fun h0 => ?_⟩
      obtain ⟨d1, d2⟩ := c5 h0
      exact ⟨d1, by rw [fup_n _ _ (show bah s j ≠ bn s by omega)]; exact d2⟩
theorem BI.meet {s : Bst} (h : BI s) {z o k i : Nat} (hz : z < 16) (ho : o < 16) (hi : i < 4) (hk : k < bn s) : BI (bMeet s z o k i) := by
  unfold bMeet
  split
  · exact h
  · next hm => exact h.push hz ho hm hi (by have := (h.2 k hk).2.2.1; omega) (fun _ => ⟨hk, rfl⟩)
theorem meet_n (s : Bst) (z o k i : Nat) : bn s ≤ bn (bMeet s z o k i) := by
  unfold bMeet
  split
  · exact Nat.le_refl _
  · exact Nat.le_succ _
theorem cnt_none : ∀ n, cnt (fun _ => false) n = 0
  | 0 => rfl
  | n + 1 => by unfold cnt; rw [cnt_none n]; rfl
theorem b0_BI : BI b0 := ⟨cnt_none 256, fun j hj => absurd hj (Nat.not_lt_zero j)⟩
theorem BI.init {T0 T1 : Tab} (h0 : TWF T0) (h1 : TWF T1) : BI (bInit T0 T1) :=
  b0_BI.push h0.2.2 h1.2.2 (fun h => Bool.noConfusion h) (by omega) (Nat.le_refl 0) (fun h => absurd h (Nat.lt_irrefl 0))
theorem BI.inn {T0 T1 : Tab} (h0 : TWF T0) (h1 : TWF T1) {s : Bst} (h : BI s) {k : Nat} (hk : k < bn s) : ∀ i, i ≤ 4 → BI (bIn T0 T1 k i s) ∧ bn s ≤ bn (bIn T0 T1 k i s)
  | 0, _ => ⟨h, Nat.le_refl _⟩
  | i + 1, hi => by
    obtain ⟨a, b⟩ := BI.inn h0 h1 h hk i (by omega)
    exact ⟨a.meet (h0.1 _ _) (h1.1 _ _) (by omega) (by omega), Nat.le_trans b (meet_n _ _ _ _ _)⟩
theorem BI.out {T0 T1 : Tab} (h0 : TWF T0) (h1 : TWF T1) (f : Nat) : ∀ (k : Nat) (s : Bst), BI s → BI (bOut T0 T1 f k s) := by
  induction f with
  | zero => intro k s h; exact h
  | succ f ih =>
    intro k s h
    unfold bOut
    split
    · next hk => exact ih (k + 1) _ (BI.inn h0 h1 h hk 4 (Nat.le_refl 4)).1
    · exact h
theorem BI.bfs {T0 T1 : Tab} (h0 : TWF T0) (h1 : TWF T1) : BI (bfs T0 T1) := BI.out h0 h1 257 0 _ (BI.init h0 h1)
theorem out_n {T0 T1 : Tab} (h0 : TWF T0) (h1 : TWF T1) (f : Nat) : ∀ (k : Nat) (s : Bst), BI s → bn s ≤ bn (bOut T0 T1 f k s) := by
  induction f with
  | zero => intro k s h; exact Nat.le_refl _
  | succ f ih =>
    intro k s h
    unfold bOut
    split
    · next hk =>
      obtain ⟨a, b⟩ := BI.inn h0 h1 h hk 4 (Nat.le_refl 4)
      exact Nat.le_trans b (ih (k + 1) _ a)
    · exact Nat.le_refl _
theorem bfs_pos {T0 T1 : Tab} (h0 : TWF T0) (h1 : TWF T1) : 0 < bn (bfs T0 T1) := Nat.lt_of_lt_of_le (Nat.zero_lt_one : 0 < bn (bInit T0 T1)) (out_n h0 h1 257 0 _ (BI.init h0 h1))
/-- inputs by which the outputs differ at a pair -/
def bdif (T0 T1 : Tab) (s : Bst) (p : Nat) : Nat := T0.2.1 (bz s p) ^^^ T1.2.1 (bo s p)
theorem bdif_lt {T0 T1 : Tab} (h0 : TWF T0) (h1 : TWF T1) (s : Bst) (p : Nat) : bdif T0 T1 s p < 16 := Nat.xor_lt_two_pow (n := 4) (h0.2.1 _) (h1.2.1 _)
/-- the first pair from p on (f of them looked at) with a difference -/
def bap (T0 T1 : Tab) (s : Bst) : Nat → Nat → Nat
  | 0, p => p
  | f + 1, p => if p < bn s then (if bdif T0 T1 s p = 0 then bap T0 T1 s f (p + 1) else p) else p
/-- going back from a pair -/
def bback (s : Bst) : Nat → Nat → Nat
  | 0, p => p
  | f + 1, p => bback s f (bah s p)
/-- the inputs in a tick of a pair's first row -/
def bway (s : Bst) (p t : Nat) : Nat := bli s (bback s (btk s p - 1 - t) p)
theorem back_ok {s : Bst} (h : BI s) : ∀ (f p : Nat), p < bn s → f < btk s p → bback s f p < bn s ∧ btk s (bback s f p) = btk s p - f
  | 0, p, hp, _ => ⟨hp, rfl⟩
  | f + 1, p, hp, hf => by
    have h1 := (h.2 p hp).2.2.1
    have h2 := (h.2 p hp).2.2.2.2 (by omega)
    obtain ⟨a, b⟩ := back_ok h f (bah s p) (by omega) (by omega)
    exact ⟨a, by rw [show bback s (f + 1) p = bback s f (bah s p) from rfl, b]; omega⟩
end
section
/-! THE CLASS'S WORLD: circuits (zero, one, trial, the reader's) by k, step tables by t, all else by number -/
abbrev cC (k : Fin 4) (o : Nat) : Cc := .inr (.inl (k, o))
abbrev cT (t : Fin 3) (o : Nat) : Cc := .inr (.inr (t, o))
abbrev cX (n : Nat) : Cc := .inl n
def shC (k : Fin 4) : List Sh := [.inr (1, [none, none, some (cC k 1), some (cC k 3)]), .inr (6, [some (cC k 2)]), .inl (false, 4), .inr (6, [some (cC k 4)]), .inl (false, 8)]
def shTb (t : Fin 3) : List Sh := [.inr (7, [some (cT t 1), some (cT t 3), none]), .inr (6, [some (cT t 2)]), .inl (false, 64), .inr (6, [some (cT t 4)]), .inl (false, 16)]
def shX : List Sh := [
  .inr (9, [some (cC 0 0), some (cC 1 0), some (cC 2 0), some (cT 0 0), some (cT 1 0), some (cT 2 0), some (cX 1), some (cX 14), some (cX 19), some (cX 22), some (cX 25), some (cX 28)]),
  .inr (4, [some (cX 2), some (cX 4), some (cX 6), some (cX 8), some (cX 10), some (cX 12), none]),
  .inr (6, [some (cX 3)]), .inl (false, 256), .inr (6, [some (cX 5)]), .inl (false, 256), .inr (6, [some (cX 7)]), .inl (false, 256), .inr (6, [some (cX 9)]), .inl (false, 256), .inr (6, [some (cX 11)]), .inl (false, 256), .inr (6, [some (cX 13)]), .inl (false, 256),
  .inr (3, [some (cX 15), some (cX 17), none]), .inr (6, [some (cX 16)]), .inl (false, 8192), .inr (6, [some (cX 18)]), .inl (false, 8192),
  .inr (0, [some (cX 20)]), .inr (6, [some (cX 21)]), .inl (false, 16),
  .inr (2, [some (cX 23), none]), .inr (6, [some (cX 24)]), .inl (false, 112),
  .inr (8, [some (cX 26), none]), .inr (6, [some (cX 27)]), .inl (false, 80),
  .inr (5, [some (cC 3 0), none, none, none])]
def shT : Cc → Option Sh
  | .inl n => shX[n]?
  | .inr (.inl (k, o)) => (shC k)[o]?
  | .inr (.inr (t, o)) => (shTb t)[o]?
def csT : List Cc := (List.range 29).map cX ++ ((List.range 5).flatMap (fun o => [cC 0 o, cC 1 o, cC 2 o, cC 3 o]) ++ (List.range 5).flatMap (fun o => [cT 0 o, cT 1 o, cT 2 o]))
abbrev ST : Sy := (shT, csT)
theorem ST_ok : SyOk ST := by
  refine ⟨by decide +kernel, ?_⟩
  rintro (n | ⟨k, o⟩ | ⟨t, o⟩) h
  · have hn : n < 29 := by
      rcases Nat.lt_or_ge n 29 with h1 | h1
      · exact h1
      · exact absurd (List.getElem?_eq_none (by simpa [shX] using h1)) h
    exact List.mem_append_left _ (List.mem_map.mpr ⟨n, List.mem_range.mpr hn, rfl⟩)
  · have hn : o < 5 := by
      rcases Nat.lt_or_ge o 5 with h1 | h1
      · exact h1
      · exact absurd (List.getElem?_eq_none (by simpa [shC] using h1)) h
    refine List.mem_append_right _ (List.mem_append_left _ (List.mem_flatMap.mpr ⟨o, List.mem_range.mpr hn, ?_⟩))
    match k with
    | 0 => simp
    | 1 => simp
    | 2 => simp
    | 3 => simp
  · have hn : o < 5 := by
      rcases Nat.lt_or_ge o 5 with h1 | h1
      · exact h1
      · exact absurd (List.getElem?_eq_none (by simpa [shTb] using h1)) h
    refine List.mem_append_right _ (List.mem_append_right _ (List.mem_flatMap.mpr ⟨o, List.mem_range.mpr hn, ?_⟩))
    match t with
    | 0 => simp
    | 1 => simp
    | 2 => simp
/-- a row: its object r, its cells a, how many -/
def IsRow (r a : Cc) (n : Nat) : Prop := shT r = some (.inr (6, [some a])) ∧ shT a = some (.inl (false, n)) ∧ n < 65536
/-- Row.get within -/
theorem sem_get {r a : Cc} {n : Nat} (hr : IsRow r a n) (M : Mem) {p : Int} (h : 0 ≤ p ∧ p < n) : Sem ST miX6_get [.inr r, .inl p] M (Ri (M a p.toNat) M) := by
  obtain ⟨h1, h2, h3⟩ := hr
  refine Sem.of (by decide) ST_ok (Nat.le_of_ble_eq_true rfl) (ls0 := [some (.inr r), some (.inl p)]) rfl ?_
  refine ev_iload_n (np := 1) dX6_get_0 rfl rfl ?_
  refine ev_if_lt (tgt := 22) (np := 4) dX6_get_1 (by decide) rfl (by omega) (fun h => absurd h (by omega)) (fun _ => ?_)
  refine ev_iload_n (np := 5) dX6_get_4 rfl rfl ?_
  refine ev_aload_n (np := 6) dX6_get_5 rfl rfl ?_
  refine ev_getR (np := 9) sX6_get_6 h1 rfl rfl ?_
  refine ev_alen (np := 10) dX6_get_9 h2 rfl ?_
  refine ev_icmp_ge (tgt := 22) (np := 13) dX6_get_10 (by decide) rfl (by omega) (by omega) (fun h => absurd h (by omega)) (fun _ => ?_)
  refine ev_aload_n (np := 14) dX6_get_13 rfl rfl ?_
  refine ev_getR (np := 17) sX6_get_14 h1 rfl rfl ?_
  refine ev_iload_n (np := 18) dX6_get_17 rfl rfl ?_
  refine ev_iaload (np := 19) dX6_get_18 h2 (by omega) (by omega) rfl ?_
  refine ev_goto (np := 23) dX6_get_19 (by decide) ?_
  refine ev_iret dX6_get_23 rfl ?_
  exact ⟨rfl, rfl⟩
/-- Row.set within -/
theorem sem_set {r a : Cc} {n : Nat} (hr : IsRow r a n) (M : Mem) {p v : Int} (h : 0 ≤ p ∧ p < n) : Sem ST miX6_set [.inr r, .inl p, .inl v] M (Rv (updM M a p.toNat v)) := by
  obtain ⟨h1, h2, h3⟩ := hr
  refine Sem.of (by decide) ST_ok (Nat.le_of_ble_eq_true rfl) (ls0 := [some (.inr r), some (.inl p), some (.inl v)]) rfl ?_
  refine ev_iload_n (np := 1) dX6_set_0 rfl rfl ?_
  refine ev_if_lt (tgt := 20) (np := 4) dX6_set_1 (by decide) rfl (by omega) (fun h => absurd h (by omega)) (fun _ => ?_)
  refine ev_iload_n (np := 5) dX6_set_4 rfl rfl ?_
  refine ev_aload_n (np := 6) dX6_set_5 rfl rfl ?_
  refine ev_getR (np := 9) sX6_set_6 h1 rfl rfl ?_
  refine ev_alen (np := 10) dX6_set_9 h2 rfl ?_
  refine ev_icmp_ge (tgt := 20) (np := 13) dX6_set_10 (by decide) rfl (by omega) (by omega) (fun h => absurd h (by omega)) (fun _ => ?_)
  refine ev_aload_n (np := 14) dX6_set_13 rfl rfl ?_
  refine ev_getR (np := 17) sX6_set_14 h1 rfl rfl ?_
  refine ev_iload_n (np := 18) dX6_set_17 rfl rfl ?_
  refine ev_iload_n (np := 19) dX6_set_18 rfl rfl ?_
  refine ev_iastore (np := 20) dX6_set_19 h2 (by omega) (by omega) rfl ?_
  refine ev_vret dX6_set_20 rfl ?_
  exact ⟨rfl, rfl⟩
end
section
/-! THE CLASS'S STATIC FUNCTIONS -/
def fillM (M : Mem) (a : Cc) (i n v : Int) : Mem := fun c j => if c = a ∧ i ≤ (j : Int) ∧ (j : Int) < n then v else M c j
theorem fill_loop {a : Cc} {n : Nat} (ha : shT a = some (.inl (false, n))) (hn : n < 65536) (v : Int) : ∀ (m : Nat) (i : Int) (M : Mem), 0 ≤ i → i + m = n → Ev ST miJ7_fill_53178 5 [some (.inr a), some (.inl v), some (.inl i), some (.inl (n : Int))] [] M (Rv (fillM M a i n v)) := by
  intro m
  induction m with
  | zero =>
    intro i M h0 h1
    refine ev_iload_n (np := 6) dJ7_fill_53178_5 rfl rfl ?_
    refine ev_iload_n (np := 7) dJ7_fill_53178_6 rfl rfl ?_
    refine ev_icmp_ge (tgt := 20) (np := 10) dJ7_fill_53178_7 (by decide) rfl (by omega) (by omega) (fun _ => ?_) (fun h => absurd (by omega) h)
    refine ev_vret dJ7_fill_53178_20 rfl ?_
    refine ⟨rfl, ?_⟩
    funext c j
    unfold fillM
    rw [if_neg (by omega)]
  | succ m ih =>
    intro i M h0 h1
    refine ev_iload_n (np := 6) dJ7_fill_53178_5 rfl rfl ?_
    refine ev_iload_n (np := 7) dJ7_fill_53178_6 rfl rfl ?_
    refine ev_icmp_ge (tgt := 20) (np := 10) dJ7_fill_53178_7 (by decide) rfl (by omega) (by omega) (fun h => absurd h (by omega)) (fun _ => ?_)
    refine ev_aload_n (np := 11) dJ7_fill_53178_10 rfl rfl ?_
    refine ev_iload_n (np := 12) dJ7_fill_53178_11 rfl rfl ?_
    refine ev_iload_n (np := 13) dJ7_fill_53178_12 rfl rfl ?_
    refine ev_iastore (np := 14) dJ7_fill_53178_13 ha (by omega) (by omega) rfl ?_
    refine ev_iinc (np := 17) dJ7_fill_53178_14 rfl (by decide) rfl ?_
    refine ev_goto (np := 5) dJ7_fill_53178_17 (by decide) ?_
    have h := ih (i + 1) (updM M a i.toNat v) (by omega) (by omega)
    have e : fillM (updM M a i.toNat v) a (i + 1) n v = fillM M a i n v := by
      funext c j
      unfold fillM updM
      by_cases hc : c = a
      · by_cases hj : i ≤ (j : Int) ∧ (j : Int) < n
        · by_cases h2 : i + 1 ≤ (j : Int)
          · rw [if_pos ⟨hc, h2, hj.2⟩, if_pos ⟨hc, hj⟩]
          · rw [if_neg (by omega), if_pos ⟨hc, by omega⟩, if_pos ⟨hc, hj⟩]
        · rw [if_neg (by omega), if_neg (by omega), if_neg (by omega)]
      · rw [if_neg (by simp [hc]), if_neg (by simp [hc]), if_neg (by simp [hc])]
    rw [e] at h
    exact h
theorem sem_fill {a : Cc} {n : Nat} (ha : shT a = some (.inl (false, n))) (hn : n < 65536) (v : Int) (M : Mem) : Sem ST miJ7_fill_53178 [.inr a, .inl v] M (Rv (fillM M a 0 n v)) := by
  refine Sem.of (by decide) ST_ok (Nat.le_of_ble_eq_true rfl) (ls0 := [some (.inr a), some (.inl v), none, none]) rfl ?_
  refine ev_iconst (np := 1) dJ7_fill_53178_0 rfl ?_
  refine ev_istore_n (np := 2) dJ7_fill_53178_1 (by decide) rfl ?_
  refine ev_aload_n (np := 3) dJ7_fill_53178_2 rfl rfl ?_
  refine ev_alen (np := 4) dJ7_fill_53178_3 ha rfl ?_
  refine ev_istore_n (np := 5) dJ7_fill_53178_4 (by decide) rfl ?_
  exact fill_loop ha hn v n 0 M (by omega) (by omega)
theorem sem_clear {r a : Cc} {n : Nat} (hr : IsRow r a n) (M : Mem) : Sem ST miX6_clear [.inr r] M (Rv (fillM M a 0 n 0)) := by
  obtain ⟨h1, h2, h3⟩ := hr
  refine Sem.of (by decide) ST_ok (Nat.le_of_ble_eq_true rfl) (ls0 := [some (.inr r)]) rfl ?_
  refine ev_aload_n (np := 1) dX6_clear_0 rfl rfl ?_
  refine ev_getR (np := 4) sX6_clear_1 h1 rfl rfl ?_
  refine ev_iconst (np := 5) dX6_clear_4 rfl ?_
  refine ev_Sv2 (np := 8) moJ7_fill_53178 sX6_clear_5 (sem_fill h2 h3 0 M) (Nat.le_of_ble_eq_true rfl) rfl ?_
  refine ev_vret dX6_clear_8 rfl ?_
  exact ⟨rfl, rfl⟩
theorem sem_within_t (M : Mem) {x a b : Int} (hx : Rng x) (ha : Rng a) (hb : Rng b) (h : a ≤ x ∧ x ≤ b) : Sem ST miX9_isWithin [.inl x, .inl a, .inl b] M (Ri 1 M) := by
  refine Sem.of (by decide) ST_ok (Nat.le_of_ble_eq_true rfl) (ls0 := [some (.inl x), some (.inl a), some (.inl b)]) rfl ?_
  refine ev_iload_n (np := 1) dX9_isWithin_0 rfl rfl ?_
  refine ev_iload_n (np := 2) dX9_isWithin_1 rfl rfl ?_
  refine ev_icmp_lt (tgt := 14) (np := 5) dX9_isWithin_2 (by decide) rfl (by omega) (by omega) (fun h => absurd h (by omega)) (fun _ => ?_)
  refine ev_iload_n (np := 6) dX9_isWithin_5 rfl rfl ?_
  refine ev_iload_n (np := 7) dX9_isWithin_6 rfl rfl ?_
  refine ev_icmp_gt (tgt := 14) (np := 10) dX9_isWithin_7 (by decide) rfl (by omega) (by omega) (fun h => absurd h (by omega)) (fun _ => ?_)
  refine ev_iconst (np := 11) dX9_isWithin_10 rfl ?_
  refine ev_goto (np := 15) dX9_isWithin_11 (by decide) ?_
  refine ev_zret dX9_isWithin_15 rfl (by first | exact Or.inl rfl | exact Or.inr rfl | omega) ?_
  exact ⟨rfl, rfl⟩
theorem sem_within_f (M : Mem) {x a b : Int} (hx : Rng x) (ha : Rng a) (hb : Rng b) (h : ¬ (a ≤ x ∧ x ≤ b)) : Sem ST miX9_isWithin [.inl x, .inl a, .inl b] M (Ri 0 M) := by
  refine Sem.of (by decide) ST_ok (Nat.le_of_ble_eq_true rfl) (ls0 := [some (.inl x), some (.inl a), some (.inl b)]) rfl ?_
  refine ev_iload_n (np := 1) dX9_isWithin_0 rfl rfl ?_
  refine ev_iload_n (np := 2) dX9_isWithin_1 rfl rfl ?_
  refine ev_icmp_lt (tgt := 14) (np := 5) dX9_isWithin_2 (by decide) rfl (by omega) (by omega) (fun h1 => ?_) (fun h1 => ?_)
  · refine ev_iconst (np := 15) dX9_isWithin_14 rfl ?_
    refine ev_zret dX9_isWithin_15 rfl (by first | exact Or.inl rfl | exact Or.inr rfl | omega) ?_
    exact ⟨rfl, rfl⟩
  · refine ev_iload_n (np := 6) dX9_isWithin_5 rfl rfl ?_
    refine ev_iload_n (np := 7) dX9_isWithin_6 rfl rfl ?_
    refine ev_icmp_gt (tgt := 14) (np := 10) dX9_isWithin_7 (by decide) rfl (by omega) (by omega) (fun _ => ?_) (fun h => absurd (by omega) h)
    refine ev_iconst (np := 15) dX9_isWithin_14 rfl ?_
    refine ev_zret dX9_isWithin_15 rfl (by first | exact Or.inl rfl | exact Or.inr rfl | omega) ?_
    exact ⟨rfl, rfl⟩
/-- the four small tests -/
theorem sem_isC_t (M : Mem) {x : Int} (hx : Rng x) (h : 0 ≤ x ∧ x ≤ 1) : Sem ST miX9_isCircuit [.inl x] M (Ri 1 M) := by
  refine Sem.of (by decide) ST_ok (Nat.le_of_ble_eq_true rfl) (ls0 := [some (.inl x)]) rfl ?_
  refine ev_iload_n (np := 1) dX9_isCircuit_0 rfl rfl ?_
  refine ev_iconst (np := 2) dX9_isCircuit_1 rfl ?_
  refine ev_iconst (np := 3) dX9_isCircuit_2 rfl ?_
  refine ev_Si3 (np := 6) moX9_isWithin sX9_isCircuit_3 (sem_within_t M hx (by omega) (by omega) h) (Nat.le_of_ble_eq_true rfl) rfl ?_
  refine ev_zret dX9_isCircuit_6 rfl (by first | exact Or.inl rfl | exact Or.inr rfl | omega) ?_
  exact ⟨rfl, rfl⟩
theorem sem_isC_f (M : Mem) {x : Int} (hx : Rng x) (h : ¬ (0 ≤ x ∧ x ≤ 1)) : Sem ST miX9_isCircuit [.inl x] M (Ri 0 M) := by
  refine Sem.of (by decide) ST_ok (Nat.le_of_ble_eq_true rfl) (ls0 := [some (.inl x)]) rfl ?_
  refine ev_iload_n (np := 1) dX9_isCircuit_0 rfl rfl ?_
  refine ev_iconst (np := 2) dX9_isCircuit_1 rfl ?_
  refine ev_iconst (np := 3) dX9_isCircuit_2 rfl ?_
  refine ev_Si3 (np := 6) moX9_isWithin sX9_isCircuit_3 (sem_within_f M hx (by omega) (by omega) h) (Nat.le_of_ble_eq_true rfl) rfl ?_
  refine ev_zret dX9_isCircuit_6 rfl (by first | exact Or.inl rfl | exact Or.inr rfl | omega) ?_
  exact ⟨rfl, rfl⟩
theorem sem_isReg_t (M : Mem) {x : Int} (hx : Rng x) (h : 0 ≤ x ∧ x ≤ 3) : Sem ST miX9_isRegister [.inl x] M (Ri 1 M) := by
  refine Sem.of (by decide) ST_ok (Nat.le_of_ble_eq_true rfl) (ls0 := [some (.inl x)]) rfl ?_
  refine ev_iload_n (np := 1) dX9_isRegister_0 rfl rfl ?_
  refine ev_iconst (np := 2) dX9_isRegister_1 rfl ?_
  refine ev_iconst (np := 3) dX9_isRegister_2 rfl ?_
  refine ev_Si3 (np := 6) moX9_isWithin sX9_isRegister_3 (sem_within_t M hx (by omega) (by omega) h) (Nat.le_of_ble_eq_true rfl) rfl ?_
  refine ev_zret dX9_isRegister_6 rfl (by first | exact Or.inl rfl | exact Or.inr rfl | omega) ?_
  exact ⟨rfl, rfl⟩
theorem sem_isReg_f (M : Mem) {x : Int} (hx : Rng x) (h : ¬ (0 ≤ x ∧ x ≤ 3)) : Sem ST miX9_isRegister [.inl x] M (Ri 0 M) := by
  refine Sem.of (by decide) ST_ok (Nat.le_of_ble_eq_true rfl) (ls0 := [some (.inl x)]) rfl ?_
  refine ev_iload_n (np := 1) dX9_isRegister_0 rfl rfl ?_
  refine ev_iconst (np := 2) dX9_isRegister_1 rfl ?_
  refine ev_iconst (np := 3) dX9_isRegister_2 rfl ?_
  refine ev_Si3 (np := 6) moX9_isWithin sX9_isRegister_3 (sem_within_f M hx (by omega) (by omega) h) (Nat.le_of_ble_eq_true rfl) rfl ?_
  refine ev_zret dX9_isRegister_6 rfl (by first | exact Or.inl rfl | exact Or.inr rfl | omega) ?_
  exact ⟨rfl, rfl⟩
theorem sem_isWire_t (M : Mem) {x : Int} (hx : Rng x) (h : 0 ≤ x ∧ x ≤ 15) : Sem ST miX9_isWire [.inl x] M (Ri 1 M) := by
  refine Sem.of (by decide) ST_ok (Nat.le_of_ble_eq_true rfl) (ls0 := [some (.inl x)]) rfl ?_
  refine ev_iload_n (np := 1) dX9_isWire_0 rfl rfl ?_
  refine ev_iconst (np := 2) dX9_isWire_1 rfl ?_
  refine ev_bipush (np := 4) dX9_isWire_2 (by decide) rfl ?_
  refine ev_Si3 (np := 7) moX9_isWithin sX9_isWire_4 (sem_within_t M hx (by omega) (by omega) h) (Nat.le_of_ble_eq_true rfl) rfl ?_
  refine ev_zret dX9_isWire_7 rfl (by first | exact Or.inl rfl | exact Or.inr rfl | omega) ?_
  exact ⟨rfl, rfl⟩
theorem sem_isWire_f (M : Mem) {x : Int} (hx : Rng x) (h : ¬ (0 ≤ x ∧ x ≤ 15)) : Sem ST miX9_isWire [.inl x] M (Ri 0 M) := by
  refine Sem.of (by decide) ST_ok (Nat.le_of_ble_eq_true rfl) (ls0 := [some (.inl x)]) rfl ?_
  refine ev_iload_n (np := 1) dX9_isWire_0 rfl rfl ?_
  refine ev_iconst (np := 2) dX9_isWire_1 rfl ?_
  refine ev_bipush (np := 4) dX9_isWire_2 (by decide) rfl ?_
  refine ev_Si3 (np := 7) moX9_isWithin sX9_isWire_4 (sem_within_f M hx (by omega) (by omega) h) (Nat.le_of_ble_eq_true rfl) rfl ?_
  refine ev_zret dX9_isWire_7 rfl (by first | exact Or.inl rfl | exact Or.inr rfl | omega) ?_
  exact ⟨rfl, rfl⟩
theorem sem_isState_t (M : Mem) {x : Int} (hx : Rng x) (h : 0 ≤ x ∧ x ≤ 15) : Sem ST miX9_isState [.inl x] M (Ri 1 M) := by
  refine Sem.of (by decide) ST_ok (Nat.le_of_ble_eq_true rfl) (ls0 := [some (.inl x)]) rfl ?_
  refine ev_iload_n (np := 1) dX9_isState_0 rfl rfl ?_
  refine ev_iconst (np := 2) dX9_isState_1 rfl ?_
  refine ev_bipush (np := 4) dX9_isState_2 (by decide) rfl ?_
  refine ev_Si3 (np := 7) moX9_isWithin sX9_isState_4 (sem_within_t M hx (by omega) (by omega) h) (Nat.le_of_ble_eq_true rfl) rfl ?_
  refine ev_zret dX9_isState_7 rfl (by first | exact Or.inl rfl | exact Or.inr rfl | omega) ?_
  exact ⟨rfl, rfl⟩
theorem sem_isState_f (M : Mem) {x : Int} (hx : Rng x) (h : ¬ (0 ≤ x ∧ x ≤ 15)) : Sem ST miX9_isState [.inl x] M (Ri 0 M) := by
  refine Sem.of (by decide) ST_ok (Nat.le_of_ble_eq_true rfl) (ls0 := [some (.inl x)]) rfl ?_
  refine ev_iload_n (np := 1) dX9_isState_0 rfl rfl ?_
  refine ev_iconst (np := 2) dX9_isState_1 rfl ?_
  refine ev_bipush (np := 4) dX9_isState_2 (by decide) rfl ?_
  refine ev_Si3 (np := 7) moX9_isWithin sX9_isState_4 (sem_within_f M hx (by omega) (by omega) h) (Nat.le_of_ble_eq_true rfl) rfl ?_
  refine ev_zret dX9_isState_7 rfl (by first | exact Or.inl rfl | exact Or.inr rfl | omega) ?_
  exact ⟨rfl, rfl⟩
theorem sem_areInp_t (M : Mem) {x : Int} (hx : Rng x) (h : 0 ≤ x ∧ x ≤ 3) : Sem ST miX9_areInputs [.inl x] M (Ri 1 M) := by
  refine Sem.of (by decide) ST_ok (Nat.le_of_ble_eq_true rfl) (ls0 := [some (.inl x)]) rfl ?_
  refine ev_iload_n (np := 1) dX9_areInputs_0 rfl rfl ?_
  refine ev_iconst (np := 2) dX9_areInputs_1 rfl ?_
  refine ev_iconst (np := 3) dX9_areInputs_2 rfl ?_
  refine ev_Si3 (np := 6) moX9_isWithin sX9_areInputs_3 (sem_within_t M hx (by omega) (by omega) h) (Nat.le_of_ble_eq_true rfl) rfl ?_
  refine ev_zret dX9_areInputs_6 rfl (by first | exact Or.inl rfl | exact Or.inr rfl | omega) ?_
  exact ⟨rfl, rfl⟩
theorem sem_areInp_f (M : Mem) {x : Int} (hx : Rng x) (h : ¬ (0 ≤ x ∧ x ≤ 3)) : Sem ST miX9_areInputs [.inl x] M (Ri 0 M) := by
  refine Sem.of (by decide) ST_ok (Nat.le_of_ble_eq_true rfl) (ls0 := [some (.inl x)]) rfl ?_
  refine ev_iload_n (np := 1) dX9_areInputs_0 rfl rfl ?_
  refine ev_iconst (np := 2) dX9_areInputs_1 rfl ?_
  refine ev_iconst (np := 3) dX9_areInputs_2 rfl ?_
  refine ev_Si3 (np := 6) moX9_isWithin sX9_areInputs_3 (sem_within_f M hx (by omega) (by omega) h) (Nat.le_of_ble_eq_true rfl) rfl ?_
  refine ev_zret dX9_areInputs_6 rfl (by first | exact Or.inl rfl | exact Or.inr rfl | omega) ?_
  exact ⟨rfl, rfl⟩
/-- a wire that a gate may have -/
def Feed (g w : Int) : Prop := (0 ≤ w ∧ w ≤ 6 + g - 1) ∨ w = 14 ∨ w = 15
theorem sem_feed_t (M : Mem) {g w : Int} (hg : 0 ≤ g ∧ g ≤ 8) (hw : Rng w) (h : Feed g w) : Sem ST miX9_mayFeed [.inl g, .inl w] M (Ri 1 M) := by
  refine Sem.of (by decide) ST_ok (Nat.le_of_ble_eq_true rfl) (ls0 := [some (.inl g), some (.inl w)]) rfl ?_
  refine ev_iload_n (np := 1) dX9_mayFeed_0 rfl rfl ?_
  refine ev_iconst (np := 2) dX9_mayFeed_1 rfl ?_
  refine ev_bipush (np := 4) dX9_mayFeed_2 (by decide) rfl ?_
  refine ev_iload_n (np := 5) dX9_mayFeed_4 rfl rfl ?_
  refine ev_iadd (np := 6) dX9_mayFeed_5 rfl ?_
  refine ev_iconst (np := 7) dX9_mayFeed_6 rfl ?_
  refine ev_isub (np := 8) dX9_mayFeed_7 rfl ?_
  by_cases h1 : 0 ≤ w ∧ w ≤ 6 + g - 1
  · refine ev_Si3 (np := 11) moX9_isWithin sX9_mayFeed_8 (sem_within_t M hw (by omega) (by omega) h1) (Nat.le_of_ble_eq_true rfl) rfl ?_
    refine ev_if_ne (tgt := 26) (np := 14) dX9_mayFeed_11 (by decide) rfl (by omega) (fun _ => ?_) (fun h => absurd h (by omega))
    refine ev_iconst (np := 27) dX9_mayFeed_26 rfl ?_
    refine ev_goto (np := 31) dX9_mayFeed_27 (by decide) ?_
    refine ev_zret dX9_mayFeed_31 rfl (by first | exact Or.inl rfl | exact Or.inr rfl | omega) ?_
    exact ⟨rfl, rfl⟩
  · have h2 : w = 14 ∨ w = 15 := h.resolve_left h1
    refine ev_Si3 (np := 11) moX9_isWithin sX9_mayFeed_8 (sem_within_f M hw (by omega) (by omega) h1) (Nat.le_of_ble_eq_true rfl) rfl ?_
    refine ev_if_ne (tgt := 26) (np := 14) dX9_mayFeed_11 (by decide) rfl (by omega) (fun h => absurd (by omega) h) (fun _ => ?_)
    refine ev_iload_n (np := 15) dX9_mayFeed_14 rfl rfl ?_
    refine ev_bipush (np := 17) dX9_mayFeed_15 (by decide) rfl ?_
    refine ev_icmp_eq (tgt := 26) (np := 20) dX9_mayFeed_17 (by decide) rfl (by omega) (by omega) (fun h3 => ?_) (fun h3 => ?_)
    · refine ev_iconst (np := 27) dX9_mayFeed_26 rfl ?_
      refine ev_goto (np := 31) dX9_mayFeed_27 (by decide) ?_
      refine ev_zret dX9_mayFeed_31 rfl (by first | exact Or.inl rfl | exact Or.inr rfl | omega) ?_
      exact ⟨rfl, rfl⟩
    · refine ev_iload_n (np := 21) dX9_mayFeed_20 rfl rfl ?_
      refine ev_bipush (np := 23) dX9_mayFeed_21 (by decide) rfl ?_
      refine ev_icmp_ne (tgt := 30) (np := 26) dX9_mayFeed_23 (by decide) rfl (by omega) (by omega) (fun h => absurd (by omega) h) (fun _ => ?_)
      refine ev_iconst (np := 27) dX9_mayFeed_26 rfl ?_
      refine ev_goto (np := 31) dX9_mayFeed_27 (by decide) ?_
      refine ev_zret dX9_mayFeed_31 rfl (by first | exact Or.inl rfl | exact Or.inr rfl | omega) ?_
      exact ⟨rfl, rfl⟩
theorem sem_feed_f (M : Mem) {g w : Int} (hg : 0 ≤ g ∧ g ≤ 8) (hw : Rng w) (h : ¬ Feed g w) : Sem ST miX9_mayFeed [.inl g, .inl w] M (Ri 0 M) := by
  unfold Feed at h
  refine Sem.of (by decide) ST_ok (Nat.le_of_ble_eq_true rfl) (ls0 := [some (.inl g), some (.inl w)]) rfl ?_
  refine ev_iload_n (np := 1) dX9_mayFeed_0 rfl rfl ?_
  refine ev_iconst (np := 2) dX9_mayFeed_1 rfl ?_
  refine ev_bipush (np := 4) dX9_mayFeed_2 (by decide) rfl ?_
  refine ev_iload_n (np := 5) dX9_mayFeed_4 rfl rfl ?_
  refine ev_iadd (np := 6) dX9_mayFeed_5 rfl ?_
  refine ev_iconst (np := 7) dX9_mayFeed_6 rfl ?_
  refine ev_isub (np := 8) dX9_mayFeed_7 rfl ?_
  refine ev_Si3 (np := 11) moX9_isWithin sX9_mayFeed_8 (sem_within_f M hw (by omega) (by omega) (by omega)) (Nat.le_of_ble_eq_true rfl) rfl ?_
  refine ev_if_ne (tgt := 26) (np := 14) dX9_mayFeed_11 (by decide) rfl (by omega) (fun h => absurd (by omega) h) (fun _ => ?_)
  refine ev_iload_n (np := 15) dX9_mayFeed_14 rfl rfl ?_
  refine ev_bipush (np := 17) dX9_mayFeed_15 (by decide) rfl ?_
  refine ev_icmp_eq (tgt := 26) (np := 20) dX9_mayFeed_17 (by decide) rfl (by omega) (by omega) (fun h => absurd h (by omega)) (fun _ => ?_)
  refine ev_iload_n (np := 21) dX9_mayFeed_20 rfl rfl ?_
  refine ev_bipush (np := 23) dX9_mayFeed_21 (by decide) rfl ?_
  refine ev_icmp_ne (tgt := 30) (np := 26) dX9_mayFeed_23 (by decide) rfl (by omega) (by omega) (fun _ => ?_) (fun h => absurd h (by omega))
  refine ev_iconst (np := 31) dX9_mayFeed_30 rfl ?_
  refine ev_zret dX9_mayFeed_31 rfl (by first | exact Or.inl rfl | exact Or.inr rfl | omega) ?_
  exact ⟨rfl, rfl⟩
theorem sem_bit (M : Mem) {b p : Nat} (hb : b < 2147483648) (hp : p < 32) : Sem ST miX9_bitOf [.inl (b : Int), .inl (p : Int)] M (Ri (bt b p : Nat) M) := by
  refine Sem.of (by decide) ST_ok (Nat.le_of_ble_eq_true rfl) (ls0 := [some (.inl (b : Int)), some (.inl (p : Int))]) rfl ?_
  refine ev_iload_n (np := 1) dX9_bitOf_0 rfl rfl ?_
  refine ev_iload_n (np := 2) dX9_bitOf_1 rfl rfl ?_
  refine ev_iushr (np := 3) dX9_bitOf_2 (by omega) (by omega) rfl ?_
  refine ev_iconst (np := 4) dX9_bitOf_3 rfl ?_
  refine ev_iandm 1 (np := 5) dX9_bitOf_4 (by omega) rfl rfl ?_
  have e : (b : Int) / ((2 ^ (p : Int).toNat : Nat) : Int) % ((2 ^ 1 : Nat) : Int) = ((bt b p : Nat) : Int) := by
    rw [Int.toNat_natCast]
    unfold bt
    norm_cast
  rw [e]
  refine ev_iret dX9_bitOf_5 rfl ?_
  exact ⟨rfl, rfl⟩
/-- the least bit of a set of four, 3 if none of the lesser ones is in it -/
def least4 (s : Nat) : Nat := if bt s 0 = 1 then 0 else if bt s 1 = 1 then 1 else if bt s 2 = 1 then 2 else 3
theorem sem_least (M : Mem) {s : Nat} (hs : s < 65536) : Sem ST miX9_leastOf [.inl (s : Int)] M (Ri (least4 s : Nat) M) := by
  refine Sem.of (by decide) ST_ok (Nat.le_of_ble_eq_true rfl) (ls0 := [some (.inl (s : Int)), none]) rfl ?_
  refine ev_iconst (np := 1) dX9_leastOf_0 rfl ?_
  refine ev_istore_n (np := 2) dX9_leastOf_1 (by decide) rfl ?_
  refine ev_iload_n (np := 3) dX9_leastOf_2 rfl rfl ?_
  refine ev_iconst (np := 4) dX9_leastOf_3 rfl ?_
  refine ev_icmp_ge (tgt := 21) (np := 7) dX9_leastOf_4 (by decide) rfl (by omega) (by omega) (fun h => absurd h (by omega)) (fun _ => ?_)
  refine ev_iload_n (np := 8) dX9_leastOf_7 rfl rfl ?_
  refine ev_iload_n (np := 9) dX9_leastOf_8 rfl rfl ?_
  refine ev_Si2 (np := 12) moX9_bitOf sX9_leastOf_9 (sem_bit M (p := 0) (by omega) (by omega)) (Nat.le_of_ble_eq_true rfl) rfl ?_
  have := bt_lt s 0
  have := bt_lt s 1
  have := bt_lt s 2
  refine ev_if_ne (tgt := 21) (np := 15) dX9_leastOf_12 (by decide) rfl (by omega) (fun h0 => ?_) (fun h0 => ?_)
  · refine ev_iload_n (np := 22) dX9_leastOf_21 rfl rfl ?_
    refine ev_iret dX9_leastOf_22 rfl ?_
    exact ⟨by rw [least4, if_pos (by omega)]; rfl, rfl⟩
  refine ev_iinc (np := 18) dX9_leastOf_15 rfl (by decide) rfl ?_
  refine ev_goto (np := 2) dX9_leastOf_18 (by decide) ?_
  refine ev_iload_n (np := 3) dX9_leastOf_2 rfl rfl ?_
  refine ev_iconst (np := 4) dX9_leastOf_3 rfl ?_
  refine ev_icmp_ge (tgt := 21) (np := 7) dX9_leastOf_4 (by decide) rfl (by omega) (by omega) (fun h => absurd h (by omega)) (fun _ => ?_)
  refine ev_iload_n (np := 8) dX9_leastOf_7 rfl rfl ?_
  refine ev_iload_n (np := 9) dX9_leastOf_8 rfl rfl ?_
  refine ev_Si2 (np := 12) moX9_bitOf sX9_leastOf_9 (sem_bit M (p := 1) (by omega) (by omega)) (Nat.le_of_ble_eq_true rfl) rfl ?_
  refine ev_if_ne (tgt := 21) (np := 15) dX9_leastOf_12 (by decide) rfl (by omega) (fun h1 => ?_) (fun h1 => ?_)
  · refine ev_iload_n (np := 22) dX9_leastOf_21 rfl rfl ?_
    refine ev_iret dX9_leastOf_22 rfl ?_
    exact ⟨by rw [least4, if_neg (by omega), if_pos (by omega)]; rfl, rfl⟩
  refine ev_iinc (np := 18) dX9_leastOf_15 rfl (by decide) rfl ?_
  refine ev_goto (np := 2) dX9_leastOf_18 (by decide) ?_
  refine ev_iload_n (np := 3) dX9_leastOf_2 rfl rfl ?_
  refine ev_iconst (np := 4) dX9_leastOf_3 rfl ?_
  refine ev_icmp_ge (tgt := 21) (np := 7) dX9_leastOf_4 (by decide) rfl (by omega) (by omega) (fun h => absurd h (by omega)) (fun _ => ?_)
  refine ev_iload_n (np := 8) dX9_leastOf_7 rfl rfl ?_
  refine ev_iload_n (np := 9) dX9_leastOf_8 rfl rfl ?_
  refine ev_Si2 (np := 12) moX9_bitOf sX9_leastOf_9 (sem_bit M (p := 2) (by omega) (by omega)) (Nat.le_of_ble_eq_true rfl) rfl ?_
  refine ev_if_ne (tgt := 21) (np := 15) dX9_leastOf_12 (by decide) rfl (by omega) (fun h2 => ?_) (fun h2 => ?_)
  · refine ev_iload_n (np := 22) dX9_leastOf_21 rfl rfl ?_
    refine ev_iret dX9_leastOf_22 rfl ?_
    exact ⟨by rw [least4, if_neg (by omega), if_neg (by omega), if_pos (by omega)]; rfl, rfl⟩
  refine ev_iinc (np := 18) dX9_leastOf_15 rfl (by decide) rfl ?_
  refine ev_goto (np := 2) dX9_leastOf_18 (by decide) ?_
  refine ev_iload_n (np := 3) dX9_leastOf_2 rfl rfl ?_
  refine ev_iconst (np := 4) dX9_leastOf_3 rfl ?_
  refine ev_icmp_ge (tgt := 21) (np := 7) dX9_leastOf_4 (by decide) rfl (by omega) (by omega) (fun _ => ?_) (fun h => absurd (by omega) h)
  refine ev_iload_n (np := 22) dX9_leastOf_21 rfl rfl ?_
  refine ev_iret dX9_leastOf_22 rfl ?_
  exact ⟨by rw [least4, if_neg (by omega), if_neg (by omega), if_neg (by omega)]; rfl, rfl⟩
/-- the bits of a float of n sixteenths -/
def flt (n : Nat) : Nat := if n = 0 then 0 else ((123 + Nat.log2 n) * 8388608) ||| ((n ^^^ 2 ^ Nat.log2 n) * 2 ^ (23 - Nat.log2 n))
theorem flt_ok : ∀ n, n < 17 → ∀ h, h < 5 → 1 ≤ n / 2 ^ h → (h = 4 ∨ n / 2 ^ (h + 1) = 0) → ((127 + h - 4) * 8388608) ||| ((n ^^^ 2 ^ h) * 2 ^ (23 - h)) = flt n := by decide +kernel
theorem flt_loop (M : Mem) {n : Nat} (hn : n < 17) : ∀ (m h : Nat), h + m = 4 → 1 ≤ n / 2 ^ h → Ev ST miX9_floatBitsOfSixteenths 8 [some (.inl (n : Int)), some (.inl (h : Int)), none, none] [] M (Ri (flt n : Nat) M) := by
  have fin : ∀ h : Nat, h < 5 → 1 ≤ n / 2 ^ h → (h = 4 ∨ n / 2 ^ (h + 1) = 0) → Ev ST miX9_floatBitsOfSixteenths 27 [some (.inl (n : Int)), some (.inl (h : Int)), none, none] [] M (Ri (flt n : Nat) M) := by
    intro h h1 h2 h3
    refine ev_bipush (np := 29) dX9_floatBitsOfSixteenths_27 (by decide) rfl ?_
    refine ev_iload_n (np := 30) dX9_floatBitsOfSixteenths_29 rfl rfl ?_
    refine ev_iadd (np := 31) dX9_floatBitsOfSixteenths_30 rfl ?_
    refine ev_iconst (np := 32) dX9_floatBitsOfSixteenths_31 rfl ?_
    refine ev_isub (np := 33) dX9_floatBitsOfSixteenths_32 rfl ?_
    refine ev_istore_n (np := 34) dX9_floatBitsOfSixteenths_33 (by decide) rfl ?_
    refine ev_iload_n (np := 35) dX9_floatBitsOfSixteenths_34 rfl rfl ?_
    refine ev_iconst (np := 36) dX9_floatBitsOfSixteenths_35 rfl ?_
    refine ev_iload_n (np := 37) dX9_floatBitsOfSixteenths_36 rfl rfl ?_
    refine ev_ishl (np := 38) dX9_floatBitsOfSixteenths_37 (by omega) rfl ?_
    have e1 : (1 : Int) * ((2 ^ (h : Int).toNat : Nat) : Int) = ((2 ^ h : Nat) : Int) := by rw [Int.toNat_natCast, Int.one_mul]
    rw [e1]
    refine ev_ixor (np := 39) dX9_floatBitsOfSixteenths_38 (Int.natCast_nonneg _) (Int.natCast_nonneg _) rfl ?_
    refine ev_bipush (np := 41) dX9_floatBitsOfSixteenths_39 (by decide) rfl ?_
    refine ev_iload_n (np := 42) dX9_floatBitsOfSixteenths_41 rfl rfl ?_
    refine ev_isub (np := 43) dX9_floatBitsOfSixteenths_42 rfl ?_
    refine ev_ishl (np := 44) dX9_floatBitsOfSixteenths_43 (by omega) rfl ?_
    have hb : (n ^^^ 2 ^ h) < 2 ^ 5 := Nat.xor_lt_two_pow (by omega) (Nat.pow_lt_pow_right (by decide) h1)
    have e2 : (((n : Int).toNat ^^^ ((2 ^ h : Nat) : Int).toNat : Nat) : Int) * ((2 ^ ((23 : Int) - (h : Int)).toNat : Nat) : Int) = (((n ^^^ 2 ^ h) * 2 ^ (23 - h) : Nat) : Int) := by
      rw [Int.toNat_natCast, Int.toNat_natCast, show ((23 : Int) - (h : Int)).toNat = 23 - h by omega]
      norm_cast
    rw [e2]
    refine ev_istore_n (np := 45) dX9_floatBitsOfSixteenths_44 (by decide) rfl ?_
    refine ev_iload_n (np := 46) dX9_floatBitsOfSixteenths_45 rfl rfl ?_
    refine ev_bipush (np := 48) dX9_floatBitsOfSixteenths_46 (by decide) rfl ?_
    refine ev_ishl (np := 49) dX9_floatBitsOfSixteenths_48 (by omega) rfl ?_
    refine ev_iload_n (np := 50) dX9_floatBitsOfSixteenths_49 rfl rfl ?_
    have e3 : ((127 : Int) + (h : Int) - 4) * ((2 ^ ((23 : Int)).toNat : Nat) : Int) = (((127 + h - 4) * 8388608 : Nat) : Int) := by
      rw [show ((2 ^ ((23 : Int)).toNat : Nat) : Int) = 8388608 from rfl]
      omega
    rw [e3]
    refine ev_ior (np := 51) dX9_floatBitsOfSixteenths_50 (by omega) (by omega) rfl ?_
    rw [Int.toNat_natCast, Int.toNat_natCast, flt_ok n hn h h1 h2 h3]
    refine ev_iret dX9_floatBitsOfSixteenths_51 rfl ?_
    exact ⟨rfl, rfl⟩
  intro m
  induction m with
  | zero =>
    intro h h0 h1
    refine ev_iload_n (np := 9) dX9_floatBitsOfSixteenths_8 rfl rfl ?_
    refine ev_iconst (np := 10) dX9_floatBitsOfSixteenths_9 rfl ?_
    refine ev_icmp_ge (tgt := 27) (np := 13) dX9_floatBitsOfSixteenths_10 (by decide) rfl (by omega) (by omega) (fun _ => ?_) (fun h => absurd (by omega) h)
    exact fin h (by omega) h1 (Or.inl (by omega))
  | succ m ih =>
    intro h h0 h1
    refine ev_iload_n (np := 9) dX9_floatBitsOfSixteenths_8 rfl rfl ?_
    refine ev_iconst (np := 10) dX9_floatBitsOfSixteenths_9 rfl ?_
    refine ev_icmp_ge (tgt := 27) (np := 13) dX9_floatBitsOfSixteenths_10 (by decide) rfl (by omega) (by omega) (fun h => absurd h (by omega)) (fun _ => ?_)
    refine ev_iload_n (np := 14) dX9_floatBitsOfSixteenths_13 rfl rfl ?_
    refine ev_iload_n (np := 15) dX9_floatBitsOfSixteenths_14 rfl rfl ?_
    refine ev_iconst (np := 16) dX9_floatBitsOfSixteenths_15 rfl ?_
    refine ev_iadd (np := 17) dX9_floatBitsOfSixteenths_16 rfl ?_
    refine ev_ishr (np := 18) dX9_floatBitsOfSixteenths_17 (by omega) (by omega) rfl ?_
    have e : (n : Int) / ((2 ^ ((h : Int) + 1).toNat : Nat) : Int) = ((n / 2 ^ (h + 1) : Nat) : Int) := by
      rw [show ((h : Int) + 1).toNat = h + 1 by omega]
      norm_cast
    rw [e]
    have hd : n / 2 ^ (h + 1) ≤ n := Nat.div_le_self _ _
    have ihn := ih (h + 1) (by omega)
    have finn := fin h (by omega) h1
    clear ih fin
    generalize n / 2 ^ (h + 1) = z at hd ihn finn ⊢
    refine ev_if_eq (tgt := 27) (np := 21) dX9_floatBitsOfSixteenths_18 (by decide) rfl (by omega) (fun h2 => ?_) (fun h2 => ?_)
    · exact finn (Or.inr (by omega))
    · refine ev_iinc (np := 24) dX9_floatBitsOfSixteenths_21 rfl (by decide) rfl ?_
      refine ev_goto (np := 8) dX9_floatBitsOfSixteenths_24 (by decide) ?_
      exact ihn (by omega)
theorem sem_float (M : Mem) {n : Nat} (hn : n < 17) : Sem ST miX9_floatBitsOfSixteenths [.inl (n : Int)] M (Ri (flt n : Nat) M) := by
  refine Sem.of (by decide) ST_ok (Nat.le_of_ble_eq_true rfl) (ls0 := [some (.inl (n : Int)), none, none, none]) rfl ?_
  refine ev_iload_n (np := 1) dX9_floatBitsOfSixteenths_0 rfl rfl ?_
  by_cases h0 : n = 0
  · refine ev_if_gt (tgt := 6) (np := 4) dX9_floatBitsOfSixteenths_1 (by decide) rfl (by omega) (fun h => absurd h (by omega)) (fun _ => ?_)
    refine ev_iconst (np := 5) dX9_floatBitsOfSixteenths_4 rfl ?_
    refine ev_iret dX9_floatBitsOfSixteenths_5 rfl ?_
    exact ⟨by subst h0; rfl, rfl⟩
  · refine ev_if_gt (tgt := 6) (np := 4) dX9_floatBitsOfSixteenths_1 (by decide) rfl (by omega) (fun _ => ?_) (fun h => absurd (by omega) h)
    refine ev_iconst (np := 7) dX9_floatBitsOfSixteenths_6 rfl ?_
    refine ev_istore_n (np := 8) dX9_floatBitsOfSixteenths_7 (by decide) rfl ?_
    exact flt_loop M hn 4 0 rfl (by simp; omega)
theorem sem_at0 (M : Mem) : Sem ST miX9_circuitAt [.inr (cX 0), .inl 0] M (fun v N => v = some (.inr (cC 0 0)) ∧ N = M) := by
  refine Sem.of (by decide) ST_ok (Nat.le_of_ble_eq_true rfl) (ls0 := [some (.inr (cX 0)), some (.inl 0)]) rfl ?_
  refine ev_iload_n (np := 1) dX9_circuitAt_0 rfl rfl ?_
  refine ev_if_ne (tgt := 11) (np := 4) dX9_circuitAt_1 (by decide) rfl (by omega) (fun h => absurd (by omega) h) (fun _ => ?_)
  refine ev_aload_n (np := 5) dX9_circuitAt_4 rfl rfl ?_
  refine ev_getR (np := 8) sX9_circuitAt_5 rfl rfl rfl ?_
  refine ev_goto (np := 15) dX9_circuitAt_8 (by decide) ?_
  refine ev_aret dX9_circuitAt_15 rfl ?_
  exact ⟨rfl, rfl⟩
theorem sem_at1 (M : Mem) : Sem ST miX9_circuitAt [.inr (cX 0), .inl 1] M (fun v N => v = some (.inr (cC 1 0)) ∧ N = M) := by
  refine Sem.of (by decide) ST_ok (Nat.le_of_ble_eq_true rfl) (ls0 := [some (.inr (cX 0)), some (.inl 1)]) rfl ?_
  refine ev_iload_n (np := 1) dX9_circuitAt_0 rfl rfl ?_
  refine ev_if_ne (tgt := 11) (np := 4) dX9_circuitAt_1 (by decide) rfl (by omega) (fun _ => ?_) (fun h => absurd h (by omega))
  refine ev_aload_n (np := 12) dX9_circuitAt_11 rfl rfl ?_
  refine ev_getR (np := 15) sX9_circuitAt_12 rfl rfl rfl ?_
  refine ev_aret dX9_circuitAt_15 rfl ?_
  exact ⟨rfl, rfl⟩
end
section
/-! CIRCUIT: its cells as a row of numbers -/
def scell (M : Mem) (k : Fin 4) (i : Nat) : Int := if i = 0 then M (cC k 0) 0 else if i = 1 then M (cC k 0) 1 else if i < 6 then M (cC k 2) (i - 2) else M (cC k 4) (i - 6)
def CircS (f : Nat → Int) (C : Circ) : Prop := f 0 = (cn C : Int) ∧ f 1 = (co C : Int) ∧ (∀ r, r < 4 → f (2 + r) = ((2 * cx C r + cb C r : Nat) : Int)) ∧ ∀ g, g < cn C → f (6 + g) = ((256 * ck C g + 16 * cf C g + cs C g : Nat) : Int)
abbrev CircT (M : Mem) (k : Fin 4) (C : Circ) : Prop := CircS (scell M k) C
theorem CircS.of {f f' : Nat → Int} {C : Circ} (hC : WF C) (h : CircS f C) (e : ∀ i, i < 14 → f' i = f i) : CircS f' C :=
  ⟨by rw [e 0 (by decide)]; exact h.1, by rw [e 1 (by decide)]; exact h.2.1, fun r hr => by rw [e _ (by omega)]; exact h.2.2.1 r hr, fun g hg => by rw [e _ (by have := hC.1; omega)]; exact h.2.2.2 g hg⟩
theorem CircT.n {M : Mem} {k : Fin 4} {C : Circ} (h : CircT M k C) : M (cC k 0) 0 = (cn C : Int) := by have := h.1; simpa [scell] using this
theorem CircT.o {M : Mem} {k : Fin 4} {C : Circ} (h : CircT M k C) : M (cC k 0) 1 = (co C : Int) := by have := h.2.1; simpa [scell] using this
theorem CircT.r {M : Mem} {k : Fin 4} {C : Circ} (h : CircT M k C) {r : Nat} (hr : r < 4) : M (cC k 2) r = ((2 * cx C r + cb C r : Nat) : Int) := by
  have := h.2.2.1 r hr
  unfold scell at this
  rw [if_neg (by omega), if_neg (by omega), if_pos (by omega), show 2 + r - 2 = r by omega] at this
  exact this
theorem CircT.g {M : Mem} {k : Fin 4} {C : Circ} (h : CircT M k C) {g : Nat} (hg : g < cn C) : M (cC k 4) g = ((256 * ck C g + 16 * cf C g + cs C g : Nat) : Int) := by
  have := h.2.2.2 g hg
  unfold scell at this
  rw [if_neg (by omega), if_neg (by omega), if_neg (by omega), show 6 + g - 6 = g by omega] at this
  exact this
theorem rowR (k : Fin 4) : IsRow (cC k 1) (cC k 2) 4 := ⟨rfl, rfl, by decide⟩
theorem rowG (k : Fin 4) : IsRow (cC k 3) (cC k 4) 8 := ⟨rfl, rfl, by decide⟩
theorem sem_gateCount (M : Mem) (k : Fin 4) : Sem ST miX1_gateCount [.inr (cC k 0)] M (Ri (M (cC k 0) 0) M) := by
  refine Sem.of (by decide) ST_ok (Nat.le_of_ble_eq_true rfl) (ls0 := [some (.inr (cC k 0))]) rfl ?_
  refine ev_aload_n (np := 1) dX1_gateCount_0 rfl rfl ?_
  refine ev_getI (np := 4) sX1_gateCount_1 rfl rfl rfl ?_
  refine ev_iret dX1_gateCount_4 rfl ?_
  exact ⟨rfl, rfl⟩
theorem sem_outputWire (M : Mem) (k : Fin 4) : Sem ST miX1_outputWire [.inr (cC k 0)] M (Ri (M (cC k 0) 1) M) := by
  refine Sem.of (by decide) ST_ok (Nat.le_of_ble_eq_true rfl) (ls0 := [some (.inr (cC k 0))]) rfl ?_
  refine ev_aload_n (np := 1) dX1_outputWire_0 rfl rfl ?_
  refine ev_getI (np := 4) sX1_outputWire_1 rfl rfl rfl ?_
  refine ev_iret dX1_outputWire_4 rfl ?_
  exact ⟨rfl, rfl⟩
theorem sem_setOutputWire (M : Mem) (k : Fin 4) (w : Int) : Sem ST miX1_setOutputWire [.inr (cC k 0), .inl w] M (Rv (updM M (cC k 0) 1 w)) := by
  refine Sem.of (by decide) ST_ok (Nat.le_of_ble_eq_true rfl) (ls0 := [some (.inr (cC k 0)), some (.inl w)]) rfl ?_
  refine ev_aload_n (np := 1) dX1_setOutputWire_0 rfl rfl ?_
  refine ev_iload_n (np := 2) dX1_setOutputWire_1 rfl rfl ?_
  refine ev_put (np := 5) sX1_setOutputWire_2 rfl rfl rfl ?_
  refine ev_vret dX1_setOutputWire_5 rfl ?_
  exact ⟨rfl, rfl⟩
theorem sem_setRegister (M : Mem) (k : Fin 4) {r : Int} (hr : 0 ≤ r ∧ r < 4) (x b : Int) : Sem ST miX1_setRegister [.inr (cC k 0), .inl r, .inl x, .inl b] M (Rv (updM M (cC k 2) r.toNat (2 * x + b))) := by
  refine Sem.of (by decide) ST_ok (Nat.le_of_ble_eq_true rfl) (ls0 := [some (.inr (cC k 0)), some (.inl r), some (.inl x), some (.inl b)]) rfl ?_
  refine ev_aload_n (np := 1) dX1_setRegister_0 rfl rfl ?_
  refine ev_getR (np := 4) sX1_setRegister_1 rfl rfl rfl ?_
  refine ev_iload_n (np := 5) dX1_setRegister_4 rfl rfl ?_
  refine ev_iconst (np := 6) dX1_setRegister_5 rfl ?_
  refine ev_iload_n (np := 7) dX1_setRegister_6 rfl rfl ?_
  refine ev_imul (np := 8) dX1_setRegister_7 rfl ?_
  refine ev_iload_n (np := 9) dX1_setRegister_8 rfl rfl ?_
  refine ev_iadd (np := 10) dX1_setRegister_9 rfl ?_
  refine ev_Vv2 (np := 13) moX6_set sX1_setRegister_10 (sem_set (rowR k) M hr) rfl rfl (Nat.le_of_ble_eq_true rfl) rfl ?_
  refine ev_vret dX1_setRegister_13 rfl ?_
  exact ⟨rfl, rfl⟩
theorem sem_nextWire {M : Mem} {k : Fin 4} {C : Circ} (hC : WF C) (h : CircT M k C) {r : Nat} (hr : r < 4) : Sem ST miX1_nextWire [.inr (cC k 0), .inl (r : Int)] M (Ri (cx C r : Nat) M) := by
  refine Sem.of (by decide) ST_ok (Nat.le_of_ble_eq_true rfl) (ls0 := [some (.inr (cC k 0)), some (.inl (r : Int))]) rfl ?_
  obtain ⟨h1, h2⟩ := hC.2.2.1 r hr
  refine ev_aload_n (np := 1) dX1_nextWire_0 rfl rfl ?_
  refine ev_getR (np := 4) sX1_nextWire_1 rfl rfl rfl ?_
  refine ev_iload_n (np := 5) dX1_nextWire_4 rfl rfl ?_
  refine ev_Vi1 (np := 8) moX6_get sX1_nextWire_5 (sem_get (rowR k) M (by omega)) rfl rfl (Nat.le_of_ble_eq_true rfl) rfl ?_
  rw [Int.toNat_natCast, h.r hr]
  refine ev_iconst (np := 9) dX1_nextWire_8 rfl ?_
  refine ev_ishr (np := 10) dX1_nextWire_9 (by omega) (by omega) rfl ?_
  rw [show ((2 * cx C r + cb C r : Nat) : Int) / ((2 ^ (1 : Int).toNat : Nat) : Int) = (cx C r : Int) by
    rw [show ((2 ^ (1 : Int).toNat : Nat) : Int) = 2 from rfl]; omega]
  refine ev_iret dX1_nextWire_10 rfl ?_
  exact ⟨rfl, rfl⟩
theorem sem_firstBit {M : Mem} {k : Fin 4} {C : Circ} (hC : WF C) (h : CircT M k C) {r : Nat} (hr : r < 4) : Sem ST miX1_firstBit [.inr (cC k 0), .inl (r : Int)] M (Ri (cb C r : Nat) M) := by
  refine Sem.of (by decide) ST_ok (Nat.le_of_ble_eq_true rfl) (ls0 := [some (.inr (cC k 0)), some (.inl (r : Int))]) rfl ?_
  obtain ⟨h1, h2⟩ := hC.2.2.1 r hr
  refine ev_aload_n (np := 1) dX1_firstBit_0 rfl rfl ?_
  refine ev_getR (np := 4) sX1_firstBit_1 rfl rfl rfl ?_
  refine ev_iload_n (np := 5) dX1_firstBit_4 rfl rfl ?_
  refine ev_Vi1 (np := 8) moX6_get sX1_firstBit_5 (sem_get (rowR k) M (by omega)) rfl rfl (Nat.le_of_ble_eq_true rfl) rfl ?_
  rw [Int.toNat_natCast, h.r hr]
  refine ev_iconst (np := 9) dX1_firstBit_8 rfl ?_
  refine ev_iandm 1 (np := 10) dX1_firstBit_9 (by omega) rfl rfl ?_
  rw [show ((2 * cx C r + cb C r : Nat) : Int) % ((2 ^ 1 : Nat) : Int) = (cb C r : Int) by
    rw [show ((2 ^ 1 : Nat) : Int) = 2 from rfl]; omega]
  refine ev_iret dX1_firstBit_10 rfl ?_
  exact ⟨rfl, rfl⟩
/-- what a loop of four bits gathers -/
theorem or_sh {a b : Nat} (p : Nat) : ((((a : Int)).toNat ||| ((b : Int) * ((2 ^ p : Nat) : Int)).toNat : Nat) : Int) = ((a ||| b * 2 ^ p : Nat) : Int) := by
  rw [Int.toNat_natCast, ← Int.natCast_mul, Int.toNat_natCast]
theorem sem_firstState {M : Mem} {k : Fin 4} {C : Circ} (hC : WF C) (h : CircT M k C) : Sem ST miX1_firstState [.inr (cC k 0)] M (Ri (fstS C : Nat) M) := by
  refine Sem.of (by decide) ST_ok (Nat.le_of_ble_eq_true rfl) (ls0 := [some (.inr (cC k 0)), none, none]) rfl ?_
  have b0 := (hC.2.2.1 0 (by decide)).2
  have b1 := (hC.2.2.1 1 (by decide)).2
  have b2 := (hC.2.2.1 2 (by decide)).2
  have b3 := (hC.2.2.1 3 (by decide)).2
  have e := or4 _ b0 _ b1 _ b2 _ b3
  refine ev_iconst (np := 1) dX1_firstState_0 rfl ?_
  refine ev_istore_n (np := 2) dX1_firstState_1 (by decide) rfl ?_
  refine ev_iconst (np := 3) dX1_firstState_2 rfl ?_
  refine ev_istore_n (np := 4) dX1_firstState_3 (by decide) rfl ?_
  refine ev_iload_n (np := 5) dX1_firstState_4 rfl rfl ?_
  refine ev_iconst (np := 6) dX1_firstState_5 rfl ?_
  refine ev_icmp_ge (tgt := 25) (np := 9) dX1_firstState_6 (by decide) rfl (by omega) (by omega) (fun h => absurd h (by omega)) (fun _ => ?_)
  refine ev_iload_n (np := 10) dX1_firstState_9 rfl rfl ?_
  refine ev_aload_n (np := 11) dX1_firstState_10 rfl rfl ?_
  refine ev_iload_n (np := 12) dX1_firstState_11 rfl rfl ?_
  refine ev_Vi1 (np := 15) moX1_firstBit sX1_firstState_12 (sem_firstBit hC h (r := 0) (by decide)) rfl rfl (Nat.le_of_ble_eq_true rfl) rfl ?_
  refine ev_iload_n (np := 16) dX1_firstState_15 rfl rfl ?_
  refine ev_ishl (np := 17) dX1_firstState_16 (by omega) rfl ?_
  refine ev_ior (np := 18) dX1_firstState_17 (by omega) (Int.mul_nonneg (by omega) (Int.natCast_nonneg _)) rfl ?_
  rw [show (((0 : Int).toNat ||| ((cb C 0 : Int) * ((2 ^ (0 : Int).toNat : Nat) : Int)).toNat : Nat) : Int) = ((0 ||| cb C 0 * 2 ^ 0 : Nat) : Int) from or_sh (a := 0) 0]
  refine ev_istore_n (np := 19) dX1_firstState_18 (by decide) rfl ?_
  refine ev_iinc (np := 22) dX1_firstState_19 rfl (by decide) rfl ?_
  refine ev_goto (np := 4) dX1_firstState_22 (by decide) ?_
  refine ev_iload_n (np := 5) dX1_firstState_4 rfl rfl ?_
  refine ev_iconst (np := 6) dX1_firstState_5 rfl ?_
  refine ev_icmp_ge (tgt := 25) (np := 9) dX1_firstState_6 (by decide) rfl (by omega) (by omega) (fun h => absurd h (by omega)) (fun _ => ?_)
  refine ev_iload_n (np := 10) dX1_firstState_9 rfl rfl ?_
  refine ev_aload_n (np := 11) dX1_firstState_10 rfl rfl ?_
  refine ev_iload_n (np := 12) dX1_firstState_11 rfl rfl ?_
  refine ev_Vi1 (np := 15) moX1_firstBit sX1_firstState_12 (sem_firstBit hC h (r := 1) (by decide)) rfl rfl (Nat.le_of_ble_eq_true rfl) rfl ?_
  refine ev_iload_n (np := 16) dX1_firstState_15 rfl rfl ?_
  refine ev_ishl (np := 17) dX1_firstState_16 (by omega) rfl ?_
  refine ev_ior (np := 18) dX1_firstState_17 (by omega) (Int.mul_nonneg (by omega) (Int.natCast_nonneg _)) rfl ?_
  rw [show (0 : Int) + 1 = 1 from rfl, show (1 : Int).toNat = 1 from rfl, or_sh 1]
  refine ev_istore_n (np := 19) dX1_firstState_18 (by decide) rfl ?_
  refine ev_iinc (np := 22) dX1_firstState_19 rfl (by decide) rfl ?_
  refine ev_goto (np := 4) dX1_firstState_22 (by decide) ?_
  refine ev_iload_n (np := 5) dX1_firstState_4 rfl rfl ?_
  refine ev_iconst (np := 6) dX1_firstState_5 rfl ?_
  refine ev_icmp_ge (tgt := 25) (np := 9) dX1_firstState_6 (by decide) rfl (by omega) (by omega) (fun h => absurd h (by omega)) (fun _ => ?_)
  refine ev_iload_n (np := 10) dX1_firstState_9 rfl rfl ?_
  refine ev_aload_n (np := 11) dX1_firstState_10 rfl rfl ?_
  refine ev_iload_n (np := 12) dX1_firstState_11 rfl rfl ?_
  refine ev_Vi1 (np := 15) moX1_firstBit sX1_firstState_12 (sem_firstBit hC h (r := 2) (by decide)) rfl rfl (Nat.le_of_ble_eq_true rfl) rfl ?_
  refine ev_iload_n (np := 16) dX1_firstState_15 rfl rfl ?_
  refine ev_ishl (np := 17) dX1_firstState_16 (by omega) rfl ?_
  refine ev_ior (np := 18) dX1_firstState_17 (by omega) (Int.mul_nonneg (by omega) (Int.natCast_nonneg _)) rfl ?_
  rw [show (1 : Int) + 1 = 2 from rfl, show (2 : Int).toNat = 2 from rfl, or_sh 2]
  refine ev_istore_n (np := 19) dX1_firstState_18 (by decide) rfl ?_
  refine ev_iinc (np := 22) dX1_firstState_19 rfl (by decide) rfl ?_
  refine ev_goto (np := 4) dX1_firstState_22 (by decide) ?_
  refine ev_iload_n (np := 5) dX1_firstState_4 rfl rfl ?_
  refine ev_iconst (np := 6) dX1_firstState_5 rfl ?_
  refine ev_icmp_ge (tgt := 25) (np := 9) dX1_firstState_6 (by decide) rfl (by omega) (by omega) (fun h => absurd h (by omega)) (fun _ => ?_)
  refine ev_iload_n (np := 10) dX1_firstState_9 rfl rfl ?_
  refine ev_aload_n (np := 11) dX1_firstState_10 rfl rfl ?_
  refine ev_iload_n (np := 12) dX1_firstState_11 rfl rfl ?_
  refine ev_Vi1 (np := 15) moX1_firstBit sX1_firstState_12 (sem_firstBit hC h (r := 3) (by decide)) rfl rfl (Nat.le_of_ble_eq_true rfl) rfl ?_
  refine ev_iload_n (np := 16) dX1_firstState_15 rfl rfl ?_
  refine ev_ishl (np := 17) dX1_firstState_16 (by omega) rfl ?_
  refine ev_ior (np := 18) dX1_firstState_17 (by omega) (Int.mul_nonneg (by omega) (Int.natCast_nonneg _)) rfl ?_
  rw [show (2 : Int) + 1 = 3 from rfl, show (3 : Int).toNat = 3 from rfl, or_sh 3, e]
  refine ev_istore_n (np := 19) dX1_firstState_18 (by decide) rfl ?_
  refine ev_iinc (np := 22) dX1_firstState_19 rfl (by decide) rfl ?_
  refine ev_goto (np := 4) dX1_firstState_22 (by decide) ?_
  refine ev_iload_n (np := 5) dX1_firstState_4 rfl rfl ?_
  refine ev_iconst (np := 6) dX1_firstState_5 rfl ?_
  refine ev_icmp_ge (tgt := 25) (np := 9) dX1_firstState_6 (by decide) rfl (by omega) (by omega) (fun _ => ?_) (fun h => absurd (by omega) h)
  refine ev_iload_n (np := 26) dX1_firstState_25 rfl rfl ?_
  refine ev_iret dX1_firstState_26 rfl ?_
  exact ⟨rfl, rfl⟩
end
section
theorem sem_stateAfter {M : Mem} {k : Fin 4} {C : Circ} (hC : WF C) (h : CircT M k C) {b : Nat} (hb : b < 65536) : Sem ST miX1_stateAfter [.inr (cC k 0), .inl (b : Int)] M (Ri (st4 (fun r => bt b (cx C r)) : Nat) M) := by
  refine Sem.of (by decide) ST_ok (Nat.le_of_ble_eq_true rfl) (ls0 := [some (.inr (cC k 0)), some (.inl (b : Int)), none, none]) rfl ?_
  have x0 := (hC.2.2.1 0 (by decide)).1
  have x1 := (hC.2.2.1 1 (by decide)).1
  have x2 := (hC.2.2.1 2 (by decide)).1
  have x3 := (hC.2.2.1 3 (by decide)).1
  have e := or4 _ (bt_lt b (cx C 0)) _ (bt_lt b (cx C 1)) _ (bt_lt b (cx C 2)) _ (bt_lt b (cx C 3))
  refine ev_iconst (np := 1) dX1_stateAfter_0 rfl ?_
  refine ev_istore_n (np := 2) dX1_stateAfter_1 (by decide) rfl ?_
  refine ev_iconst (np := 3) dX1_stateAfter_2 rfl ?_
  refine ev_istore_n (np := 4) dX1_stateAfter_3 (by decide) rfl ?_
  refine ev_iload_n (np := 5) dX1_stateAfter_4 rfl rfl ?_
  refine ev_iconst (np := 6) dX1_stateAfter_5 rfl ?_
  refine ev_icmp_ge (tgt := 29) (np := 9) dX1_stateAfter_6 (by decide) rfl (by omega) (by omega) (fun h => absurd h (by omega)) (fun _ => ?_)
  refine ev_iload_n (np := 10) dX1_stateAfter_9 rfl rfl ?_
  refine ev_iload_n (np := 11) dX1_stateAfter_10 rfl rfl ?_
  refine ev_aload_n (np := 12) dX1_stateAfter_11 rfl rfl ?_
  refine ev_iload_n (np := 13) dX1_stateAfter_12 rfl rfl ?_
  refine ev_Vi1 (np := 16) moX1_nextWire sX1_stateAfter_13 (sem_nextWire hC h (r := 0) (by decide)) rfl rfl (Nat.le_of_ble_eq_true rfl) rfl ?_
  refine ev_Ni2 (np := 19) moX9_bitOf sX1_stateAfter_16 (sem_bit M (b := b) (p := cx C 0) (by omega) (by omega)) (Nat.le_of_ble_eq_true rfl) rfl ?_
  refine ev_iload_n (np := 20) dX1_stateAfter_19 rfl rfl ?_
  refine ev_ishl (np := 21) dX1_stateAfter_20 (by omega) rfl ?_
  refine ev_ior (np := 22) dX1_stateAfter_21 (by omega) (Int.mul_nonneg (by omega) (Int.natCast_nonneg _)) rfl ?_
  rw [show (((0 : Int).toNat ||| ((bt b (cx C 0) : Int) * ((2 ^ (0 : Int).toNat : Nat) : Int)).toNat : Nat) : Int) = ((0 ||| bt b (cx C 0) * 2 ^ 0 : Nat) : Int) from or_sh (a := 0) 0]
  refine ev_istore_n (np := 23) dX1_stateAfter_22 (by decide) rfl ?_
  refine ev_iinc (np := 26) dX1_stateAfter_23 rfl (by decide) rfl ?_
  refine ev_goto (np := 4) dX1_stateAfter_26 (by decide) ?_
  refine ev_iload_n (np := 5) dX1_stateAfter_4 rfl rfl ?_
  refine ev_iconst (np := 6) dX1_stateAfter_5 rfl ?_
  refine ev_icmp_ge (tgt := 29) (np := 9) dX1_stateAfter_6 (by decide) rfl (by omega) (by omega) (fun h => absurd h (by omega)) (fun _ => ?_)
  refine ev_iload_n (np := 10) dX1_stateAfter_9 rfl rfl ?_
  refine ev_iload_n (np := 11) dX1_stateAfter_10 rfl rfl ?_
  refine ev_aload_n (np := 12) dX1_stateAfter_11 rfl rfl ?_
  refine ev_iload_n (np := 13) dX1_stateAfter_12 rfl rfl ?_
  refine ev_Vi1 (np := 16) moX1_nextWire sX1_stateAfter_13 (sem_nextWire hC h (r := 1) (by decide)) rfl rfl (Nat.le_of_ble_eq_true rfl) rfl ?_
  refine ev_Ni2 (np := 19) moX9_bitOf sX1_stateAfter_16 (sem_bit M (b := b) (p := cx C 1) (by omega) (by omega)) (Nat.le_of_ble_eq_true rfl) rfl ?_
  refine ev_iload_n (np := 20) dX1_stateAfter_19 rfl rfl ?_
  refine ev_ishl (np := 21) dX1_stateAfter_20 (by omega) rfl ?_
  refine ev_ior (np := 22) dX1_stateAfter_21 (by omega) (Int.mul_nonneg (by omega) (Int.natCast_nonneg _)) rfl ?_
  rw [show (0 : Int) + 1 = 1 from rfl, show (1 : Int).toNat = 1 from rfl, or_sh 1]
  refine ev_istore_n (np := 23) dX1_stateAfter_22 (by decide) rfl ?_
  refine ev_iinc (np := 26) dX1_stateAfter_23 rfl (by decide) rfl ?_
  refine ev_goto (np := 4) dX1_stateAfter_26 (by decide) ?_
  refine ev_iload_n (np := 5) dX1_stateAfter_4 rfl rfl ?_
  refine ev_iconst (np := 6) dX1_stateAfter_5 rfl ?_
  refine ev_icmp_ge (tgt := 29) (np := 9) dX1_stateAfter_6 (by decide) rfl (by omega) (by omega) (fun h => absurd h (by omega)) (fun _ => ?_)
  refine ev_iload_n (np := 10) dX1_stateAfter_9 rfl rfl ?_
  refine ev_iload_n (np := 11) dX1_stateAfter_10 rfl rfl ?_
  refine ev_aload_n (np := 12) dX1_stateAfter_11 rfl rfl ?_
  refine ev_iload_n (np := 13) dX1_stateAfter_12 rfl rfl ?_
  refine ev_Vi1 (np := 16) moX1_nextWire sX1_stateAfter_13 (sem_nextWire hC h (r := 2) (by decide)) rfl rfl (Nat.le_of_ble_eq_true rfl) rfl ?_
  refine ev_Ni2 (np := 19) moX9_bitOf sX1_stateAfter_16 (sem_bit M (b := b) (p := cx C 2) (by omega) (by omega)) (Nat.le_of_ble_eq_true rfl) rfl ?_
  refine ev_iload_n (np := 20) dX1_stateAfter_19 rfl rfl ?_
  refine ev_ishl (np := 21) dX1_stateAfter_20 (by omega) rfl ?_
  refine ev_ior (np := 22) dX1_stateAfter_21 (by omega) (Int.mul_nonneg (by omega) (Int.natCast_nonneg _)) rfl ?_
  rw [show (1 : Int) + 1 = 2 from rfl, show (2 : Int).toNat = 2 from rfl, or_sh 2]
  refine ev_istore_n (np := 23) dX1_stateAfter_22 (by decide) rfl ?_
  refine ev_iinc (np := 26) dX1_stateAfter_23 rfl (by decide) rfl ?_
  refine ev_goto (np := 4) dX1_stateAfter_26 (by decide) ?_
  refine ev_iload_n (np := 5) dX1_stateAfter_4 rfl rfl ?_
  refine ev_iconst (np := 6) dX1_stateAfter_5 rfl ?_
  refine ev_icmp_ge (tgt := 29) (np := 9) dX1_stateAfter_6 (by decide) rfl (by omega) (by omega) (fun h => absurd h (by omega)) (fun _ => ?_)
  refine ev_iload_n (np := 10) dX1_stateAfter_9 rfl rfl ?_
  refine ev_iload_n (np := 11) dX1_stateAfter_10 rfl rfl ?_
  refine ev_aload_n (np := 12) dX1_stateAfter_11 rfl rfl ?_
  refine ev_iload_n (np := 13) dX1_stateAfter_12 rfl rfl ?_
  refine ev_Vi1 (np := 16) moX1_nextWire sX1_stateAfter_13 (sem_nextWire hC h (r := 3) (by decide)) rfl rfl (Nat.le_of_ble_eq_true rfl) rfl ?_
  refine ev_Ni2 (np := 19) moX9_bitOf sX1_stateAfter_16 (sem_bit M (b := b) (p := cx C 3) (by omega) (by omega)) (Nat.le_of_ble_eq_true rfl) rfl ?_
  refine ev_iload_n (np := 20) dX1_stateAfter_19 rfl rfl ?_
  refine ev_ishl (np := 21) dX1_stateAfter_20 (by omega) rfl ?_
  refine ev_ior (np := 22) dX1_stateAfter_21 (by omega) (Int.mul_nonneg (by omega) (Int.natCast_nonneg _)) rfl ?_
  rw [show (2 : Int) + 1 = 3 from rfl, show (3 : Int).toNat = 3 from rfl, or_sh 3, e]
  refine ev_istore_n (np := 23) dX1_stateAfter_22 (by decide) rfl ?_
  refine ev_iinc (np := 26) dX1_stateAfter_23 rfl (by decide) rfl ?_
  refine ev_goto (np := 4) dX1_stateAfter_26 (by decide) ?_
  refine ev_iload_n (np := 5) dX1_stateAfter_4 rfl rfl ?_
  refine ev_iconst (np := 6) dX1_stateAfter_5 rfl ?_
  refine ev_icmp_ge (tgt := 29) (np := 9) dX1_stateAfter_6 (by decide) rfl (by omega) (by omega) (fun _ => ?_) (fun h => absurd (by omega) h)
  refine ev_iload_n (np := 30) dX1_stateAfter_29 rfl rfl ?_
  refine ev_iret dX1_stateAfter_30 rfl ?_
  exact ⟨rfl, rfl⟩
theorem sem_kindOf {M : Mem} {k : Fin 4} {C : Circ} (hC : WF C) (h : CircT M k C) {g : Nat} (hg : g < cn C) : Sem ST miX1_kindOf [.inr (cC k 0), .inl (g : Int)] M (Ri (ck C g : Nat) M) := by
  refine Sem.of (by decide) ST_ok (Nat.le_of_ble_eq_true rfl) (ls0 := [some (.inr (cC k 0)), some (.inl (g : Int))]) rfl ?_
  obtain ⟨h1, h2, h3⟩ := hC.2.2.2 g hg
  have hn := hC.1
  have h4 := h2.lt (by omega)
  have h5 := h3.lt (by omega)
  refine ev_aload_n (np := 1) dX1_kindOf_0 rfl rfl ?_
  refine ev_getR (np := 4) sX1_kindOf_1 rfl rfl rfl ?_
  refine ev_iload_n (np := 5) dX1_kindOf_4 rfl rfl ?_
  refine ev_Vi1 (np := 8) moX6_get sX1_kindOf_5 (sem_get (rowG k) M (by omega)) rfl rfl (Nat.le_of_ble_eq_true rfl) rfl ?_
  rw [Int.toNat_natCast, h.g hg]
  refine ev_bipush (np := 10) dX1_kindOf_8 (by decide) rfl ?_
  refine ev_ishr (np := 11) dX1_kindOf_10 (by omega) (by omega) rfl ?_
  rw [show ((256 * ck C g + 16 * cf C g + cs C g : Nat) : Int) / ((2 ^ (8 : Int).toNat : Nat) : Int) = (ck C g : Int) by
    rw [show ((2 ^ (8 : Int).toNat : Nat) : Int) = 256 from rfl]; omega]
  refine ev_iret dX1_kindOf_11 rfl ?_
  exact ⟨rfl, rfl⟩
theorem sem_firstWire {M : Mem} {k : Fin 4} {C : Circ} (hC : WF C) (h : CircT M k C) {g : Nat} (hg : g < cn C) : Sem ST miX1_firstWire [.inr (cC k 0), .inl (g : Int)] M (Ri (cf C g : Nat) M) := by
  refine Sem.of (by decide) ST_ok (Nat.le_of_ble_eq_true rfl) (ls0 := [some (.inr (cC k 0)), some (.inl (g : Int))]) rfl ?_
  obtain ⟨h1, h2, h3⟩ := hC.2.2.2 g hg
  have hn := hC.1
  have h4 := h2.lt (by omega)
  have h5 := h3.lt (by omega)
  refine ev_aload_n (np := 1) dX1_firstWire_0 rfl rfl ?_
  refine ev_getR (np := 4) sX1_firstWire_1 rfl rfl rfl ?_
  refine ev_iload_n (np := 5) dX1_firstWire_4 rfl rfl ?_
  refine ev_Vi1 (np := 8) moX6_get sX1_firstWire_5 (sem_get (rowG k) M (by omega)) rfl rfl (Nat.le_of_ble_eq_true rfl) rfl ?_
  rw [Int.toNat_natCast, h.g hg]
  refine ev_iconst (np := 9) dX1_firstWire_8 rfl ?_
  refine ev_ishr (np := 10) dX1_firstWire_9 (by omega) (by omega) rfl ?_
  refine ev_bipush (np := 12) dX1_firstWire_10 (by decide) rfl ?_
  refine ev_iandm 4 (np := 13) dX1_firstWire_12 (by omega) rfl rfl ?_
  rw [show ((256 * ck C g + 16 * cf C g + cs C g : Nat) : Int) / ((2 ^ (4 : Int).toNat : Nat) : Int) % ((2 ^ 4 : Nat) : Int) = (cf C g : Int) by
    rw [show ((2 ^ (4 : Int).toNat : Nat) : Int) = 16 from rfl, show ((2 ^ 4 : Nat) : Int) = 16 from rfl]; omega]
  refine ev_iret dX1_firstWire_13 rfl ?_
  exact ⟨rfl, rfl⟩
theorem sem_secondWire {M : Mem} {k : Fin 4} {C : Circ} (hC : WF C) (h : CircT M k C) {g : Nat} (hg : g < cn C) : Sem ST miX1_secondWire [.inr (cC k 0), .inl (g : Int)] M (Ri (cs C g : Nat) M) := by
  refine Sem.of (by decide) ST_ok (Nat.le_of_ble_eq_true rfl) (ls0 := [some (.inr (cC k 0)), some (.inl (g : Int))]) rfl ?_
  obtain ⟨h1, h2, h3⟩ := hC.2.2.2 g hg
  have hn := hC.1
  have h4 := h2.lt (by omega)
  have h5 := h3.lt (by omega)
  refine ev_aload_n (np := 1) dX1_secondWire_0 rfl rfl ?_
  refine ev_getR (np := 4) sX1_secondWire_1 rfl rfl rfl ?_
  refine ev_iload_n (np := 5) dX1_secondWire_4 rfl rfl ?_
  refine ev_Vi1 (np := 8) moX6_get sX1_secondWire_5 (sem_get (rowG k) M (by omega)) rfl rfl (Nat.le_of_ble_eq_true rfl) rfl ?_
  rw [Int.toNat_natCast, h.g hg]
  refine ev_bipush (np := 10) dX1_secondWire_8 (by decide) rfl ?_
  refine ev_iandm 4 (np := 11) dX1_secondWire_10 (by omega) rfl rfl ?_
  rw [show ((256 * ck C g + 16 * cf C g + cs C g : Nat) : Int) % ((2 ^ 4 : Nat) : Int) = (cs C g : Int) by
    rw [show ((2 ^ 4 : Nat) : Int) = 16 from rfl]; omega]
  refine ev_iret dX1_secondWire_11 rfl ?_
  exact ⟨rfl, rfl⟩
theorem sem_gateBit (M : Mem) {k a b : Nat} (hk : k < 6) (ha : a < 2) (hb : b < 2) : Sem ST miX1_gateBit [.inl (k : Int), .inl (a : Int), .inl (b : Int)] M (Ri (gb k a b : Nat) M) := by
  refine Sem.of (by decide) ST_ok (Nat.le_of_ble_eq_true rfl) (ls0 := [some (.inl (k : Int)), some (.inl (a : Int)), some (.inl (b : Int))]) rfl ?_
  refine ev_iload_n (np := 1) dX1_gateBit_0 rfl rfl ?_
  rcases (show k = 0 ∨ k = 1 ∨ k = 2 ∨ k = 3 ∨ k = 4 ∨ k = 5 by omega) with rfl | rfl | rfl | rfl | rfl | rfl
  · refine ev_swIn (np := 36) dX1_gateBit_1 (by omega) (by omega) (by first | rfl | (simp; done)) (by decide) ?_
    refine ev_iload_n (np := 37) dX1_gateBit_36 rfl rfl ?_
    refine ev_iload_n (np := 38) dX1_gateBit_37 rfl rfl ?_
    refine ev_iand (np := 39) dX1_gateBit_38 (by omega) (by omega) rfl ?_
    refine ev_iret dX1_gateBit_39 rfl ?_
    exact ⟨rfl, rfl⟩
  · refine ev_swIn (np := 40) dX1_gateBit_1 (by omega) (by omega) (by first | rfl | (simp; done)) (by decide) ?_
    refine ev_iload_n (np := 41) dX1_gateBit_40 rfl rfl ?_
    refine ev_iload_n (np := 42) dX1_gateBit_41 rfl rfl ?_
    refine ev_ior (np := 43) dX1_gateBit_42 (by omega) (by omega) rfl ?_
    refine ev_iret dX1_gateBit_43 rfl ?_
    exact ⟨rfl, rfl⟩
  · refine ev_swIn (np := 44) dX1_gateBit_1 (by omega) (by omega) (by first | rfl | (simp; done)) (by decide) ?_
    refine ev_iload_n (np := 45) dX1_gateBit_44 rfl rfl ?_
    refine ev_iload_n (np := 46) dX1_gateBit_45 rfl rfl ?_
    refine ev_ixor (np := 47) dX1_gateBit_46 (by omega) (by omega) rfl ?_
    refine ev_iret dX1_gateBit_47 rfl ?_
    exact ⟨rfl, rfl⟩
  · refine ev_swIn (np := 48) dX1_gateBit_1 (by omega) (by omega) (by first | rfl | (simp; done)) (by decide) ?_
    refine ev_iconst (np := 49) dX1_gateBit_48 rfl ?_
    refine ev_iload_n (np := 50) dX1_gateBit_49 rfl rfl ?_
    refine ev_iload_n (np := 51) dX1_gateBit_50 rfl rfl ?_
    refine ev_iand (np := 52) dX1_gateBit_51 (by omega) (by omega) rfl ?_
    refine ev_isub (np := 53) dX1_gateBit_52 rfl ?_
    refine ev_iret dX1_gateBit_53 rfl ?_
    rw [Int.toNat_natCast, Int.toNat_natCast]
    have : a &&& b ≤ a := Nat.and_le_left
    exact ⟨by rw [show gb 3 a b = 1 - (a &&& b) from rfl]; congr 2; omega, rfl⟩
  · refine ev_swIn (np := 54) dX1_gateBit_1 (by omega) (by omega) (by first | rfl | (simp; done)) (by decide) ?_
    refine ev_iload_n (np := 55) dX1_gateBit_54 rfl rfl ?_
    refine ev_iret dX1_gateBit_55 rfl ?_
    exact ⟨rfl, rfl⟩
  · refine ev_swOut (np := 56) dX1_gateBit_1 (by omega) (by omega) (by decide) ?_
    refine ev_iconst (np := 57) dX1_gateBit_56 rfl ?_
    refine ev_iload_n (np := 58) dX1_gateBit_57 rfl rfl ?_
    refine ev_isub (np := 59) dX1_gateBit_58 rfl ?_
    refine ev_iret dX1_gateBit_59 rfl ?_
    exact ⟨by rw [show gb 5 a b = 1 - a from rfl]; congr 2; omega, rfl⟩
theorem wb_loop {M : Mem} {k : Fin 4} {C : Circ} (hC : WF C) (h : CircT M k C) {s i : Nat} (hs : s < 16) (hi : i < 4) : ∀ (m g : Nat) (u v : Option Val), g + m = cn C → Ev ST miX1_wireBits 12 [some (.inr (cC k 0)), some (.inl (s : Int)), some (.inl (i : Int)), some (.inl (wb C s i g : Nat)), some (.inl (g : Int)), u, v] [] M (Ri (wbits C s i : Nat) M) := by
  have hn := hC.1
  intro m
  induction m with
  | zero =>
    intro g u v hg
    refine ev_iload (np := 14) dX1_wireBits_12 rfl rfl ?_
    refine ev_aload_n (np := 15) dX1_wireBits_14 rfl rfl ?_
    refine ev_getI (np := 18) sX1_wireBits_15 rfl rfl rfl ?_
    rw [h.n]
    refine ev_icmp_ge (tgt := 80) (np := 21) dX1_wireBits_18 (by decide) rfl (by omega) (by omega) (fun _ => ?_) (fun h => absurd (by omega) h)
    refine ev_iload_n (np := 81) dX1_wireBits_80 rfl rfl ?_
    refine ev_iret dX1_wireBits_81 rfl ?_
    exact ⟨by rw [wbits, ← hg]; rfl, rfl⟩
  | succ m ih =>
    intro g u v hg
    have hg1 : g < cn C := by omega
    obtain ⟨h1, h2, h3⟩ := hC.2.2.2 g hg1
    have h4 := h2.lt (by omega)
    have h5 := h3.lt (by omega)
    have hb := wb_lt hC hs hi g (by omega)
    have l1 := bt_lt (wb C s i g) (cf C g)
    have l2 := bt_lt (wb C s i g) (cs C g)
    have l3 := gb_lt (ck C g) h1 _ l1 _ l2
    refine ev_iload (np := 14) dX1_wireBits_12 rfl rfl ?_
    refine ev_aload_n (np := 15) dX1_wireBits_14 rfl rfl ?_
    refine ev_getI (np := 18) sX1_wireBits_15 rfl rfl rfl ?_
    rw [h.n]
    refine ev_icmp_ge (tgt := 80) (np := 21) dX1_wireBits_18 (by decide) rfl (by omega) (by omega) (fun h => absurd h (by omega)) (fun _ => ?_)
    refine ev_iload (np := 23) dX1_wireBits_21 rfl rfl ?_
    refine ev_bipush (np := 25) dX1_wireBits_23 (by decide) rfl ?_
    refine ev_icmp_ge (tgt := 80) (np := 28) dX1_wireBits_25 (by decide) rfl (by omega) (by omega) (fun h => absurd h (by omega)) (fun _ => ?_)
    refine ev_iload_n (np := 29) dX1_wireBits_28 rfl rfl ?_
    refine ev_aload_n (np := 30) dX1_wireBits_29 rfl rfl ?_
    refine ev_iload (np := 32) dX1_wireBits_30 rfl rfl ?_
    refine ev_Vi1 (np := 35) moX1_firstWire sX1_wireBits_32 (sem_firstWire hC h hg1) rfl rfl (Nat.le_of_ble_eq_true rfl) rfl ?_
    refine ev_Ni2 (np := 38) moX9_bitOf sX1_wireBits_35 (sem_bit M (b := wb C s i g) (p := cf C g) (by omega) (by omega)) (Nat.le_of_ble_eq_true rfl) rfl ?_
    refine ev_istore (np := 40) dX1_wireBits_38 (by decide) rfl ?_
    refine ev_iload_n (np := 41) dX1_wireBits_40 rfl rfl ?_
    refine ev_aload_n (np := 42) dX1_wireBits_41 rfl rfl ?_
    refine ev_iload (np := 44) dX1_wireBits_42 rfl rfl ?_
    refine ev_Vi1 (np := 47) moX1_secondWire sX1_wireBits_44 (sem_secondWire hC h hg1) rfl rfl (Nat.le_of_ble_eq_true rfl) rfl ?_
    refine ev_Ni2 (np := 50) moX9_bitOf sX1_wireBits_47 (sem_bit M (b := wb C s i g) (p := cs C g) (by omega) (by omega)) (Nat.le_of_ble_eq_true rfl) rfl ?_
    refine ev_istore (np := 52) dX1_wireBits_50 (by decide) rfl ?_
    refine ev_iload_n (np := 53) dX1_wireBits_52 rfl rfl ?_
    refine ev_aload_n (np := 54) dX1_wireBits_53 rfl rfl ?_
    refine ev_iload (np := 56) dX1_wireBits_54 rfl rfl ?_
    refine ev_Vi1 (np := 59) moX1_kindOf sX1_wireBits_56 (sem_kindOf hC h hg1) rfl rfl (Nat.le_of_ble_eq_true rfl) rfl ?_
    refine ev_iload (np := 61) dX1_wireBits_59 rfl rfl ?_
    refine ev_iload (np := 63) dX1_wireBits_61 rfl rfl ?_
    refine ev_Si3 (np := 66) moX1_gateBit sX1_wireBits_63 (sem_gateBit M h1 l1 l2) (Nat.le_of_ble_eq_true rfl) rfl ?_
    refine ev_bipush (np := 68) dX1_wireBits_66 (by decide) rfl ?_
    refine ev_iload (np := 70) dX1_wireBits_68 rfl rfl ?_
    refine ev_iadd (np := 71) dX1_wireBits_70 rfl ?_
    refine ev_ishl (np := 72) dX1_wireBits_71 (by omega) rfl ?_
    refine ev_ior (np := 73) dX1_wireBits_72 (by omega) (Int.mul_nonneg (by omega) (Int.natCast_nonneg _)) rfl ?_
    rw [show ((6 : Int) + (g : Int)).toNat = 6 + g by omega, or_sh (6 + g)]
    refine ev_istore_n (np := 74) dX1_wireBits_73 (by decide) rfl ?_
    refine ev_iinc (np := 77) dX1_wireBits_74 rfl (by decide) rfl ?_
    refine ev_goto (np := 12) dX1_wireBits_77 (by decide) ?_
    exact ih (g + 1) _ _ (by omega)
theorem sem_wireBits {M : Mem} {k : Fin 4} {C : Circ} (hC : WF C) (h : CircT M k C) {s i : Nat} (hs : s < 16) (hi : i < 4) : Sem ST miX1_wireBits [.inr (cC k 0), .inl (s : Int), .inl (i : Int)] M (Ri (wbits C s i : Nat) M) := by
  refine Sem.of (by decide) ST_ok (Nat.le_of_ble_eq_true rfl) (ls0 := [some (.inr (cC k 0)), some (.inl (s : Int)), some (.inl (i : Int)), none, none, none, none]) rfl ?_
  refine ev_ldc (np := 2) sX1_wireBits_0 rfl ?_
  refine ev_iload_n (np := 3) dX1_wireBits_2 rfl rfl ?_
  refine ev_iconst (np := 4) dX1_wireBits_3 rfl ?_
  refine ev_ishl (np := 5) dX1_wireBits_4 (by omega) rfl ?_
  refine ev_ior (np := 6) dX1_wireBits_5 (by omega) (Int.mul_nonneg (by omega) (Int.natCast_nonneg _)) rfl ?_
  rw [show (((32768 : Int).toNat ||| ((s : Int) * ((2 ^ (2 : Int).toNat : Nat) : Int)).toNat : Nat) : Int) = ((32768 ||| s * 4 : Nat) : Int) from or_sh (a := 32768) 2]
  refine ev_iload_n (np := 7) dX1_wireBits_6 rfl rfl ?_
  refine ev_ior (np := 8) dX1_wireBits_7 (Int.natCast_nonneg _) (by omega) rfl ?_
  rw [Int.toNat_natCast, Int.toNat_natCast]
  refine ev_istore_n (np := 9) dX1_wireBits_8 (by decide) rfl ?_
  refine ev_iconst (np := 10) dX1_wireBits_9 rfl ?_
  refine ev_istore (np := 12) dX1_wireBits_10 (by decide) rfl ?_
  exact wb_loop hC h hs hi (cn C) 0 none none (by omega)
end
section
/-! CIRCUIT: what changes it -/
def Fr (k : Fin 4) (M N : Mem) : Prop := ∀ c, (∀ o, c ≠ cC k o) → N c = M c
theorem Fr.rf {k : Fin 4} {M : Mem} : Fr k M M := fun _ _ => rfl
theorem Fr.tr {k : Fin 4} {M N O : Mem} (a : Fr k M N) (b : Fr k N O) : Fr k M O := fun c h => (b c h).trans (a c h)
theorem Fr.upd {k : Fin 4} {M : Mem} {o j : Nat} {v : Int} : Fr k M (updM M (cC k o) j v) := fun c h => by
  funext i
  unfold updM
  rw [if_neg]
  exact fun e => h o e.1
theorem Fr.sc {k k' : Fin 4} {M N : Mem} (h : Fr k M N) (hk : k' ≠ k) : scell N k' = scell M k' := by
  have e : ∀ o, N (cC k' o) = M (cC k' o) := fun o => h _ (fun o' e => hk (by simp at e; exact e.1))
  funext i
  simp only [scell, e]
def setS (M : Mem) (k : Fin 4) (i : Nat) (v : Int) : Mem := if i = 0 then updM M (cC k 0) 0 v else if i = 1 then updM M (cC k 0) 1 v else if i < 6 then updM M (cC k 2) (i - 2) v else updM M (cC k 4) (i - 6) v
theorem setS_fr (M : Mem) (k : Fin 4) (i : Nat) (v : Int) : Fr k M (setS M k i v) := by
  unfold setS
  split
  · exact Fr.upd
  · split
    · exact Fr.upd
    · split
      · exact Fr.upd
      · exact Fr.upd
theorem setS_sc (M : Mem) (k : Fin 4) (i j : Nat) (v : Int) : scell (setS M k i v) k j = if j = i then v else scell M k j := by
  unfold setS scell
  by_cases i0 : i = 0
  · subst i0
    by_cases j0 : j = 0
    · subst j0; simp [updM]
    · simp [updM, j0]
  · by_cases i1 : i = 1
    · subst i1
      by_cases j0 : j = 0
      · subst j0; simp [updM]
      · by_cases j1 : j = 1
        · subst j1; simp [updM]
        · simp [updM, j0, j1]
    · by_cases i6 : i < 6
      · by_cases j0 : j = 0
        · subst j0; simp [updM, i0, i1, i6, Ne.symm i0]
        · by_cases j1 : j = 1
          · subst j1; simp [updM, i0, i1, i6, Ne.symm i1]
          · by_cases j6 : j < 6
            · have : (j - 2 = i - 2) ↔ (j = i) := by omega
              simp [updM, i0, i1, i6, j0, j1, j6, this]
            · have : ¬ j = i := by omega
              simp [updM, i0, i1, i6, j0, j1, j6, this]
      · by_cases j0 : j = 0
        · subst j0; simp [updM, i0, i1, i6, Ne.symm i0]
        · by_cases j1 : j = 1
          · subst j1; simp [updM, i0, i1, i6, Ne.symm i1]
          · by_cases j6 : j < 6
            · have : ¬ j = i := by omega
              simp [updM, i0, i1, i6, j0, j1, j6, this]
            · have : (j - 6 = i - 6) ↔ (j = i) := by omega
              simp [updM, i0, i1, i6, j0, j1, j6, this]
theorem setS_g (M : Mem) (k : Fin 4) (g : Nat) (v : Int) : updM M (cC k 4) g v = setS M k (6 + g) v := by
  unfold setS
  rw [if_neg (by omega), if_neg (by omega), if_neg (by omega), show 6 + g - 6 = g by omega]
theorem setS_r (M : Mem) (k : Fin 4) {r : Nat} (hr : r < 4) (v : Int) : updM M (cC k 2) r v = setS M k (2 + r) v := by
  unfold setS
  rw [if_neg (by omega), if_neg (by omega), if_pos (by omega), show 2 + r - 2 = r by omega]
theorem setS_n (M : Mem) (k : Fin 4) (v : Int) : updM M (cC k 0) 0 v = setS M k 0 v := by simp [setS]
theorem setS_o (M : Mem) (k : Fin 4) (v : Int) : updM M (cC k 0) 1 v = setS M k 1 v := by simp [setS]
-- values that change
def setG (C : Circ) (g : Nat) (q : Nat × Nat × Nat) : Circ := (if g = cn C then cn C + 1 else cn C, co C, C.2.2.1, C.2.2.2.1, fun j => if j = g then q else C.2.2.2.2 j)
def drpG (C : Circ) : Circ := (cn C - 1, co C, C.2.2.1, C.2.2.2.1, C.2.2.2.2)
def setR (C : Circ) (r x b : Nat) : Circ := (cn C, co C, fun j => if j = r then x else C.2.2.1 j, fun j => if j = r then b else C.2.2.2.1 j, C.2.2.2.2)
def setO (C : Circ) (w : Nat) : Circ := (cn C, w, C.2.2.1, C.2.2.2.1, C.2.2.2.2)
def newC : Circ := (0, 14, fun _ => 14, fun _ => 0, fun _ => (0, 0, 0))
theorem newC_wf : WF newC := ⟨by decide, by decide, fun r _ => ⟨(by decide : (14 : Nat) < 16), (by decide : (0 : Nat) < 2)⟩, fun g h => absurd h (Nat.not_lt_zero g)⟩
theorem setG_wf {C : Circ} (h : WF C) {g : Nat} (hg : g ≤ cn C) (hg8 : g < 8) {q : Nat × Nat × Nat} (hq : q.1 < 6 ∧ FeedN g q.2.1 ∧ FeedN g q.2.2) : WF (setG C g q) := by
  obtain ⟨h1, h2, h3, h4⟩ := h
  refine ⟨?_, h2, h3, fun j hj => ?_⟩
  · show (if g = cn C then cn C + 1 else cn C) ≤ 8
    split <;> omega
  · have hj2 : j < (if g = cn C then cn C + 1 else cn C) := hj
    show (if j = g then q else C.2.2.2.2 j).1 < 6 ∧ FeedN j (if j = g then q else C.2.2.2.2 j).2.1 ∧ FeedN j (if j = g then q else C.2.2.2.2 j).2.2
    by_cases e : j = g
    · rw [if_pos e, e]; exact hq
    · rw [if_neg e]
      refine h4 j ?_
      split at hj2 <;> omega
theorem drpG_wf {C : Circ} (h : WF C) : WF (drpG C) := ⟨by have := h.1; show cn C - 1 ≤ 8; omega, h.2.1, h.2.2.1, fun g hg => h.2.2.2 g (by have : g < cn C - 1 := hg; omega)⟩
theorem setR_wf {C : Circ} (h : WF C) {r x b : Nat} (hx : x < 16) (hb : b < 2) : WF (setR C r x b) := by
  refine ⟨h.1, h.2.1, fun j hj => ?_, h.2.2.2⟩
  show (if j = r then x else C.2.2.1 j) < 16 ∧ (if j = r then b else C.2.2.2.1 j) < 2
  obtain ⟨a, c⟩ := h.2.2.1 j hj
  split
  · exact ⟨hx, hb⟩
  · exact ⟨a, c⟩
theorem setO_wf {C : Circ} (h : WF C) {w : Nat} (hw : w < 16) : WF (setO C w) := ⟨h.1, hw, h.2.2.1, h.2.2.2⟩
theorem sem_setGate {M : Mem} {k : Fin 4} {C : Circ} (hC : WF C) (h : CircT M k C) {g a b c : Nat} (hg : g ≤ cn C) (hg8 : g < 8) (ha : a < 6) (hb : b < 16) (hc : c < 16) : Sem ST miX1_setGate [.inr (cC k 0), .inl (g : Int), .inl (a : Int), .inl (b : Int), .inl (c : Int)] M (fun v N => v = none ∧ CircT N k (setG C g (a, b, c)) ∧ Fr k M N) := by
  refine Sem.of (by decide) ST_ok (Nat.le_of_ble_eq_true rfl) (ls0 := [some (.inr (cC k 0)), some (.inl (g : Int)), some (.inl (a : Int)), some (.inl (b : Int)), some (.inl (c : Int))]) rfl ?_
  have hn := hC.1
  refine ev_aload_n (np := 1) dX1_setGate_0 rfl rfl ?_
  refine ev_getR (np := 4) sX1_setGate_1 rfl rfl rfl ?_
  refine ev_iload_n (np := 5) dX1_setGate_4 rfl rfl ?_
  refine ev_iload_n (np := 6) dX1_setGate_5 rfl rfl ?_
  refine ev_bipush (np := 8) dX1_setGate_6 (by decide) rfl ?_
  refine ev_ishl (np := 9) dX1_setGate_8 (by omega) rfl ?_
  refine ev_iload_n (np := 10) dX1_setGate_9 rfl rfl ?_
  refine ev_iconst (np := 11) dX1_setGate_10 rfl ?_
  refine ev_ishl (np := 12) dX1_setGate_11 (by omega) rfl ?_
  refine ev_ior (np := 13) dX1_setGate_12 (Int.mul_nonneg (by omega) (Int.natCast_nonneg _)) (Int.mul_nonneg (by omega) (Int.natCast_nonneg _)) rfl ?_
  rw [show ((((a : Int) * ((2 ^ (8 : Int).toNat : Nat) : Int)).toNat ||| ((b : Int) * ((2 ^ (4 : Int).toNat : Nat) : Int)).toNat : Nat) : Int) = ((a * 256 ||| b * 16 : Nat) : Int) by
    rw [show ((2 ^ (8 : Int).toNat : Nat) : Int) = 256 from rfl, show ((2 ^ (4 : Int).toNat : Nat) : Int) = 16 from rfl, show ((a : Int) * 256).toNat = a * 256 by omega, show ((b : Int) * 16).toNat = b * 16 by omega]]
  refine ev_iload (np := 15) dX1_setGate_13 rfl rfl ?_
  refine ev_ior (np := 16) dX1_setGate_15 (Int.natCast_nonneg _) (by omega) rfl ?_
  rw [Int.toNat_natCast, Int.toNat_natCast]
  have e : (a * 256 ||| b * 16) ||| c = 256 * a + 16 * b + c := by
    rw [show a * 256 ||| b * 16 = 2 ^ 8 * a + b * 16 by
      rw [show a * 256 = 2 ^ 8 * a by omega, ← Nat.two_pow_add_eq_or_of_lt (by omega)]]
    rw [show 2 ^ 8 * a + b * 16 = 2 ^ 4 * (16 * a + b) by omega, ← Nat.two_pow_add_eq_or_of_lt (by omega)]
    omega
  rw [e]
  refine ev_Vv2 (np := 19) moX6_set sX1_setGate_16 (sem_set (rowG k) M (by omega)) rfl rfl (Nat.le_of_ble_eq_true rfl) rfl ?_
  rw [Int.toNat_natCast, setS_g]
  generalize hM1 : setS M k (6 + g) ((256 * a + 16 * b + c : Nat) : Int) = M1
  have f1 : Fr k M M1 := by rw [← hM1]; exact setS_fr _ _ _ _
  have s1 : ∀ j, scell M1 k j = if j = 6 + g then ((256 * a + 16 * b + c : Nat) : Int) else scell M k j := fun j => by rw [← hM1]; exact setS_sc _ _ _ _ _
  have n1 : M1 (cC k 0) 0 = (cn C : Int) := by
    have := s1 0
    rw [if_neg (by omega), h.1] at this
    simpa [scell] using this
  have fin : ∀ (N : Mem) (nn : Nat), Fr k M1 N → scell N k 0 = (nn : Int) → (∀ j, j ≠ 0 → scell N k j = scell M1 k j) → nn = (if g = cn C then cn C + 1 else cn C) → CircT N k (setG C g (a, b, c)) ∧ Fr k M N := by
    intro N nn f2 e0 e1 e2
    refine ⟨⟨by rw [e0, e2]; rfl, ?_, fun r hr => ?_, fun j hj => ?_⟩, f1.tr f2⟩
    · rw [e1 1 (by decide), s1, if_neg (by omega)]; exact h.2.1
    · rw [e1 _ (by omega), s1, if_neg (by omega)]; exact h.2.2.1 r hr
    · have hj2 : j < (if g = cn C then cn C + 1 else cn C) := hj
      rw [e1 _ (by omega), s1]
      show _ = ((256 * (if j = g then (a, b, c) else C.2.2.2.2 j).1 + 16 * (if j = g then (a, b, c) else C.2.2.2.2 j).2.1 + (if j = g then (a, b, c) else C.2.2.2.2 j).2.2 : Nat) : Int)
      by_cases ej : j = g
      · rw [if_pos (by omega), if_pos ej]
      · rw [if_neg (by omega), if_neg ej]
        refine h.2.2.2 j ?_
        split at hj2 <;> omega
  refine ev_iload_n (np := 20) dX1_setGate_19 rfl rfl ?_
  refine ev_aload_n (np := 21) dX1_setGate_20 rfl rfl ?_
  refine ev_getI (np := 24) sX1_setGate_21 rfl rfl rfl ?_
  rw [n1]
  refine ev_icmp_ne (tgt := 46) (np := 27) dX1_setGate_24 (by decide) rfl (by omega) (by omega) (fun hgn => ?_) (fun hgn => ?_)
  · refine ev_vret dX1_setGate_46 rfl ?_
    have h0 : scell M1 k 0 = (cn C : Int) := by simpa [scell] using n1
    exact ⟨rfl, fin M1 (cn C) Fr.rf h0 (fun _ _ => rfl) (by rw [if_neg (by omega)])⟩
  · refine ev_aload_n (np := 28) dX1_setGate_27 rfl rfl ?_
    refine ev_getI (np := 31) sX1_setGate_28 rfl rfl rfl ?_
    refine ev_bipush (np := 33) dX1_setGate_31 (by decide) rfl ?_
    rw [n1]
    refine ev_icmp_ge (tgt := 46) (np := 36) dX1_setGate_33 (by decide) rfl (by omega) (by omega) (fun h => absurd h (by omega)) (fun _ => ?_)
    refine ev_aload_n (np := 37) dX1_setGate_36 rfl rfl ?_
    refine ev_dup (np := 38) dX1_setGate_37 rfl ?_
    refine ev_getI (np := 41) sX1_setGate_38 rfl rfl rfl ?_
    rw [n1]
    refine ev_iconst (np := 42) dX1_setGate_41 rfl ?_
    refine ev_iadd (np := 43) dX1_setGate_42 rfl ?_
    refine ev_put (np := 46) sX1_setGate_43 rfl rfl rfl ?_
    refine ev_vret dX1_setGate_46 rfl ?_
    rw [setS_n]
    exact ⟨rfl, fin _ (cn C + 1) (setS_fr _ _ _ _) (by rw [setS_sc, if_pos rfl]; rfl) (fun j hj => by rw [setS_sc, if_neg hj]) (by rw [if_pos (by omega)])⟩
theorem sem_dropLast {M : Mem} {k : Fin 4} {C : Circ} (hC : WF C) (h : CircT M k C) (hn : 0 < cn C) : Sem ST miX1_dropLastGate [.inr (cC k 0)] M (fun v N => v = none ∧ CircT N k (drpG C) ∧ Fr k M N) := by
  refine Sem.of (by decide) ST_ok (Nat.le_of_ble_eq_true rfl) (ls0 := [some (.inr (cC k 0))]) rfl ?_
  have hn8 := hC.1
  refine ev_aload_n (np := 1) dX1_dropLastGate_0 rfl rfl ?_
  refine ev_getI (np := 4) sX1_dropLastGate_1 rfl rfl rfl ?_
  rw [h.n]
  refine ev_if_le (tgt := 17) (np := 7) dX1_dropLastGate_4 (by decide) rfl (by omega) (fun h => absurd h (by omega)) (fun _ => ?_)
  refine ev_aload_n (np := 8) dX1_dropLastGate_7 rfl rfl ?_
  refine ev_dup (np := 9) dX1_dropLastGate_8 rfl ?_
  refine ev_getI (np := 12) sX1_dropLastGate_9 rfl rfl rfl ?_
  rw [h.n]
  refine ev_iconst (np := 13) dX1_dropLastGate_12 rfl ?_
  refine ev_isub (np := 14) dX1_dropLastGate_13 rfl ?_
  refine ev_put (np := 17) sX1_dropLastGate_14 rfl rfl rfl ?_
  refine ev_vret dX1_dropLastGate_17 rfl ?_
  rw [setS_n]
  refine ⟨rfl, ⟨?_, ?_, fun r hr => ?_, fun j hj => ?_⟩, setS_fr _ _ _ _⟩
  · rw [setS_sc, if_pos rfl]
    show (cn C : Int) - 1 = ((cn C - 1 : Nat) : Int)
    omega
  · rw [setS_sc, if_neg (by decide)]; exact h.2.1
  · rw [setS_sc, if_neg (by omega)]; exact h.2.2.1 r hr
  · have hj2 : j < cn C - 1 := hj
    rw [setS_sc, if_neg (by omega)]; exact h.2.2.2 j (by omega)
theorem sem_setReg {M : Mem} {k : Fin 4} {C : Circ} (h : CircT M k C) {r x b : Nat} (hr : r < 4) : Sem ST miX1_setRegister [.inr (cC k 0), .inl (r : Int), .inl (x : Int), .inl (b : Int)] M (fun v N => v = none ∧ CircT N k (setR C r x b) ∧ Fr k M N) := by
  intro l ad D ty sz
  refine (sem_setRegister M k (r := (r : Int)) (by omega) (x : Int) (b : Int)).imp ?_ l ad D ty sz
  rintro v N ⟨rfl, rfl⟩
  rw [Int.toNat_natCast, setS_r M k hr]
  refine ⟨rfl, ⟨?_, ?_, fun j hj => ?_, fun j hj => ?_⟩, setS_fr _ _ _ _⟩
  · rw [setS_sc, if_neg (by omega)]; exact h.1
  · rw [setS_sc, if_neg (by omega)]; exact h.2.1
  · rw [setS_sc]
    show _ = ((2 * (if j = r then x else C.2.2.1 j) + (if j = r then b else C.2.2.2.1 j) : Nat) : Int)
    by_cases e : j = r
    · rw [if_pos (by omega), if_pos e, if_pos e]; omega
    · rw [if_neg (by omega), if_neg e, if_neg e]; exact h.2.2.1 j hj
  · rw [setS_sc, if_neg (by omega)]; exact h.2.2.2 j hj
theorem sem_setOut {M : Mem} {k : Fin 4} {C : Circ} (h : CircT M k C) {w : Nat} : Sem ST miX1_setOutputWire [.inr (cC k 0), .inl (w : Int)] M (fun v N => v = none ∧ CircT N k (setO C w) ∧ Fr k M N) := by
  intro l ad D ty sz
  refine (sem_setOutputWire M k (w : Int)).imp ?_ l ad D ty sz
  rintro v N ⟨rfl, rfl⟩
  rw [setS_o M k]
  refine ⟨rfl, ⟨?_, ?_, fun j hj => ?_, fun j hj => ?_⟩, setS_fr _ _ _ _⟩
  · rw [setS_sc, if_neg (by omega)]; exact h.1
  · rw [setS_sc, if_pos rfl]; rfl
  · rw [setS_sc, if_neg (by omega)]; exact h.2.2.1 j hj
  · rw [setS_sc, if_neg (by omega)]; exact h.2.2.2 j hj
end
section
theorem sem_savedCell (M : Mem) (k : Fin 4) {i : Nat} (hi : i < 14) : Sem ST miX1_savedCell [.inr (cC k 0), .inl (i : Int)] M (Ri (scell M k i) M) := by
  refine Sem.of (by decide) ST_ok (Nat.le_of_ble_eq_true rfl) (ls0 := [some (.inr (cC k 0)), some (.inl (i : Int))]) rfl ?_
  unfold scell
  refine ev_iload_n (np := 1) dX1_savedCell_0 rfl rfl ?_
  refine ev_if_ne (tgt := 9) (np := 4) dX1_savedCell_1 (by decide) rfl (by omega) (fun h0 => ?_) (fun h0 => ?_)
  · rw [if_neg (by omega)]
    refine ev_iload_n (np := 10) dX1_savedCell_9 rfl rfl ?_
    refine ev_iconst (np := 11) dX1_savedCell_10 rfl ?_
    refine ev_icmp_ne (tgt := 19) (np := 14) dX1_savedCell_11 (by decide) rfl (by omega) (by omega) (fun h1 => ?_) (fun h1 => ?_)
    · rw [if_neg (by omega)]
      refine ev_iload_n (np := 20) dX1_savedCell_19 rfl rfl ?_
      refine ev_bipush (np := 22) dX1_savedCell_20 (by decide) rfl ?_
      refine ev_icmp_ge (tgt := 38) (np := 25) dX1_savedCell_22 (by decide) rfl (by omega) (by omega) (fun h6 => ?_) (fun h6 => ?_)
      · rw [if_neg (by omega)]
        refine ev_aload_n (np := 39) dX1_savedCell_38 rfl rfl ?_
        refine ev_getR (np := 42) sX1_savedCell_39 rfl rfl rfl ?_
        refine ev_iload_n (np := 43) dX1_savedCell_42 rfl rfl ?_
        refine ev_iconst (np := 44) dX1_savedCell_43 rfl ?_
        refine ev_isub (np := 45) dX1_savedCell_44 rfl ?_
        refine ev_iconst (np := 46) dX1_savedCell_45 rfl ?_
        refine ev_isub (np := 47) dX1_savedCell_46 rfl ?_
        refine ev_Vi1 (np := 50) moX6_get sX1_savedCell_47 (sem_get (rowG k) M (by omega)) rfl rfl (Nat.le_of_ble_eq_true rfl) rfl ?_
        rw [show ((i : Int) - 2 - 4).toNat = i - 6 by omega]
        refine ev_iret dX1_savedCell_50 rfl ?_
        exact ⟨rfl, rfl⟩
      · rw [if_pos (by omega)]
        refine ev_aload_n (np := 26) dX1_savedCell_25 rfl rfl ?_
        refine ev_getR (np := 29) sX1_savedCell_26 rfl rfl rfl ?_
        refine ev_iload_n (np := 30) dX1_savedCell_29 rfl rfl ?_
        refine ev_iconst (np := 31) dX1_savedCell_30 rfl ?_
        refine ev_isub (np := 32) dX1_savedCell_31 rfl ?_
        refine ev_Vi1 (np := 35) moX6_get sX1_savedCell_32 (sem_get (rowR k) M (by omega)) rfl rfl (Nat.le_of_ble_eq_true rfl) rfl ?_
        rw [show ((i : Int) - 2).toNat = i - 2 by omega]
        refine ev_goto (np := 50) dX1_savedCell_35 (by decide) ?_
        refine ev_iret dX1_savedCell_50 rfl ?_
        exact ⟨rfl, rfl⟩
    · rw [if_pos (by omega)]
      refine ev_aload_n (np := 15) dX1_savedCell_14 rfl rfl ?_
      refine ev_getI (np := 18) sX1_savedCell_15 rfl rfl rfl ?_
      refine ev_iret dX1_savedCell_18 rfl ?_
      exact ⟨rfl, rfl⟩
  · rw [if_pos (by omega)]
    refine ev_aload_n (np := 5) dX1_savedCell_4 rfl rfl ?_
    refine ev_getI (np := 8) sX1_savedCell_5 rfl rfl rfl ?_
    refine ev_iret dX1_savedCell_8 rfl ?_
    exact ⟨rfl, rfl⟩
theorem sem_setSavedCell (M : Mem) (k : Fin 4) {i : Nat} (hi : i < 14) (v : Int) : Sem ST miX1_setSavedCell [.inr (cC k 0), .inl (i : Int), .inl v] M (Rv (setS M k i v)) := by
  refine Sem.of (by decide) ST_ok (Nat.le_of_ble_eq_true rfl) (ls0 := [some (.inr (cC k 0)), some (.inl (i : Int)), some (.inl v)]) rfl ?_
  unfold setS
  refine ev_iload_n (np := 1) dX1_setSavedCell_0 rfl rfl ?_
  refine ev_if_ne (tgt := 12) (np := 4) dX1_setSavedCell_1 (by decide) rfl (by omega) (fun h0 => ?_) (fun h0 => ?_)
  · rw [if_neg (by omega)]
    refine ev_iload_n (np := 13) dX1_setSavedCell_12 rfl rfl ?_
    refine ev_iconst (np := 14) dX1_setSavedCell_13 rfl ?_
    refine ev_icmp_ne (tgt := 25) (np := 17) dX1_setSavedCell_14 (by decide) rfl (by omega) (by omega) (fun h1 => ?_) (fun h1 => ?_)
    · rw [if_neg (by omega)]
      refine ev_iload_n (np := 26) dX1_setSavedCell_25 rfl rfl ?_
      refine ev_bipush (np := 28) dX1_setSavedCell_26 (by decide) rfl ?_
      refine ev_icmp_ge (tgt := 45) (np := 31) dX1_setSavedCell_28 (by decide) rfl (by omega) (by omega) (fun h6 => ?_) (fun h6 => ?_)
      · rw [if_neg (by omega)]
        refine ev_aload_n (np := 46) dX1_setSavedCell_45 rfl rfl ?_
        refine ev_getR (np := 49) sX1_setSavedCell_46 rfl rfl rfl ?_
        refine ev_iload_n (np := 50) dX1_setSavedCell_49 rfl rfl ?_
        refine ev_iconst (np := 51) dX1_setSavedCell_50 rfl ?_
        refine ev_isub (np := 52) dX1_setSavedCell_51 rfl ?_
        refine ev_iconst (np := 53) dX1_setSavedCell_52 rfl ?_
        refine ev_isub (np := 54) dX1_setSavedCell_53 rfl ?_
        refine ev_iload_n (np := 55) dX1_setSavedCell_54 rfl rfl ?_
        refine ev_Vv2 (np := 58) moX6_set sX1_setSavedCell_55 (sem_set (rowG k) M (by omega)) rfl rfl (Nat.le_of_ble_eq_true rfl) rfl ?_
        rw [show ((i : Int) - 2 - 4).toNat = i - 6 by omega]
        refine ev_vret dX1_setSavedCell_58 rfl ?_
        exact ⟨rfl, rfl⟩
      · rw [if_pos (by omega)]
        refine ev_aload_n (np := 32) dX1_setSavedCell_31 rfl rfl ?_
        refine ev_getR (np := 35) sX1_setSavedCell_32 rfl rfl rfl ?_
        refine ev_iload_n (np := 36) dX1_setSavedCell_35 rfl rfl ?_
        refine ev_iconst (np := 37) dX1_setSavedCell_36 rfl ?_
        refine ev_isub (np := 38) dX1_setSavedCell_37 rfl ?_
        refine ev_iload_n (np := 39) dX1_setSavedCell_38 rfl rfl ?_
        refine ev_Vv2 (np := 42) moX6_set sX1_setSavedCell_39 (sem_set (rowR k) M (by omega)) rfl rfl (Nat.le_of_ble_eq_true rfl) rfl ?_
        rw [show ((i : Int) - 2).toNat = i - 2 by omega]
        refine ev_goto (np := 58) dX1_setSavedCell_42 (by decide) ?_
        refine ev_vret dX1_setSavedCell_58 rfl ?_
        exact ⟨rfl, rfl⟩
    · rw [if_pos (by omega)]
      refine ev_aload_n (np := 18) dX1_setSavedCell_17 rfl rfl ?_
      refine ev_iload_n (np := 19) dX1_setSavedCell_18 rfl rfl ?_
      refine ev_put (np := 22) sX1_setSavedCell_19 rfl rfl rfl ?_
      refine ev_goto (np := 58) dX1_setSavedCell_22 (by decide) ?_
      refine ev_vret dX1_setSavedCell_58 rfl ?_
      exact ⟨rfl, rfl⟩
  · rw [if_pos (by omega)]
    refine ev_aload_n (np := 5) dX1_setSavedCell_4 rfl rfl ?_
    refine ev_iload_n (np := 6) dX1_setSavedCell_5 rfl rfl ?_
    refine ev_put (np := 9) sX1_setSavedCell_6 rfl rfl rfl ?_
    refine ev_goto (np := 58) dX1_setSavedCell_9 (by decide) ?_
    refine ev_vret dX1_setSavedCell_58 rfl ?_
    exact ⟨rfl, rfl⟩
/-- a circuit's cells copied -/
def Tk (k k' : Fin 4) (M N : Mem) : Prop := (∀ i, i < 14 → scell N k i = scell M k' i) ∧ Fr k M N
theorem Tk.circ {k k' : Fin 4} {M N : Mem} {C : Circ} (hC : WF C) (h : Tk k k' M N) (h2 : CircT M k' C) : CircT N k C := CircS.of hC h2 h.1
theorem take_loop {k k' : Fin 4} (hk : k' ≠ k) (M : Mem) : ∀ (m i : Nat) (N : Mem), i + m = 14 → (∀ j, j < i → scell N k j = scell M k' j) → Fr k M N → Ev ST miX1_takeFrom 2 [some (.inr (cC k 0)), some (.inr (cC k' 0)), some (.inl (i : Int))] [] N (fun v N => v = none ∧ Tk k k' M N) := by
  intro m
  induction m with
  | zero =>
    intro i N h1 h2 h3
    refine ev_iload_n (np := 3) dX1_takeFrom_2 rfl rfl ?_
    refine ev_bipush (np := 5) dX1_takeFrom_3 (by decide) rfl ?_
    refine ev_icmp_ge (tgt := 24) (np := 8) dX1_takeFrom_5 (by decide) rfl (by omega) (by omega) (fun _ => ?_) (fun h => absurd (by omega) h)
    refine ev_vret dX1_takeFrom_24 rfl ?_
    exact ⟨rfl, fun j hj => h2 j (by omega), h3⟩
  | succ m ih =>
    intro i N h1 h2 h3
    refine ev_iload_n (np := 3) dX1_takeFrom_2 rfl rfl ?_
    refine ev_bipush (np := 5) dX1_takeFrom_3 (by decide) rfl ?_
    refine ev_icmp_ge (tgt := 24) (np := 8) dX1_takeFrom_5 (by decide) rfl (by omega) (by omega) (fun h => absurd h (by omega)) (fun _ => ?_)
    refine ev_aload_n (np := 9) dX1_takeFrom_8 rfl rfl ?_
    refine ev_iload_n (np := 10) dX1_takeFrom_9 rfl rfl ?_
    refine ev_aload_n (np := 11) dX1_takeFrom_10 rfl rfl ?_
    refine ev_iload_n (np := 12) dX1_takeFrom_11 rfl rfl ?_
    refine ev_Vi1 (np := 15) moX1_savedCell sX1_takeFrom_12 (sem_savedCell N k' (i := i) (by omega)) rfl rfl (Nat.le_of_ble_eq_true rfl) rfl ?_
    refine ev_Vv2 (np := 18) moX1_setSavedCell sX1_takeFrom_15 (sem_setSavedCell N k (i := i) (by omega) _) rfl rfl (Nat.le_of_ble_eq_true rfl) rfl ?_
    refine ev_iinc (np := 21) dX1_takeFrom_18 rfl (by decide) rfl ?_
    refine ev_goto (np := 2) dX1_takeFrom_21 (by decide) ?_
    refine ih (i + 1) _ (by omega) (fun j hj => ?_) (h3.tr (setS_fr _ _ _ _))
    rw [setS_sc]
    by_cases e : j = i
    · rw [if_pos e, e, h3.sc hk]
    · rw [if_neg e]; exact h2 j (by omega)
theorem sem_takeFrom {k k' : Fin 4} (hk : k' ≠ k) (M : Mem) : Sem ST miX1_takeFrom [.inr (cC k 0), .inr (cC k' 0)] M (fun v N => v = none ∧ Tk k k' M N) := by
  refine Sem.of (by decide) ST_ok (Nat.le_of_ble_eq_true rfl) (ls0 := [some (.inr (cC k 0)), some (.inr (cC k' 0)), none]) rfl ?_
  refine ev_iconst (np := 1) dX1_takeFrom_0 rfl ?_
  refine ev_istore_n (np := 2) dX1_takeFrom_1 (by decide) rfl ?_
  exact take_loop hk M 14 0 M rfl (fun j hj => absurd hj (Nat.not_lt_zero j)) Fr.rf
theorem anew_loop {k : Fin 4} (M : Mem) : ∀ (m i : Nat) (N : Mem), i + m = 4 → scell N k 0 = 0 → scell N k 1 = 14 → (∀ j, j < i → scell N k (2 + j) = 28) → Fr k M N → Ev ST miX1_startAnew 13 [some (.inr (cC k 0)), some (.inl (i : Int))] [] N (fun v N => v = none ∧ CircT N k newC ∧ Fr k M N) := by
  intro m
  induction m with
  | zero =>
    intro i N h1 h2 h3 h4 h5
    refine ev_iload_n (np := 14) dX1_startAnew_13 rfl rfl ?_
    refine ev_iconst (np := 15) dX1_startAnew_14 rfl ?_
    refine ev_icmp_ge (tgt := 32) (np := 18) dX1_startAnew_15 (by decide) rfl (by omega) (by omega) (fun _ => ?_) (fun h => absurd (by omega) h)
    refine ev_vret dX1_startAnew_32 rfl ?_
    exact ⟨rfl, ⟨h2, h3, fun r hr => h4 r (by omega), fun g hg => absurd hg (Nat.not_lt_zero g)⟩, h5⟩
  | succ m ih =>
    intro i N h1 h2 h3 h4 h5
    refine ev_iload_n (np := 14) dX1_startAnew_13 rfl rfl ?_
    refine ev_iconst (np := 15) dX1_startAnew_14 rfl ?_
    refine ev_icmp_ge (tgt := 32) (np := 18) dX1_startAnew_15 (by decide) rfl (by omega) (by omega) (fun h => absurd h (by omega)) (fun _ => ?_)
    refine ev_aload_n (np := 19) dX1_startAnew_18 rfl rfl ?_
    refine ev_iload_n (np := 20) dX1_startAnew_19 rfl rfl ?_
    refine ev_bipush (np := 22) dX1_startAnew_20 (by decide) rfl ?_
    refine ev_iconst (np := 23) dX1_startAnew_22 rfl ?_
    refine ev_Vv3 (np := 26) moX1_setRegister sX1_startAnew_23 (sem_setRegister N k (r := (i : Int)) (by omega) 14 0) rfl rfl (Nat.le_of_ble_eq_true rfl) rfl ?_
    refine ev_iinc (np := 29) dX1_startAnew_26 rfl (by decide) rfl ?_
    refine ev_goto (np := 13) dX1_startAnew_29 (by decide) ?_
    rw [Int.toNat_natCast, setS_r N k (by omega)]
    refine ih (i + 1) _ (by omega) ?_ ?_ (fun j hj => ?_) (h5.tr (setS_fr _ _ _ _))
    · rw [setS_sc, if_neg (by omega)]; exact h2
    · rw [setS_sc, if_neg (by omega)]; exact h3
    · rw [setS_sc]
      by_cases e : j = i
      · rw [if_pos (by omega)]; rfl
      · rw [if_neg (by omega)]; exact h4 j (by omega)
theorem sem_startAnew {k : Fin 4} (M : Mem) : Sem ST miX1_startAnew [.inr (cC k 0)] M (fun v N => v = none ∧ CircT N k newC ∧ Fr k M N) := by
  refine Sem.of (by decide) ST_ok (Nat.le_of_ble_eq_true rfl) (ls0 := [some (.inr (cC k 0)), none]) rfl ?_
  refine ev_aload_n (np := 1) dX1_startAnew_0 rfl rfl ?_
  refine ev_iconst (np := 2) dX1_startAnew_1 rfl ?_
  refine ev_put (np := 5) sX1_startAnew_2 rfl rfl rfl ?_
  refine ev_aload_n (np := 6) dX1_startAnew_5 rfl rfl ?_
  refine ev_bipush (np := 8) dX1_startAnew_6 (by decide) rfl ?_
  refine ev_put (np := 11) sX1_startAnew_8 rfl rfl rfl ?_
  refine ev_iconst (np := 12) dX1_startAnew_11 rfl ?_
  refine ev_istore_n (np := 13) dX1_startAnew_12 (by decide) rfl ?_
  rw [setS_n, setS_o]
  refine anew_loop M 4 0 _ rfl ?_ ?_ (fun j hj => absurd hj (Nat.not_lt_zero j)) ((setS_fr _ _ _ _).tr (setS_fr _ _ _ _))
  · rw [setS_sc, if_neg (by decide), setS_sc, if_pos rfl]
  · rw [setS_sc, if_pos rfl]
theorem sem_gateOnWire {M : Mem} {k : Fin 4} {C : Circ} (hC : WF C) (h : CircT M k C) {w : Nat} (hw : w < 16) : Sem ST miX1_gateOnWire [.inr (cC k 0), .inl (w : Int)] M (Ri (gw (cn C) w : Nat) M) := by
  refine Sem.of (by decide) ST_ok (Nat.le_of_ble_eq_true rfl) (ls0 := [some (.inr (cC k 0)), some (.inl (w : Int)), none]) rfl ?_
  have hn := hC.1
  refine ev_iload_n (np := 1) dX1_gateOnWire_0 rfl rfl ?_
  refine ev_bipush (np := 3) dX1_gateOnWire_1 (by decide) rfl ?_
  refine ev_isub (np := 4) dX1_gateOnWire_3 rfl ?_
  refine ev_istore_n (np := 5) dX1_gateOnWire_4 (by decide) rfl ?_
  refine ev_iload_n (np := 6) dX1_gateOnWire_5 rfl rfl ?_
  refine ev_iconst (np := 7) dX1_gateOnWire_6 rfl ?_
  refine ev_aload_n (np := 8) dX1_gateOnWire_7 rfl rfl ?_
  refine ev_getI (np := 11) sX1_gateOnWire_8 rfl rfl rfl ?_
  rw [h.n]
  refine ev_iconst (np := 12) dX1_gateOnWire_11 rfl ?_
  refine ev_isub (np := 13) dX1_gateOnWire_12 rfl ?_
  by_cases hq : 6 ≤ w ∧ w - 6 < cn C
  · refine ev_Ni3 (np := 16) moX9_isWithin sX1_gateOnWire_13 (sem_within_t M (by omega) (by omega) (by omega) (by omega)) (Nat.le_of_ble_eq_true rfl) rfl ?_
    refine ev_if_eq (tgt := 25) (np := 19) dX1_gateOnWire_16 (by decide) rfl (by omega) (fun h => absurd h (by omega)) (fun _ => ?_)
    refine ev_iconst (np := 20) dX1_gateOnWire_19 rfl ?_
    refine ev_iload_n (np := 21) dX1_gateOnWire_20 rfl rfl ?_
    refine ev_ishl (np := 22) dX1_gateOnWire_21 (by omega) rfl ?_
    refine ev_goto (np := 26) dX1_gateOnWire_22 (by decide) ?_
    refine ev_iret dX1_gateOnWire_26 rfl ?_
    refine ⟨?_, rfl⟩
    rw [gw, if_pos hq, Int.one_mul, show ((w : Int) - 6).toNat = w - 6 by omega]
  · refine ev_Ni3 (np := 16) moX9_isWithin sX1_gateOnWire_13 (sem_within_f M (by omega) (by omega) (by omega) (by omega)) (Nat.le_of_ble_eq_true rfl) rfl ?_
    refine ev_if_eq (tgt := 25) (np := 19) dX1_gateOnWire_16 (by decide) rfl (by omega) (fun _ => ?_) (fun h => absurd (by omega) h)
    refine ev_iconst (np := 26) dX1_gateOnWire_25 rfl ?_
    refine ev_iret dX1_gateOnWire_26 rfl ?_
    exact ⟨by rw [gw, if_neg hq]; rfl, rfl⟩
theorem bt_high {f n g : Nat} (hf : f < 2 ^ n) (hg : n ≤ g) : bt f g = 0 := by
  unfold bt
  rw [Nat.div_eq_of_lt (Nat.lt_of_lt_of_le hf (Nat.pow_le_pow_right (by decide) hg))]
theorem dep_loop {M : Mem} {k : Fin 4} {C : Circ} (hC : WF C) (h : CircT M k C) : ∀ (g f : Nat), g ≤ 8 → f < 2 ^ cn C → Ev ST miX1_gatesBehindOutput 12 [some (.inr (cC k 0)), some (.inl (f : Int)), some (.inl ((g : Int) - 1))] [] M (Ri (depS C g f : Nat) M) := by
  have hn := hC.1
  have h28 : 2 ^ cn C ≤ 2 ^ 8 := Nat.pow_le_pow_right (by decide) hn
  intro g
  induction g with
  | zero =>
    intro f hg hf
    refine ev_iload_n (np := 13) dX1_gatesBehindOutput_12 rfl rfl ?_
    refine ev_if_lt (tgt := 64) (np := 16) dX1_gatesBehindOutput_13 (by decide) rfl (by omega) (fun _ => ?_) (fun h => absurd (by omega) h)
    refine ev_iload_n (np := 65) dX1_gatesBehindOutput_64 rfl rfl ?_
    refine ev_iret dX1_gatesBehindOutput_65 rfl ?_
    exact ⟨rfl, rfl⟩
  | succ g ih =>
    intro f hg hf
    rw [show (((g + 1 : Nat) : Int)) - 1 = (g : Int) by omega]
    refine ev_iload_n (np := 13) dX1_gatesBehindOutput_12 rfl rfl ?_
    refine ev_if_lt (tgt := 64) (np := 16) dX1_gatesBehindOutput_13 (by decide) rfl (by omega) (fun h => absurd h (by omega)) (fun _ => ?_)
    refine ev_iload_n (np := 17) dX1_gatesBehindOutput_16 rfl rfl ?_
    refine ev_iload_n (np := 18) dX1_gatesBehindOutput_17 rfl rfl ?_
    refine ev_Ni2 (np := 21) moX9_bitOf sX1_gatesBehindOutput_18 (sem_bit M (b := f) (p := g) (by omega) (by omega)) (Nat.le_of_ble_eq_true rfl) rfl ?_
    have hb := bt_lt f g
    refine ev_iconst (np := 22) dX1_gatesBehindOutput_21 rfl ?_
    refine ev_icmp_ne (tgt := 58) (np := 25) dX1_gatesBehindOutput_22 (by decide) rfl (by omega) (by omega) (fun h1 => ?_) (fun h1 => ?_)
    · refine ev_iinc (np := 61) dX1_gatesBehindOutput_58 rfl (by decide) rfl ?_
      refine ev_goto (np := 12) dX1_gatesBehindOutput_61 (by decide) ?_
      unfold depS
      rw [if_neg (by omega)]
      exact ih f (by omega) hf
    · have hgn : g < cn C := by
        rcases Nat.lt_or_ge g (cn C) with a | a
        · exact a
        · have := bt_high hf a
          omega
      obtain ⟨k1, k2, k3⟩ := hC.2.2.2 g hgn
      have k4 := k2.lt (by omega)
      have k5 := k3.lt (by omega)
      have g1 := gw_lt (n := cn C) (w := cf C g)
      have g2 := gw_lt (n := cn C) (w := cs C g)
      have o1 : f ||| gw (cn C) (cf C g) < 2 ^ cn C := Nat.or_lt_two_pow hf g1
      have o2 : (f ||| gw (cn C) (cf C g)) ||| gw (cn C) (cs C g) < 2 ^ cn C := Nat.or_lt_two_pow o1 g2
      unfold depS
      rw [if_pos (by omega)]
      refine ev_iload_n (np := 26) dX1_gatesBehindOutput_25 rfl rfl ?_
      refine ev_aload_n (np := 27) dX1_gatesBehindOutput_26 rfl rfl ?_
      refine ev_aload_n (np := 28) dX1_gatesBehindOutput_27 rfl rfl ?_
      refine ev_iload_n (np := 29) dX1_gatesBehindOutput_28 rfl rfl ?_
      refine ev_Vi1 (np := 32) moX1_firstWire sX1_gatesBehindOutput_29 (sem_firstWire hC h hgn) rfl rfl (Nat.le_of_ble_eq_true rfl) rfl ?_
      refine ev_Vi1 (np := 35) moX1_gateOnWire sX1_gatesBehindOutput_32 (sem_gateOnWire hC h k4) rfl rfl (Nat.le_of_ble_eq_true rfl) rfl ?_
      refine ev_ior (np := 36) dX1_gatesBehindOutput_35 (by omega) (by omega) rfl ?_
      rw [Int.toNat_natCast, Int.toNat_natCast]
      refine ev_istore_n (np := 37) dX1_gatesBehindOutput_36 (by decide) rfl ?_
      refine ev_aload_n (np := 38) dX1_gatesBehindOutput_37 rfl rfl ?_
      refine ev_iload_n (np := 39) dX1_gatesBehindOutput_38 rfl rfl ?_
      refine ev_Vi1 (np := 42) moX1_kindOf sX1_gatesBehindOutput_39 (sem_kindOf hC h hgn) rfl rfl (Nat.le_of_ble_eq_true rfl) rfl ?_
      refine ev_iconst (np := 43) dX1_gatesBehindOutput_42 rfl ?_
      refine ev_icmp_ge (tgt := 58) (np := 46) dX1_gatesBehindOutput_43 (by decide) rfl (by omega) (by omega) (fun h2 => ?_) (fun h2 => ?_)
      · refine ev_iinc (np := 61) dX1_gatesBehindOutput_58 rfl (by decide) rfl ?_
        refine ev_goto (np := 12) dX1_gatesBehindOutput_61 (by decide) ?_
        rw [if_neg (by omega)]
        exact ih _ (by omega) o1
      · refine ev_iload_n (np := 47) dX1_gatesBehindOutput_46 rfl rfl ?_
        refine ev_aload_n (np := 48) dX1_gatesBehindOutput_47 rfl rfl ?_
        refine ev_aload_n (np := 49) dX1_gatesBehindOutput_48 rfl rfl ?_
        refine ev_iload_n (np := 50) dX1_gatesBehindOutput_49 rfl rfl ?_
        refine ev_Vi1 (np := 53) moX1_secondWire sX1_gatesBehindOutput_50 (sem_secondWire hC h hgn) rfl rfl (Nat.le_of_ble_eq_true rfl) rfl ?_
        refine ev_Vi1 (np := 56) moX1_gateOnWire sX1_gatesBehindOutput_53 (sem_gateOnWire hC h k5) rfl rfl (Nat.le_of_ble_eq_true rfl) rfl ?_
        refine ev_ior (np := 57) dX1_gatesBehindOutput_56 (by omega) (by omega) rfl ?_
        rw [Int.toNat_natCast, Int.toNat_natCast]
        refine ev_istore_n (np := 58) dX1_gatesBehindOutput_57 (by decide) rfl ?_
        refine ev_iinc (np := 61) dX1_gatesBehindOutput_58 rfl (by decide) rfl ?_
        refine ev_goto (np := 12) dX1_gatesBehindOutput_61 (by decide) ?_
        rw [if_pos (by omega)]
        exact ih _ (by omega) o2
theorem sem_gatesBehind {M : Mem} {k : Fin 4} {C : Circ} (hC : WF C) (h : CircT M k C) : Sem ST miX1_gatesBehindOutput [.inr (cC k 0)] M (Ri (depS C 8 (gw (cn C) (co C)) : Nat) M) := by
  refine Sem.of (by decide) ST_ok (Nat.le_of_ble_eq_true rfl) (ls0 := [some (.inr (cC k 0)), none, none]) rfl ?_
  refine ev_aload_n (np := 1) dX1_gatesBehindOutput_0 rfl rfl ?_
  refine ev_aload_n (np := 2) dX1_gatesBehindOutput_1 rfl rfl ?_
  refine ev_getI (np := 5) sX1_gatesBehindOutput_2 rfl rfl rfl ?_
  rw [h.o]
  refine ev_Vi1 (np := 8) moX1_gateOnWire sX1_gatesBehindOutput_5 (sem_gateOnWire hC h hC.2.1) rfl rfl (Nat.le_of_ble_eq_true rfl) rfl ?_
  refine ev_istore_n (np := 9) dX1_gatesBehindOutput_8 (by decide) rfl ?_
  refine ev_bipush (np := 11) dX1_gatesBehindOutput_9 (by decide) rfl ?_
  refine ev_istore_n (np := 12) dX1_gatesBehindOutput_11 (by decide) rfl ?_
  exact dep_loop hC h 8 _ (by decide) gw_lt
end
section
/-! STEP TABLES -/
/-- only cells that U names have changed -/
def Fx (U : Cc → Bool) (M N : Mem) : Prop := ∀ c, U c = false → N c = M c
theorem Fx.rf {U : Cc → Bool} {M : Mem} : Fx U M M := fun _ _ => rfl
theorem Fx.tr {U : Cc → Bool} {M N O : Mem} (a : Fx U M N) (b : Fx U N O) : Fx U M O := fun c h => (b c h).trans (a c h)
theorem Fx.mono {U V : Cc → Bool} {M N : Mem} (a : Fx U M N) (h : ∀ c, U c = true → V c = true) : Fx V M N := fun c hc => a c (by
  cases e : U c with
  | false => rfl
  | true => rw [h c e] at hc; cases hc)
theorem Fx.upd {U : Cc → Bool} {M : Mem} {c : Cc} {j : Nat} {v : Int} (h : U c = true) : Fx U M (updM M c j v) := fun d hd => by
  funext i
  unfold updM
  rw [if_neg]
  intro e
  rw [e.1, h] at hd
  cases hd
def uC (k : Fin 4) : Cc → Bool
  | .inr (.inl (k', _)) => k' == k
  | _ => false
def uT (t : Fin 3) : Cc → Bool
  | .inr (.inr (t', _)) => t' == t
  | _ => false
def uX (lo hi : Nat) : Cc → Bool
  | .inl n => decide (lo ≤ n ∧ n < hi)
  | _ => false
theorem Fr.fx {k : Fin 4} {M N : Mem} (h : Fr k M N) : Fx (uC k) M N := fun c hc => h c (fun o e => by rw [e] at hc; simp [uC] at hc)
theorem Fx.sc {U : Cc → Bool} {M N : Mem} (h : Fx U M N) {k : Fin 4} (hk : ∀ o, U (cC k o) = false) : scell N k = scell M k := by
  funext i
  simp only [scell, h _ (hk _)]
theorem Fx.circ {U : Cc → Bool} {M N : Mem} (h : Fx U M N) {k : Fin 4} (hk : ∀ o, U (cC k o) = false) {C : Circ} (hC : CircT M k C) : CircT N k C := by
  show CircS (scell N k) C
  rw [h.sc hk]
  exact hC
def TabT (M : Mem) (t : Fin 3) (T : Tab) : Prop := (∀ s, s < 16 → ∀ i, i < 4 → M (cT t 2) (4 * s + i) = (T.1 s i : Int)) ∧ (∀ s, s < 16 → M (cT t 4) s = (T.2.1 s : Int)) ∧ M (cT t 0) 2 = (T.2.2 : Int)
theorem Fx.tab {U : Cc → Bool} {M N : Mem} (h : Fx U M N) {t : Fin 3} (ht : ∀ o, U (cT t o) = false) {T : Tab} (hT : TabT M t T) : TabT N t T :=
  ⟨fun s hs i hi => by rw [h _ (ht _)]; exact hT.1 s hs i hi, fun s hs => by rw [h _ (ht _)]; exact hT.2.1 s hs, by rw [h _ (ht _)]; exact hT.2.2⟩
theorem rowB (t : Fin 3) : IsRow (cT t 1) (cT t 2) 64 := ⟨rfl, rfl, by decide⟩
theorem rowO (t : Fin 3) : IsRow (cT t 3) (cT t 4) 16 := ⟨rfl, rfl, by decide⟩
theorem sem_tFirst {M : Mem} {t : Fin 3} {T : Tab} (h : TabT M t T) : Sem ST miX7_firstState [.inr (cT t 0)] M (Ri (T.2.2 : Nat) M) := by
  refine Sem.of (by decide) ST_ok (Nat.le_of_ble_eq_true rfl) (ls0 := [some (.inr (cT t 0))]) rfl ?_
  refine ev_aload_n (np := 1) dX7_firstState_0 rfl rfl ?_
  refine ev_getI (np := 4) sX7_firstState_1 rfl rfl rfl ?_
  rw [h.2.2]
  refine ev_iret dX7_firstState_4 rfl ?_
  exact ⟨rfl, rfl⟩
theorem sem_tBehind {M : Mem} {t : Fin 3} {T : Tab} (h : TabT M t T) {s i : Nat} (hs : s < 16) (hi : i < 4) : Sem ST miX7_stateBehind [.inr (cT t 0), .inl (s : Int), .inl (i : Int)] M (Ri (T.1 s i : Nat) M) := by
  refine Sem.of (by decide) ST_ok (Nat.le_of_ble_eq_true rfl) (ls0 := [some (.inr (cT t 0)), some (.inl (s : Int)), some (.inl (i : Int))]) rfl ?_
  refine ev_aload_n (np := 1) dX7_stateBehind_0 rfl rfl ?_
  refine ev_getR (np := 4) sX7_stateBehind_1 rfl rfl rfl ?_
  refine ev_iload_n (np := 5) dX7_stateBehind_4 rfl rfl ?_
  refine ev_iconst (np := 6) dX7_stateBehind_5 rfl ?_
  refine ev_imul (np := 7) dX7_stateBehind_6 rfl ?_
  refine ev_iload_n (np := 8) dX7_stateBehind_7 rfl rfl ?_
  refine ev_iadd (np := 9) dX7_stateBehind_8 rfl ?_
  refine ev_Vi1 (np := 12) moX6_get sX7_stateBehind_9 (sem_get (rowB t) M (by omega)) rfl rfl (Nat.le_of_ble_eq_true rfl) rfl ?_
  rw [show ((s : Int) * 4 + (i : Int)).toNat = 4 * s + i by omega, h.1 s hs i hi]
  refine ev_iret dX7_stateBehind_12 rfl ?_
  exact ⟨rfl, rfl⟩
theorem sem_tOut {M : Mem} {t : Fin 3} {T : Tab} (h : TabT M t T) {s : Nat} (hs : s < 16) : Sem ST miX7_outputSet [.inr (cT t 0), .inl (s : Int)] M (Ri (T.2.1 s : Nat) M) := by
  refine Sem.of (by decide) ST_ok (Nat.le_of_ble_eq_true rfl) (ls0 := [some (.inr (cT t 0)), some (.inl (s : Int))]) rfl ?_
  refine ev_aload_n (np := 1) dX7_outputSet_0 rfl rfl ?_
  refine ev_getR (np := 4) sX7_outputSet_1 rfl rfl rfl ?_
  refine ev_iload_n (np := 5) dX7_outputSet_4 rfl rfl ?_
  refine ev_Vi1 (np := 8) moX6_get sX7_outputSet_5 (sem_get (rowO t) M (by omega)) rfl rfl (Nat.le_of_ble_eq_true rfl) rfl ?_
  rw [Int.toNat_natCast, h.2.1 s hs]
  refine ev_iret dX7_outputSet_8 rfl ?_
  exact ⟨rfl, rfl⟩
/-- fillFrom: what stands behind s whole states and i inputs of the next -/
def FillI (M : Mem) (t : Fin 3) (C : Circ) (s i : Nat) (N : Mem) : Prop := Fx (uT t) M N ∧ N (cT t 0) 2 = (fstS C : Int) ∧ (∀ m, m < 4 * s + i → N (cT t 2) m = (nxtS C (m / 4) (m % 4) : Int)) ∧ ∀ m, m < s → N (cT t 4) m = (st4 (outS C m) : Int)
theorem fill_in {M : Mem} {k : Fin 4} {t : Fin 3} {C : Circ} (hC : WF C) (h : CircT M k C) {s : Nat} (hs : s < 16) {Q : Option Val → Mem → Prop}
    (K : ∀ (N : Mem) (u v : Option Val), FillI M t C s 4 N → Ev ST miX7_fillFrom 76 [some (.inr (cT t 0)), some (.inr (cC k 0)), some (.inl (s : Int)), some (.inl (st4 (outS C s) : Nat)), u, v] [] N Q) :
    ∀ (m i : Nat) (N : Mem) (v : Option Val), i + m = 4 → FillI M t C s i N → Ev ST miX7_fillFrom 21 [some (.inr (cT t 0)), some (.inr (cC k 0)), some (.inl (s : Int)), some (.inl (acc4 (outS C s) i : Nat)), some (.inl (i : Int)), v] [] N Q := by
  intro m
  induction m with
  | zero =>
    intro i N v hi hN
    refine ev_iload (np := 23) dX7_fillFrom_21 rfl rfl ?_
    refine ev_iconst (np := 24) dX7_fillFrom_23 rfl ?_
    refine ev_icmp_ge (tgt := 76) (np := 27) dX7_fillFrom_24 (by decide) rfl (by omega) (by omega) (fun _ => ?_) (fun h => absurd (by omega) h)
    have e : i = 4 := by omega
    subst e
    rw [acc4_4 (fun r _ => out_lt C s r)]
    exact K N _ _ hN
  | succ m ih =>
    intro i N v hi hN
    obtain ⟨a1, a2, a3, a4⟩ := hN
    have hNk : CircT N k C := a1.circ (fun o => rfl) h
    have hw : wbits C s i < 65536 := wb_lt hC hs (show i < 4 by omega) (cn C) (Nat.le_refl _)
    have ho := hC.2.1
    have hl := acc4_lt (f := outS C s) (out_lt C s) i (by omega)
    refine ev_iload (np := 23) dX7_fillFrom_21 rfl rfl ?_
    refine ev_iconst (np := 24) dX7_fillFrom_23 rfl ?_
    refine ev_icmp_ge (tgt := 76) (np := 27) dX7_fillFrom_24 (by decide) rfl (by omega) (by omega) (fun h => absurd h (by omega)) (fun _ => ?_)
    refine ev_aload_n (np := 28) dX7_fillFrom_27 rfl rfl ?_
    refine ev_iload_n (np := 29) dX7_fillFrom_28 rfl rfl ?_
    refine ev_iload (np := 31) dX7_fillFrom_29 rfl rfl ?_
    refine ev_Vi2 (np := 34) moX1_wireBits sX7_fillFrom_31 (sem_wireBits hC hNk hs (i := i) (by omega)) rfl rfl (Nat.le_of_ble_eq_true rfl) rfl ?_
    refine ev_istore (np := 36) dX7_fillFrom_34 (by decide) rfl ?_
    refine ev_iload_n (np := 37) dX7_fillFrom_36 rfl rfl ?_
    refine ev_iload (np := 39) dX7_fillFrom_37 rfl rfl ?_
    refine ev_aload_n (np := 40) dX7_fillFrom_39 rfl rfl ?_
    refine ev_Vi0 (np := 43) moX1_outputWire sX7_fillFrom_40 (sem_outputWire N k) rfl rfl (Nat.le_of_ble_eq_true rfl) rfl ?_
    rw [hNk.o]
    refine ev_Ni2 (np := 46) moX9_bitOf sX7_fillFrom_43 (sem_bit N (b := wbits C s i) (p := co C) (by omega) (by omega)) (Nat.le_of_ble_eq_true rfl) rfl ?_
    refine ev_iload (np := 48) dX7_fillFrom_46 rfl rfl ?_
    refine ev_ishl (np := 49) dX7_fillFrom_48 (by omega) rfl ?_
    refine ev_ior (np := 50) dX7_fillFrom_49 (by omega) (Int.mul_nonneg (by omega) (Int.natCast_nonneg _)) rfl ?_
    rw [Int.toNat_natCast i, or_sh i]
    refine ev_istore_n (np := 51) dX7_fillFrom_50 (by decide) rfl ?_
    refine ev_aload_n (np := 52) dX7_fillFrom_51 rfl rfl ?_
    refine ev_getR (np := 55) sX7_fillFrom_52 rfl rfl rfl ?_
    refine ev_iload_n (np := 56) dX7_fillFrom_55 rfl rfl ?_
    refine ev_iconst (np := 57) dX7_fillFrom_56 rfl ?_
    refine ev_imul (np := 58) dX7_fillFrom_57 rfl ?_
    refine ev_iload (np := 60) dX7_fillFrom_58 rfl rfl ?_
    refine ev_iadd (np := 61) dX7_fillFrom_60 rfl ?_
    refine ev_aload_n (np := 62) dX7_fillFrom_61 rfl rfl ?_
    refine ev_iload (np := 64) dX7_fillFrom_62 rfl rfl ?_
    refine ev_Vi1 (np := 67) moX1_stateAfter sX7_fillFrom_64 (sem_stateAfter hC hNk hw) rfl rfl (Nat.le_of_ble_eq_true rfl) rfl ?_
    refine ev_Vv2 (np := 70) moX6_set sX7_fillFrom_67 (sem_set (rowB t) N (by omega)) rfl rfl (Nat.le_of_ble_eq_true rfl) rfl ?_
    rw [show ((s : Int) * 4 + (i : Int)).toNat = 4 * s + i by omega]
    refine ev_iinc (np := 73) dX7_fillFrom_70 rfl (by decide) rfl ?_
    refine ev_goto (np := 21) dX7_fillFrom_73 (by decide) ?_
    refine ih (i + 1) _ _ (by omega) ⟨a1.tr (Fx.upd (by simp [uT])), ?_, fun j hj => ?_, fun j hj => ?_⟩
    · rw [← a2]; simp [updM]
    · by_cases e : j = 4 * s + i
      · rw [e, updM_same, show (4 * s + i) / 4 = s by omega, show (4 * s + i) % 4 = i by omega]
        rfl
      · rw [← a3 j (by omega)]; simp [updM, e]
    · rw [← a4 j hj]; simp [updM]
theorem fill_out {M : Mem} {k : Fin 4} {t : Fin 3} {C : Circ} (hC : WF C) (h : CircT M k C) : ∀ (m s : Nat) (N : Mem) (u v w : Option Val), s + m = 16 → FillI M t C s 0 N → Ev ST miX7_fillFrom 10 [some (.inr (cT t 0)), some (.inr (cC k 0)), some (.inl (s : Int)), u, v, w] [] N (fun v N => v = none ∧ TabT N t (tabOf C) ∧ Fx (uT t) M N) := by
  intro m
  induction m with
  | zero =>
    intro s N u v w hs hN
    obtain ⟨a1, a2, a3, a4⟩ := hN
    refine ev_iload_n (np := 11) dX7_fillFrom_10 rfl rfl ?_
    refine ev_bipush (np := 13) dX7_fillFrom_11 (by decide) rfl ?_
    refine ev_icmp_ge (tgt := 91) (np := 16) dX7_fillFrom_13 (by decide) rfl (by omega) (by omega) (fun _ => ?_) (fun h => absurd (by omega) h)
    refine ev_vret dX7_fillFrom_91 rfl ?_
    refine ⟨rfl, ⟨fun j hj i hi => ?_, fun j hj => a4 j (by omega), a2⟩, a1⟩
    rw [a3 (4 * j + i) (by omega), show (4 * j + i) / 4 = j by omega, show (4 * j + i) % 4 = i by omega]
    rfl
  | succ m ih =>
    intro s N u v w hs hN
    refine ev_iload_n (np := 11) dX7_fillFrom_10 rfl rfl ?_
    refine ev_bipush (np := 13) dX7_fillFrom_11 (by decide) rfl ?_
    refine ev_icmp_ge (tgt := 91) (np := 16) dX7_fillFrom_13 (by decide) rfl (by omega) (by omega) (fun h => absurd h (by omega)) (fun _ => ?_)
    refine ev_iconst (np := 17) dX7_fillFrom_16 rfl ?_
    refine ev_istore_n (np := 18) dX7_fillFrom_17 (by decide) rfl ?_
    refine ev_iconst (np := 19) dX7_fillFrom_18 rfl ?_
    refine ev_istore (np := 21) dX7_fillFrom_19 (by decide) rfl ?_
    refine fill_in hC h (show s < 16 by omega) ?_ 4 0 N _ rfl hN
    intro N2 u2 v2 hN2
    obtain ⟨a1, a2, a3, a4⟩ := hN2
    refine ev_aload_n (np := 77) dX7_fillFrom_76 rfl rfl ?_
    refine ev_getR (np := 80) sX7_fillFrom_77 rfl rfl rfl ?_
    refine ev_iload_n (np := 81) dX7_fillFrom_80 rfl rfl ?_
    refine ev_iload_n (np := 82) dX7_fillFrom_81 rfl rfl ?_
    refine ev_Vv2 (np := 85) moX6_set sX7_fillFrom_82 (sem_set (rowO t) N2 (by omega)) rfl rfl (Nat.le_of_ble_eq_true rfl) rfl ?_
    rw [Int.toNat_natCast]
    refine ev_iinc (np := 88) dX7_fillFrom_85 rfl (by decide) rfl ?_
    refine ev_goto (np := 10) dX7_fillFrom_88 (by decide) ?_
    refine ih (s + 1) _ _ _ _ (by omega) ⟨a1.tr (Fx.upd (by simp [uT])), ?_, fun j hj => ?_, fun j hj => ?_⟩
    · rw [← a2]; simp [updM]
    · rw [← a3 j (by omega)]; simp [updM]
    · by_cases e : j = s
      · rw [e, updM_same]
      · rw [← a4 j (by omega)]; simp [updM, e]
theorem sem_fillFrom {M : Mem} {k : Fin 4} {t : Fin 3} {C : Circ} (hC : WF C) (h : CircT M k C) : Sem ST miX7_fillFrom [.inr (cT t 0), .inr (cC k 0)] M (fun v N => v = none ∧ TabT N t (tabOf C) ∧ Fx (uT t) M N) := by
  refine Sem.of (by decide) ST_ok (Nat.le_of_ble_eq_true rfl) (ls0 := [some (.inr (cT t 0)), some (.inr (cC k 0)), none, none, none, none]) rfl ?_
  refine ev_aload_n (np := 1) dX7_fillFrom_0 rfl rfl ?_
  refine ev_aload_n (np := 2) dX7_fillFrom_1 rfl rfl ?_
  refine ev_Vi0 (np := 5) moX1_firstState sX7_fillFrom_2 (sem_firstState hC h) rfl rfl (Nat.le_of_ble_eq_true rfl) rfl ?_
  refine ev_put (np := 8) sX7_fillFrom_5 rfl rfl rfl ?_
  refine ev_iconst (np := 9) dX7_fillFrom_8 rfl ?_
  refine ev_istore_n (np := 10) dX7_fillFrom_9 (by decide) rfl ?_
  exact fill_out hC h 16 0 _ _ _ _ rfl ⟨Fx.upd (by simp [uT]), by rw [updM_same], fun j hj => absurd hj (by omega), fun j hj => absurd hj (by omega)⟩
theorem sba_in {M : Mem} {t : Fin 3} {T : Tab} (hT : TWF T) (h : TabT M t T) {X s : Nat} (hX : X < 65536) (hs : s < 16) {f0 : Nat} (hf0 : f0 < 65536) {Q : Option Val → Mem → Prop}
    (K : ∀ u : Option Val, Ev ST miX7_statesBehindAny 46 [some (.inr (cT t 0)), some (.inl (X : Int)), some (.inl ((if bt X s = 1 then sbI T s 4 f0 else f0 : Nat) : Int)), some (.inl (s : Int)), u] [] M Q) :
    ∀ (m i : Nat), i + m = 4 → (bt X s = 1 ∨ i = 0) → Ev ST miX7_statesBehindAny 13 [some (.inr (cT t 0)), some (.inl (X : Int)), some (.inl ((sbI T s i f0 : Nat) : Int)), some (.inl (s : Int)), some (.inl (i : Int))] [] M Q := by
  have hb := bt_lt X s
  intro m
  induction m with
  | zero =>
    intro i hi hc
    refine ev_iload (np := 15) dX7_statesBehindAny_13 rfl rfl ?_
    refine ev_iconst (np := 16) dX7_statesBehindAny_15 rfl ?_
    refine ev_icmp_ge (tgt := 46) (np := 19) dX7_statesBehindAny_16 (by decide) rfl (by omega) (by omega) (fun _ => ?_) (fun h => absurd (by omega) h)
    have := K (some (.inl (i : Int)))
    rw [if_pos (hc.resolve_right (by omega))] at this
    rw [show i = 4 by omega] at this ⊢
    exact this
  | succ m ih =>
    intro i hi hc
    have hl := sbI_lt (s := s) hT i f0 hf0
    refine ev_iload (np := 15) dX7_statesBehindAny_13 rfl rfl ?_
    refine ev_iconst (np := 16) dX7_statesBehindAny_15 rfl ?_
    refine ev_icmp_ge (tgt := 46) (np := 19) dX7_statesBehindAny_16 (by decide) rfl (by omega) (by omega) (fun h => absurd h (by omega)) (fun _ => ?_)
    refine ev_iload_n (np := 20) dX7_statesBehindAny_19 rfl rfl ?_
    refine ev_iload_n (np := 21) dX7_statesBehindAny_20 rfl rfl ?_
    refine ev_Ni2 (np := 24) moX9_bitOf sX7_statesBehindAny_21 (sem_bit M (b := X) (p := s) (by omega) (by omega)) (Nat.le_of_ble_eq_true rfl) rfl ?_
    refine ev_iconst (np := 25) dX7_statesBehindAny_24 rfl ?_
    refine ev_icmp_ne (tgt := 46) (np := 28) dX7_statesBehindAny_25 (by decide) rfl (by omega) (by omega) (fun h1 => ?_) (fun h1 => ?_)
    · have e : i = 0 := hc.resolve_left (by omega)
      subst e
      have := K (some (.inl ((0 : Nat) : Int)))
      rw [if_neg (by omega)] at this
      exact this
    · refine ev_iload_n (np := 29) dX7_statesBehindAny_28 rfl rfl ?_
      refine ev_iconst (np := 30) dX7_statesBehindAny_29 rfl ?_
      refine ev_aload_n (np := 31) dX7_statesBehindAny_30 rfl rfl ?_
      refine ev_iload_n (np := 32) dX7_statesBehindAny_31 rfl rfl ?_
      refine ev_iload (np := 34) dX7_statesBehindAny_32 rfl rfl ?_
      refine ev_Vi2 (np := 37) moX7_stateBehind sX7_statesBehindAny_34 (sem_tBehind h hs (i := i) (by omega)) rfl rfl (Nat.le_of_ble_eq_true rfl) rfl ?_
      have hx := hT.1 s i
      refine ev_ishl (np := 38) dX7_statesBehindAny_37 (by omega) rfl ?_
      refine ev_ior (np := 39) dX7_statesBehindAny_38 (by omega) (Int.mul_nonneg (by omega) (Int.natCast_nonneg _)) rfl ?_
      rw [Int.toNat_natCast (T.1 s i), show (((sbI T s i f0 : Int)).toNat ||| ((1 : Int) * ((2 ^ T.1 s i : Nat) : Int)).toNat : Nat) = sbI T s (i + 1) f0 by rw [Int.toNat_natCast, Int.one_mul, Int.toNat_natCast]; rfl]
      refine ev_istore_n (np := 40) dX7_statesBehindAny_39 (by decide) rfl ?_
      refine ev_iinc (np := 43) dX7_statesBehindAny_40 rfl (by decide) rfl ?_
      refine ev_goto (np := 13) dX7_statesBehindAny_43 (by decide) ?_
      exact ih (i + 1) (by omega) (Or.inl (by omega))
theorem sba_out {M : Mem} {t : Fin 3} {T : Tab} (hT : TWF T) (h : TabT M t T) {X : Nat} (hX : X < 65536) : ∀ (m s : Nat) (u : Option Val), s + m = 16 → Ev ST miX7_statesBehindAny 4 [some (.inr (cT t 0)), some (.inl (X : Int)), some (.inl ((sbS T X s : Nat) : Int)), some (.inl (s : Int)), u] [] M (Ri (sbS T X 16 : Nat) M) := by
  intro m
  induction m with
  | zero =>
    intro s u hs
    refine ev_iload_n (np := 5) dX7_statesBehindAny_4 rfl rfl ?_
    refine ev_bipush (np := 7) dX7_statesBehindAny_5 (by decide) rfl ?_
    refine ev_icmp_ge (tgt := 52) (np := 10) dX7_statesBehindAny_7 (by decide) rfl (by omega) (by omega) (fun _ => ?_) (fun h => absurd (by omega) h)
    refine ev_iload_n (np := 53) dX7_statesBehindAny_52 rfl rfl ?_
    refine ev_iret dX7_statesBehindAny_53 rfl ?_
    exact ⟨by rw [show s = 16 by omega], rfl⟩
  | succ m ih =>
    intro s u hs
    refine ev_iload_n (np := 5) dX7_statesBehindAny_4 rfl rfl ?_
    refine ev_bipush (np := 7) dX7_statesBehindAny_5 (by decide) rfl ?_
    refine ev_icmp_ge (tgt := 52) (np := 10) dX7_statesBehindAny_7 (by decide) rfl (by omega) (by omega) (fun h => absurd h (by omega)) (fun _ => ?_)
    refine ev_iconst (np := 11) dX7_statesBehindAny_10 rfl ?_
    refine ev_istore (np := 13) dX7_statesBehindAny_11 (by decide) rfl ?_
    refine sba_in hT h hX (show s < 16 by omega) (sbS_lt hT s) ?_ 4 0 rfl (Or.inr rfl)
    intro u2
    refine ev_iinc (np := 49) dX7_statesBehindAny_46 rfl (by decide) rfl ?_
    refine ev_goto (np := 4) dX7_statesBehindAny_49 (by decide) ?_
    exact ih (s + 1) _ (by omega)
theorem sem_sba {M : Mem} {t : Fin 3} {T : Tab} (hT : TWF T) (h : TabT M t T) {X : Nat} (hX : X < 65536) : Sem ST miX7_statesBehindAny [.inr (cT t 0), .inl (X : Int)] M (Ri (sbS T X 16 : Nat) M) := by
  refine Sem.of (by decide) ST_ok (Nat.le_of_ble_eq_true rfl) (ls0 := [some (.inr (cT t 0)), some (.inl (X : Int)), none, none, none]) rfl ?_
  refine ev_iconst (np := 1) dX7_statesBehindAny_0 rfl ?_
  refine ev_istore_n (np := 2) dX7_statesBehindAny_1 (by decide) rfl ?_
  refine ev_iconst (np := 3) dX7_statesBehindAny_2 rfl ?_
  refine ev_istore_n (np := 4) dX7_statesBehindAny_3 (by decide) rfl ?_
  exact sba_out hT h hX 16 0 none rfl
theorem sct_loop {M : Mem} {t : Fin 3} {T : Tab} (hT : TWF T) (h : TabT M t T) : ∀ (m r : Nat), r + m = 16 → Ev ST miX7_statesComeTo 9 [some (.inr (cT t 0)), some (.inl ((sct T r : Nat) : Int)), some (.inl (r : Int))] [] M (Ri (sct T 16 : Nat) M) := by
  intro m
  induction m with
  | zero =>
    intro r hr
    refine ev_iload_n (np := 10) dX7_statesComeTo_9 rfl rfl ?_
    refine ev_bipush (np := 12) dX7_statesComeTo_10 (by decide) rfl ?_
    refine ev_icmp_ge (tgt := 29) (np := 15) dX7_statesComeTo_12 (by decide) rfl (by omega) (by omega) (fun _ => ?_) (fun h => absurd (by omega) h)
    refine ev_iload_n (np := 30) dX7_statesComeTo_29 rfl rfl ?_
    refine ev_iret dX7_statesComeTo_30 rfl ?_
    exact ⟨by rw [show r = 16 by omega], rfl⟩
  | succ m ih =>
    intro r hr
    have h1 := sct_lt hT r
    have h2 := sbS_lt (X := sct T r) hT 16
    refine ev_iload_n (np := 10) dX7_statesComeTo_9 rfl rfl ?_
    refine ev_bipush (np := 12) dX7_statesComeTo_10 (by decide) rfl ?_
    refine ev_icmp_ge (tgt := 29) (np := 15) dX7_statesComeTo_12 (by decide) rfl (by omega) (by omega) (fun h => absurd h (by omega)) (fun _ => ?_)
    refine ev_iload_n (np := 16) dX7_statesComeTo_15 rfl rfl ?_
    refine ev_aload_n (np := 17) dX7_statesComeTo_16 rfl rfl ?_
    refine ev_iload_n (np := 18) dX7_statesComeTo_17 rfl rfl ?_
    refine ev_Vi1 (np := 21) moX7_statesBehindAny sX7_statesComeTo_18 (sem_sba hT h h1) rfl rfl (Nat.le_of_ble_eq_true rfl) rfl ?_
    refine ev_ior (np := 22) dX7_statesComeTo_21 (by omega) (by omega) rfl ?_
    rw [Int.toNat_natCast, Int.toNat_natCast]
    refine ev_istore_n (np := 23) dX7_statesComeTo_22 (by decide) rfl ?_
    refine ev_iinc (np := 26) dX7_statesComeTo_23 rfl (by decide) rfl ?_
    refine ev_goto (np := 9) dX7_statesComeTo_26 (by decide) ?_
    exact ih (r + 1) (by omega)
theorem sem_sct {M : Mem} {t : Fin 3} {T : Tab} (hT : TWF T) (h : TabT M t T) : Sem ST miX7_statesComeTo [.inr (cT t 0)] M (Ri (sct T 16 : Nat) M) := by
  refine Sem.of (by decide) ST_ok (Nat.le_of_ble_eq_true rfl) (ls0 := [some (.inr (cT t 0)), none, none]) rfl ?_
  have h0 := hT.2.2
  refine ev_iconst (np := 1) dX7_statesComeTo_0 rfl ?_
  refine ev_aload_n (np := 2) dX7_statesComeTo_1 rfl rfl ?_
  refine ev_getI (np := 5) sX7_statesComeTo_2 rfl rfl rfl ?_
  rw [h.2.2]
  refine ev_ishl (np := 6) dX7_statesComeTo_5 (by omega) rfl ?_
  rw [Int.toNat_natCast, Int.one_mul]
  refine ev_istore_n (np := 7) dX7_statesComeTo_6 (by decide) rfl ?_
  refine ev_iconst (np := 8) dX7_statesComeTo_7 rfl ?_
  refine ev_istore_n (np := 9) dX7_statesComeTo_8 (by decide) rfl ?_
  exact sct_loop hT h 16 0 rfl
theorem chg_loop {M : Mem} {t : Fin 3} {T : Tab} (hT : TWF T) (h : TabT M t T) {X : Nat} (hX : X < 65536) : ∀ (m s : Nat), s + m = 16 → Ev ST miX7_steadyRegisters 4 [some (.inr (cT t 0)), some (.inl (X : Int)), some (.inl ((chg T X s : Nat) : Int)), some (.inl (s : Int))] [] M (Ri ((15 - (15 &&& chg T X 16) : Nat)) M) := by
  intro m
  induction m with
  | zero =>
    intro s hs
    have h1 := chg_lt (X := X) hT s (by omega)
    refine ev_iload_n (np := 5) dX7_steadyRegisters_4 rfl rfl ?_
    refine ev_bipush (np := 7) dX7_steadyRegisters_5 (by decide) rfl ?_
    refine ev_icmp_ge (tgt := 34) (np := 10) dX7_steadyRegisters_7 (by decide) rfl (by omega) (by omega) (fun _ => ?_) (fun h => absurd (by omega) h)
    refine ev_bipush (np := 36) dX7_steadyRegisters_34 (by decide) rfl ?_
    refine ev_iload_n (np := 37) dX7_steadyRegisters_36 rfl rfl ?_
    refine ev_iconst (np := 38) dX7_steadyRegisters_37 rfl ?_
    refine ev_inot (np := 39) dX7_steadyRegisters_38 rfl ?_
    refine ev_iandn (np := 40) dX7_steadyRegisters_39 (by omega) (by omega) rfl ?_
    refine ev_iret dX7_steadyRegisters_40 rfl ?_
    exact ⟨by rw [Int.toNat_natCast, show s = 16 by omega]; rfl, rfl⟩
  | succ m ih =>
    intro s hs
    have h1 := chg_lt (X := X) hT s (by omega)
    have h2 := hT.2.2
    have hb := bt_lt X s
    refine ev_iload_n (np := 5) dX7_steadyRegisters_4 rfl rfl ?_
    refine ev_bipush (np := 7) dX7_steadyRegisters_5 (by decide) rfl ?_
    refine ev_icmp_ge (tgt := 34) (np := 10) dX7_steadyRegisters_7 (by decide) rfl (by omega) (by omega) (fun h => absurd h (by omega)) (fun _ => ?_)
    refine ev_iload_n (np := 11) dX7_steadyRegisters_10 rfl rfl ?_
    refine ev_iload_n (np := 12) dX7_steadyRegisters_11 rfl rfl ?_
    refine ev_Ni2 (np := 15) moX9_bitOf sX7_steadyRegisters_12 (sem_bit M (b := X) (p := s) (by omega) (by omega)) (Nat.le_of_ble_eq_true rfl) rfl ?_
    refine ev_iconst (np := 16) dX7_steadyRegisters_15 rfl ?_
    refine ev_icmp_ne (tgt := 28) (np := 19) dX7_steadyRegisters_16 (by decide) rfl (by omega) (by omega) (fun hq => ?_) (fun hq => ?_)
    · refine ev_iinc (np := 31) dX7_steadyRegisters_28 rfl (by decide) rfl ?_
      refine ev_goto (np := 4) dX7_steadyRegisters_31 (by decide) ?_
      have := ih (s + 1) (by omega)
      rw [show chg T X (s + 1) = chg T X s by rw [chg, if_neg (by omega)]] at this
      exact this
    · refine ev_iload_n (np := 20) dX7_steadyRegisters_19 rfl rfl ?_
      refine ev_iload_n (np := 21) dX7_steadyRegisters_20 rfl rfl ?_
      refine ev_aload_n (np := 22) dX7_steadyRegisters_21 rfl rfl ?_
      refine ev_getI (np := 25) sX7_steadyRegisters_22 rfl rfl rfl ?_
      rw [h.2.2]
      refine ev_ixor (np := 26) dX7_steadyRegisters_25 (by omega) (by omega) rfl ?_
      refine ev_ior (np := 27) dX7_steadyRegisters_26 (by omega) (Int.natCast_nonneg _) rfl ?_
      rw [Int.toNat_natCast, Int.toNat_natCast, Int.toNat_natCast, Int.toNat_natCast]
      refine ev_istore_n (np := 28) dX7_steadyRegisters_27 (by decide) rfl ?_
      refine ev_iinc (np := 31) dX7_steadyRegisters_28 rfl (by decide) rfl ?_
      refine ev_goto (np := 4) dX7_steadyRegisters_31 (by decide) ?_
      have := ih (s + 1) (by omega)
      rw [show chg T X (s + 1) = chg T X s ||| (s ^^^ T.2.2) by rw [chg, if_pos (by omega)]] at this
      exact this
theorem sem_steadyT {M : Mem} {t : Fin 3} {T : Tab} (hT : TWF T) (h : TabT M t T) {X : Nat} (hX : X < 65536) : Sem ST miX7_steadyRegisters [.inr (cT t 0), .inl (X : Int)] M (Ri ((15 - (15 &&& chg T X 16) : Nat)) M) := by
  refine Sem.of (by decide) ST_ok (Nat.le_of_ble_eq_true rfl) (ls0 := [some (.inr (cT t 0)), some (.inl (X : Int)), none, none]) rfl ?_
  refine ev_iconst (np := 1) dX7_steadyRegisters_0 rfl ?_
  refine ev_istore_n (np := 2) dX7_steadyRegisters_1 (by decide) rfl ?_
  refine ev_iconst (np := 3) dX7_steadyRegisters_2 rfl ?_
  refine ev_istore_n (np := 4) dX7_steadyRegisters_3 (by decide) rfl ?_
  exact chg_loop hT h hX 16 0 rfl
end
section
/-! ALIKE STATES, in the class -/
def UT (M : Mem) (u : Nat → Nat) : Prop := ∀ s, s < 16 → M (cX 21) s = (u s : Int) ∧ u s < 65536
theorem rowU : IsRow (cX 20) (cX 21) 16 := ⟨rfl, rfl, by decide⟩
def ldP (T : Tab) (u : Nat → Nat) (s o i : Nat) : Prop := bt (u (T.1 s i)) (T.1 o i) = 1
theorem lead_loop {M : Mem} {t : Fin 3} {T : Tab} (hT : TWF T) (h : TabT M t T) {u : Nat → Nat} (hu : UT M u) {s o : Nat} (hs : s < 16) (ho : o < 16) : ∀ (m i : Nat) (v w : Option Val), i + m = 4 → (∀ j, j < i → ¬ ldP T u s o j) → Ev ST miX0_leadToUnlike 6 [some (.inr (cX 19)), some (.inl (s : Int)), some (.inl (o : Int)), some (.inr (cT t 0)), some (.inl 0), some (.inl (i : Int)), v, w] [] M (fun v N => N = M ∧ ((v = some (.inl 1) ∧ ∃ i, i < 4 ∧ ldP T u s o i) ∨ (v = some (.inl 0) ∧ ¬ ∃ i, i < 4 ∧ ldP T u s o i))) := by
  intro m
  induction m with
  | zero =>
    intro i v w hi hn
    refine ev_iload (np := 8) dX0_leadToUnlike_6 rfl rfl ?_
    refine ev_iconst (np := 9) dX0_leadToUnlike_8 rfl ?_
    refine ev_icmp_ge (tgt := 66) (np := 12) dX0_leadToUnlike_9 (by decide) rfl (by omega) (by omega) (fun _ => ?_) (fun h => absurd (by omega) h)
    refine ev_iload (np := 68) dX0_leadToUnlike_66 rfl rfl ?_
    refine ev_zret dX0_leadToUnlike_68 rfl (by first | exact Or.inl rfl | exact Or.inr rfl | omega) ?_
    exact ⟨rfl, Or.inr ⟨rfl, fun ⟨j, h1, h2⟩ => hn j (by omega) h2⟩⟩
  | succ m ih =>
    intro i v w hi hn
    have x1 := hT.1 s i
    have x2 := hT.1 o i
    obtain ⟨u1, u2⟩ := hu (T.1 s i) x1
    have hb := bt_lt (u (T.1 s i)) (T.1 o i)
    refine ev_iload (np := 8) dX0_leadToUnlike_6 rfl rfl ?_
    refine ev_iconst (np := 9) dX0_leadToUnlike_8 rfl ?_
    refine ev_icmp_ge (tgt := 66) (np := 12) dX0_leadToUnlike_9 (by decide) rfl (by omega) (by omega) (fun h => absurd h (by omega)) (fun _ => ?_)
    refine ev_iload (np := 14) dX0_leadToUnlike_12 rfl rfl ?_
    refine ev_if_ne (tgt := 66) (np := 17) dX0_leadToUnlike_14 (by decide) rfl (by omega) (fun h => absurd (by omega) h) (fun _ => ?_)
    refine ev_aload_n (np := 18) dX0_leadToUnlike_17 rfl rfl ?_
    refine ev_iload_n (np := 19) dX0_leadToUnlike_18 rfl rfl ?_
    refine ev_iload (np := 21) dX0_leadToUnlike_19 rfl rfl ?_
    refine ev_Vi2 (np := 24) moX7_stateBehind sX0_leadToUnlike_21 (sem_tBehind h hs (i := i) (by omega)) rfl rfl (Nat.le_of_ble_eq_true rfl) rfl ?_
    refine ev_istore (np := 26) dX0_leadToUnlike_24 (by decide) rfl ?_
    refine ev_aload_n (np := 27) dX0_leadToUnlike_26 rfl rfl ?_
    refine ev_iload_n (np := 28) dX0_leadToUnlike_27 rfl rfl ?_
    refine ev_iload (np := 30) dX0_leadToUnlike_28 rfl rfl ?_
    refine ev_Vi2 (np := 33) moX7_stateBehind sX0_leadToUnlike_30 (sem_tBehind h ho (i := i) (by omega)) rfl rfl (Nat.le_of_ble_eq_true rfl) rfl ?_
    refine ev_istore (np := 35) dX0_leadToUnlike_33 (by decide) rfl ?_
    refine ev_aload_n (np := 36) dX0_leadToUnlike_35 rfl rfl ?_
    refine ev_getR (np := 39) sX0_leadToUnlike_36 rfl rfl rfl ?_
    refine ev_iload (np := 41) dX0_leadToUnlike_39 rfl rfl ?_
    refine ev_Vi1 (np := 44) moX6_get sX0_leadToUnlike_41 (sem_get rowU M (by omega)) rfl rfl (Nat.le_of_ble_eq_true rfl) rfl ?_
    rw [Int.toNat_natCast, u1]
    refine ev_iload (np := 46) dX0_leadToUnlike_44 rfl rfl ?_
    refine ev_Ni2 (np := 49) moX9_bitOf sX0_leadToUnlike_46 (sem_bit M (b := u (T.1 s i)) (p := T.1 o i) (by omega) (by omega)) (Nat.le_of_ble_eq_true rfl) rfl ?_
    refine ev_iconst (np := 50) dX0_leadToUnlike_49 rfl ?_
    refine ev_icmp_ne (tgt := 57) (np := 53) dX0_leadToUnlike_50 (by decide) rfl (by omega) (by omega) (fun hq => ?_) (fun hq => ?_)
    · refine ev_iconst (np := 58) dX0_leadToUnlike_57 rfl ?_
      refine ev_istore (np := 60) dX0_leadToUnlike_58 (by decide) rfl ?_
      refine ev_iinc (np := 63) dX0_leadToUnlike_60 rfl (by decide) rfl ?_
      refine ev_goto (np := 6) dX0_leadToUnlike_63 (by decide) ?_
      exact ih (i + 1) _ _ (by omega) (fun j hj hp => by
        by_cases e : j = i
        · subst e
          exact hq (by unfold ldP at hp; omega)
        · exact hn j (by omega) hp)
    · refine ev_iconst (np := 54) dX0_leadToUnlike_53 rfl ?_
      refine ev_goto (np := 58) dX0_leadToUnlike_54 (by decide) ?_
      refine ev_istore (np := 60) dX0_leadToUnlike_58 (by decide) rfl ?_
      refine ev_iinc (np := 63) dX0_leadToUnlike_60 rfl (by decide) rfl ?_
      refine ev_goto (np := 6) dX0_leadToUnlike_63 (by decide) ?_
      refine ev_iload (np := 8) dX0_leadToUnlike_6 rfl rfl ?_
      refine ev_iconst (np := 9) dX0_leadToUnlike_8 rfl ?_
      by_cases e : i + 1 = 4
      · refine ev_icmp_ge (tgt := 66) (np := 12) dX0_leadToUnlike_9 (by decide) rfl (by omega) (by omega) (fun _ => ?_) (fun h => absurd (by omega) h)
        refine ev_iload (np := 68) dX0_leadToUnlike_66 rfl rfl ?_
        refine ev_zret dX0_leadToUnlike_68 rfl (by first | exact Or.inl rfl | exact Or.inr rfl | omega) ?_
        exact ⟨rfl, Or.inl ⟨rfl, i, by omega, by unfold ldP; omega⟩⟩
      · refine ev_icmp_ge (tgt := 66) (np := 12) dX0_leadToUnlike_9 (by decide) rfl (by omega) (by omega) (fun h => absurd h (by omega)) (fun _ => ?_)
        refine ev_iload (np := 14) dX0_leadToUnlike_12 rfl rfl ?_
        refine ev_if_ne (tgt := 66) (np := 17) dX0_leadToUnlike_14 (by decide) rfl (by omega) (fun _ => ?_) (fun h => absurd h (by omega))
        refine ev_iload (np := 68) dX0_leadToUnlike_66 rfl rfl ?_
        refine ev_zret dX0_leadToUnlike_68 rfl (by first | exact Or.inl rfl | exact Or.inr rfl | omega) ?_
        exact ⟨rfl, Or.inl ⟨rfl, i, by omega, by unfold ldP; omega⟩⟩
theorem sem_lead {M : Mem} {t : Fin 3} {T : Tab} (hT : TWF T) (h : TabT M t T) {u : Nat → Nat} (hu : UT M u) {s o : Nat} (hs : s < 16) (ho : o < 16) : Sem ST miX0_leadToUnlike [.inr (cX 19), .inl (s : Int), .inl (o : Int), .inr (cT t 0)] M (fun v N => N = M ∧ ((v = some (.inl 1) ∧ ∃ i, i < 4 ∧ ldP T u s o i) ∨ (v = some (.inl 0) ∧ ¬ ∃ i, i < 4 ∧ ldP T u s o i))) := by
  refine Sem.of (by decide) ST_ok (Nat.le_of_ble_eq_true rfl) (ls0 := [some (.inr (cX 19)), some (.inl (s : Int)), some (.inl (o : Int)), some (.inr (cT t 0)), none, none, none, none]) rfl ?_
  refine ev_iconst (np := 1) dX0_leadToUnlike_0 rfl ?_
  refine ev_istore (np := 3) dX0_leadToUnlike_1 (by decide) rfl ?_
  refine ev_iconst (np := 4) dX0_leadToUnlike_3 rfl ?_
  refine ev_istore (np := 6) dX0_leadToUnlike_4 (by decide) rfl ?_
  exact lead_loop hT h hu hs ho 4 0 none none rfl (fun j hj => absurd hj (Nat.not_lt_zero j))
theorem bt_or (a b p : Nat) : bt (a ||| b) p = 1 ↔ bt a p = 1 ∨ bt b p = 1 := by
  rw [bt_tb, bt_tb, bt_tb, Nat.testBit_or]
  cases a.testBit p <;> cases b.testBit p <;> simp
theorem bt_p2 (a p : Nat) : bt (2 ^ a) p = 1 ↔ a = p := by
  rw [bt_tb, Nat.testBit_two_pow]
  by_cases h : a = p <;> simp [h]
theorem bt_0 (p : Nat) : bt 0 p = 0 := by simp [bt]
theorem unl_loop {M : Mem} {t : Fin 3} {T : Tab} (hT : TWF T) (h : TabT M t T) {u : Nat → Nat} (hu : UT M u) {s : Nat} (hs : s < 16) : ∀ (m o X : Nat), o + m = 16 → X < 65536 → (∀ p, p < 16 → (bt X p = 1 ↔ (p < o ∧ unl T u s p))) → Ev ST miX0_unlikeTo 5 [some (.inr (cX 19)), some (.inl (s : Int)), some (.inr (cT t 0)), some (.inl (X : Int)), some (.inl (o : Int))] [] M (fun v N => N = M ∧ ∃ X : Nat, v = some (.inl (X : Int)) ∧ X < 65536 ∧ ∀ p, p < 16 → (bt X p = 1 ↔ unl T u s p)) := by
  intro m
  induction m with
  | zero =>
    intro o X h1 h2 h3
    refine ev_iload (np := 7) dX0_unlikeTo_5 rfl rfl ?_
    refine ev_bipush (np := 9) dX0_unlikeTo_7 (by decide) rfl ?_
    refine ev_icmp_ge (tgt := 50) (np := 12) dX0_unlikeTo_9 (by decide) rfl (by omega) (by omega) (fun _ => ?_) (fun h => absurd (by omega) h)
    refine ev_iload_n (np := 51) dX0_unlikeTo_50 rfl rfl ?_
    refine ev_iret dX0_unlikeTo_51 rfl ?_
    exact ⟨rfl, X, rfl, h2, fun p hp => (h3 p hp).trans ⟨fun a => a.2, fun a => ⟨by omega, a⟩⟩⟩
  | succ m ih =>
    intro o X h1 h2 h3
    have ho : o < 16 := by omega
    have y1 := hT.2.1 s
    have y2 := hT.2.1 o
    have yes : unl T u s o → Ev ST miX0_unlikeTo 37 [some (.inr (cX 19)), some (.inl (s : Int)), some (.inr (cT t 0)), some (.inl (X : Int)), some (.inl (o : Int))] [] M (fun v N => N = M ∧ ∃ X : Nat, v = some (.inl (X : Int)) ∧ X < 65536 ∧ ∀ p, p < 16 → (bt X p = 1 ↔ unl T u s p)) := by
      intro hq
      refine ev_iload_n (np := 38) dX0_unlikeTo_37 rfl rfl ?_
      refine ev_iconst (np := 39) dX0_unlikeTo_38 rfl ?_
      refine ev_iload (np := 41) dX0_unlikeTo_39 rfl rfl ?_
      refine ev_ishl (np := 42) dX0_unlikeTo_41 (by omega) rfl ?_
      refine ev_ior (np := 43) dX0_unlikeTo_42 (by omega) (Int.mul_nonneg (by omega) (Int.natCast_nonneg _)) rfl ?_
      rw [Int.toNat_natCast o, Int.one_mul, Int.toNat_natCast, Int.toNat_natCast]
      refine ev_istore_n (np := 44) dX0_unlikeTo_43 (by decide) rfl ?_
      refine ev_iinc (np := 47) dX0_unlikeTo_44 rfl (by decide) rfl ?_
      refine ev_goto (np := 5) dX0_unlikeTo_47 (by decide) ?_
      refine ih (o + 1) _ (by omega) (Nat.or_lt_two_pow (n := 16) h2 (p2_lt ho)) (fun p hp => ?_)
      rw [bt_or, bt_p2, h3 p hp]
      constructor
      · rintro (⟨a, b⟩ | a)
        · exact ⟨by omega, b⟩
        · subst a; exact ⟨by omega, hq⟩
      · rintro ⟨a, b⟩
        by_cases e : p = o
        · exact Or.inr e.symm
        · exact Or.inl ⟨by omega, b⟩
    have no : ¬ unl T u s o → Ev ST miX0_unlikeTo 44 [some (.inr (cX 19)), some (.inl (s : Int)), some (.inr (cT t 0)), some (.inl (X : Int)), some (.inl (o : Int))] [] M (fun v N => N = M ∧ ∃ X : Nat, v = some (.inl (X : Int)) ∧ X < 65536 ∧ ∀ p, p < 16 → (bt X p = 1 ↔ unl T u s p)) := by
      intro hq
      refine ev_iinc (np := 47) dX0_unlikeTo_44 rfl (by decide) rfl ?_
      refine ev_goto (np := 5) dX0_unlikeTo_47 (by decide) ?_
      refine ih (o + 1) X (by omega) h2 (fun p hp => ?_)
      rw [h3 p hp]
      constructor
      · rintro ⟨a, b⟩
        exact ⟨by omega, b⟩
      · rintro ⟨a, b⟩
        by_cases e : p = o
        · subst e; exact absurd b hq
        · exact ⟨by omega, b⟩
    refine ev_iload (np := 7) dX0_unlikeTo_5 rfl rfl ?_
    refine ev_bipush (np := 9) dX0_unlikeTo_7 (by decide) rfl ?_
    refine ev_icmp_ge (tgt := 50) (np := 12) dX0_unlikeTo_9 (by decide) rfl (by omega) (by omega) (fun h => absurd h (by omega)) (fun _ => ?_)
    refine ev_aload_n (np := 13) dX0_unlikeTo_12 rfl rfl ?_
    refine ev_iload_n (np := 14) dX0_unlikeTo_13 rfl rfl ?_
    refine ev_Vi1 (np := 17) moX7_outputSet sX0_unlikeTo_14 (sem_tOut h hs) rfl rfl (Nat.le_of_ble_eq_true rfl) rfl ?_
    refine ev_aload_n (np := 18) dX0_unlikeTo_17 rfl rfl ?_
    refine ev_iload (np := 20) dX0_unlikeTo_18 rfl rfl ?_
    refine ev_Vi1 (np := 23) moX7_outputSet sX0_unlikeTo_20 (sem_tOut h ho) rfl rfl (Nat.le_of_ble_eq_true rfl) rfl ?_
    refine ev_icmp_ne (tgt := 37) (np := 26) dX0_unlikeTo_23 (by decide) rfl (by omega) (by omega) (fun hd => ?_) (fun hd => ?_)
    · exact yes (Or.inl (by omega))
    · refine ev_aload_n (np := 27) dX0_unlikeTo_26 rfl rfl ?_
      refine ev_iload_n (np := 28) dX0_unlikeTo_27 rfl rfl ?_
      refine ev_iload (np := 30) dX0_unlikeTo_28 rfl rfl ?_
      refine ev_aload_n (np := 31) dX0_unlikeTo_30 rfl rfl ?_
      refine ev_V3 (np := 34) moX0_leadToUnlike sX0_unlikeTo_31 (sem_lead hT h hu hs ho) rfl rfl (Nat.le_of_ble_eq_true rfl) rfl (fun v N hq => ?_)
      obtain ⟨rfl, ⟨rfl, h4⟩ | ⟨rfl, h4⟩⟩ := hq
      · refine ev_if_eq (tgt := 44) (np := 37) dX0_unlikeTo_34 (by decide) rfl (by omega) (fun h => absurd h (by omega)) (fun _ => ?_)
        exact yes (Or.inr h4)
      · refine ev_if_eq (tgt := 44) (np := 37) dX0_unlikeTo_34 (by decide) rfl (by omega) (fun _ => ?_) (fun h => absurd (by omega) h)
        exact no (fun g => g.elim (fun a => a (by omega)) h4)
theorem sem_unlikeTo {M : Mem} {t : Fin 3} {T : Tab} (hT : TWF T) (h : TabT M t T) {u : Nat → Nat} (hu : UT M u) {s : Nat} (hs : s < 16) : Sem ST miX0_unlikeTo [.inr (cX 19), .inl (s : Int), .inr (cT t 0)] M (fun v N => N = M ∧ ∃ X : Nat, v = some (.inl (X : Int)) ∧ X < 65536 ∧ ∀ p, p < 16 → (bt X p = 1 ↔ unl T u s p)) := by
  refine Sem.of (by decide) ST_ok (Nat.le_of_ble_eq_true rfl) (ls0 := [some (.inr (cX 19)), some (.inl (s : Int)), some (.inr (cT t 0)), none, none]) rfl ?_
  refine ev_iconst (np := 1) dX0_unlikeTo_0 rfl ?_
  refine ev_istore_n (np := 2) dX0_unlikeTo_1 (by decide) rfl ?_
  refine ev_iconst (np := 3) dX0_unlikeTo_2 rfl ?_
  refine ev_istore (np := 5) dX0_unlikeTo_3 (by decide) rfl ?_
  exact unl_loop hT h hu hs 16 0 0 rfl (by decide) (fun p hp => by rw [bt_0]; exact ⟨fun a => by omega, fun a => absurd a.1 (Nat.not_lt_zero p)⟩)
/-- a round: the states below s are through, r rounds stand -/
def Rnd (T : Tab) (r s : Nat) (u : Nat → Nat) : Prop := uSnd T u ∧ (∀ a, a < 16 → uLow T r u a) ∧ ∀ a, a < s → uLow T (r + 1) u a
theorem Rnd.up {T : Tab} (hT : TWF T) {r s : Nat} {u : Nat → Nat} (h : Rnd T r s u) (hs : s < 16) {X : Nat} (hX : ∀ p, p < 16 → (bt X p = 1 ↔ unl T u s p)) : Rnd T r (s + 1) (fun a => if a = s then X else u a) := by
  obtain ⟨h1, h2, h3⟩ := h
  have low : uLow T (r + 1) (fun a => if a = s then X else u a) s := fun o ho e => by
    show bt (if s = s then X else u s) o = 1
    rw [if_pos rfl, hX o ho]
    exact unl_low hT h2 e
  refine ⟨fun a o ha ho e => ?_, fun a ha => ?_, fun a ha => ?_⟩
  · by_cases g : a = s
    · subst g
      simp only [if_true] at e
      exact unl_snd hT h1 ha ho ((hX o ho).mp e)
    · simp only [g, if_false] at e
      exact h1 a o ha ho e
  · by_cases g : a = s
    · subst g
      intro o ho e
      refine low o ho ?_
      cases k : eqb T (r + 1) a o with
      | false => rfl
      | true => rw [eqb_anti T r a o k] at e; cases e
    · intro o ho e
      show bt (if a = s then X else u a) o = 1
      rw [if_neg g]
      exact h2 a ha o ho e
  · by_cases g : a = s
    · subst g; exact low
    · intro o ho e
      show bt (if a = s then X else u a) o = 1
      rw [if_neg g]
      exact h3 a (by omega) o ho e
theorem UT.upd {M : Mem} {u : Nat → Nat} (h : UT M u) {s X : Nat} (hX : X < 65536) : UT (updM M (cX 21) s (X : Int)) (fun a => if a = s then X else u a) := by
  intro a ha
  by_cases e : a = s
  · subst e
    simp [updM, hX]
  · simp only [updM, e, and_false, if_false]
    exact h a ha
end
section
def AlkT (M : Mem) (T : Tab) : Prop := ∃ u, UT M u ∧ ∀ s o, s < 16 → o < 16 → (bt (u s) o = 1 ↔ eqb T 16 s o = false)
def Fixd (T : Tab) (s : Nat) (u : Nat → Nat) : Prop := ∀ a o, a < s → o < 16 → (bt (u a) o = 1 ↔ unl T u a o)
theorem find_in {M : Mem} {t : Fin 3} {T : Tab} (hT : TWF T) (h : TabT M t T) {r : Nat} {Q : Option Val → Mem → Prop} {rr : Option Val}
    (K : ∀ (N : Mem) (u : Nat → Nat) (τ : Int) (v w : Option Val), (τ = 0 ∨ τ = 1) → UT N u → Fx (uX 21 22) M N → Rnd T r 16 u → (τ = 0 → Fixd T 16 u) → Ev ST miX0_findUnlike 83 [some (.inr (cX 19)), some (.inr (cT t 0)), some (.inl τ), rr, v, w] [] N Q) :
    ∀ (m s : Nat) (N : Mem) (u : Nat → Nat) (τ : Int) (w : Option Val), s + m = 16 → (τ = 0 ∨ τ = 1) → UT N u → Fx (uX 21 22) M N → Rnd T r s u → (τ = 0 → Fixd T s u) → Ev ST miX0_findUnlike 26 [some (.inr (cX 19)), some (.inr (cT t 0)), some (.inl τ), rr, some (.inl (s : Int)), w] [] N Q := by
  intro m
  induction m with
  | zero =>
    intro s N u τ w hs ht hu hf hr hfx
    refine ev_iload (np := 28) dX0_findUnlike_26 rfl rfl ?_
    refine ev_bipush (np := 30) dX0_findUnlike_28 (by decide) rfl ?_
    refine ev_icmp_ge (tgt := 83) (np := 33) dX0_findUnlike_30 (by decide) rfl (by omega) (by omega) (fun _ => ?_) (fun h => absurd (by omega) h)
    rw [show s = 16 by omega] at *
    exact K N u τ _ _ ht hu hf hr hfx
  | succ m ih =>
    intro s N u τ w hs ht hu hf hr hfx
    have hs16 : s < 16 := by omega
    have hN : TabT N t T := hf.tab (fun o => rfl) h
    obtain ⟨u1, u2⟩ := hu s hs16
    refine ev_iload (np := 28) dX0_findUnlike_26 rfl rfl ?_
    refine ev_bipush (np := 30) dX0_findUnlike_28 (by decide) rfl ?_
    refine ev_icmp_ge (tgt := 83) (np := 33) dX0_findUnlike_30 (by decide) rfl (by omega) (by omega) (fun h => absurd h (by omega)) (fun _ => ?_)
    refine ev_aload_n (np := 34) dX0_findUnlike_33 rfl rfl ?_
    refine ev_iload (np := 36) dX0_findUnlike_34 rfl rfl ?_
    refine ev_aload_n (np := 37) dX0_findUnlike_36 rfl rfl ?_
    refine ev_V2 (np := 40) moX0_unlikeTo sX0_findUnlike_37 (sem_unlikeTo hT hN hu hs16) rfl rfl (Nat.le_of_ble_eq_true rfl) rfl (fun v N2 hq => ?_)
    obtain ⟨rfl, X, rfl, hX, hX2⟩ := hq
    have up := hr.up hT hs16 hX2
    have uu := hu.upd (s := s) hX
    have rest : ∀ τ' : Int, (τ' = 0 ∨ τ' = 1) → (τ' = 0 → τ = 0 ∧ X = u s) → Ev ST miX0_findUnlike 65 [some (.inr (cX 19)), some (.inr (cT t 0)), some (.inl τ), rr, some (.inl (s : Int)), some (.inl (X : Int))] [.inl τ'] N2 Q := by
      intro τ' h1 h2
      refine ev_istore_n (np := 66) dX0_findUnlike_65 (by decide) rfl ?_
      refine ev_aload_n (np := 67) dX0_findUnlike_66 rfl rfl ?_
      refine ev_getR (np := 70) sX0_findUnlike_67 rfl rfl rfl ?_
      refine ev_iload (np := 72) dX0_findUnlike_70 rfl rfl ?_
      refine ev_iload (np := 74) dX0_findUnlike_72 rfl rfl ?_
      refine ev_Vv2 (np := 77) moX6_set sX0_findUnlike_74 (sem_set rowU N2 (by omega)) rfl rfl (Nat.le_of_ble_eq_true rfl) rfl ?_
      rw [Int.toNat_natCast]
      refine ev_iinc (np := 80) dX0_findUnlike_77 rfl (by decide) rfl ?_
      refine ev_goto (np := 26) dX0_findUnlike_80 (by decide) ?_
      refine ih (s + 1) _ _ τ' _ (by omega) h1 uu (hf.tr (Fx.upd (by simp [uX]))) up (fun h0 => ?_)
      obtain ⟨a, b⟩ := h2 h0
      have e : (fun a => if a = s then X else u a) = u := by
        funext a
        by_cases g : a = s
        · rw [if_pos g, g, b]
        · rw [if_neg g]
      rw [e]
      intro a' o ha ho
      by_cases g : a' = s
      · rw [g, ← b]; exact hX2 o ho
      · exact hfx a a' o (by omega) ho
    refine ev_istore (np := 42) dX0_findUnlike_40 (by decide) rfl ?_
    refine ev_iload_n (np := 43) dX0_findUnlike_42 rfl rfl ?_
    refine ev_if_ne (tgt := 60) (np := 46) dX0_findUnlike_43 (by decide) rfl (by omega) (fun h1 => ?_) (fun h1 => ?_)
    · refine ev_iconst (np := 61) dX0_findUnlike_60 rfl ?_
      refine ev_goto (np := 65) dX0_findUnlike_61 (by decide) ?_
      exact rest 1 (Or.inr rfl) (fun h => absurd h (by decide))
    · refine ev_iload (np := 48) dX0_findUnlike_46 rfl rfl ?_
      refine ev_aload_n (np := 49) dX0_findUnlike_48 rfl rfl ?_
      refine ev_getR (np := 52) sX0_findUnlike_49 rfl rfl rfl ?_
      refine ev_iload (np := 54) dX0_findUnlike_52 rfl rfl ?_
      refine ev_Vi1 (np := 57) moX6_get sX0_findUnlike_54 (sem_get rowU N2 (by omega)) rfl rfl (Nat.le_of_ble_eq_true rfl) rfl ?_
      rw [Int.toNat_natCast, u1]
      refine ev_icmp_eq (tgt := 64) (np := 60) dX0_findUnlike_57 (by decide) rfl (by omega) (by omega) (fun h2 => ?_) (fun h2 => ?_)
      · refine ev_iconst (np := 65) dX0_findUnlike_64 rfl ?_
        exact rest 0 (Or.inl rfl) (fun _ => ⟨by omega, by omega⟩)
      · refine ev_iconst (np := 61) dX0_findUnlike_60 rfl ?_
        refine ev_goto (np := 65) dX0_findUnlike_61 (by decide) ?_
        exact rest 1 (Or.inr rfl) (fun h => absurd h (by decide))
theorem find_out {M : Mem} {t : Fin 3} {T : Tab} (hT : TWF T) (h : TabT M t T) : ∀ (m r : Nat) (N : Mem) (u : Nat → Nat) (τ : Int) (v w : Option Val), r + m = 16 → (τ = 0 ∨ τ = 1) → UT N u → Fx (uX 21 22) M N → Rnd T r 0 u → (τ = 0 → Fixd T 16 u) → Ev ST miX0_findUnlike 11 [some (.inr (cX 19)), some (.inr (cT t 0)), some (.inl τ), some (.inl (r : Int)), v, w] [] N (fun v N => v = none ∧ AlkT N T ∧ Fx (uX 21 22) M N) := by
  have fx : ∀ u : Nat → Nat, uSnd T u → Fixd T 16 u → ∀ s o, s < 16 → o < 16 → (bt (u s) o = 1 ↔ eqb T 16 s o = false) := by
    intro u h1 h2 s o hs ho
    refine ⟨h1 s o hs ho, fun e => Classical.byContradiction (fun g => ?_)⟩
    have := unl_fix hT (fun a o ha ho => h2 a o ha ho) 16 s o hs ho g
    rw [e] at this
    cases this
  intro m
  induction m with
  | zero =>
    intro r N u τ v w hr ht hu hf hR hfx
    refine ev_iload_n (np := 12) dX0_findUnlike_11 rfl rfl ?_
    refine ev_bipush (np := 14) dX0_findUnlike_12 (by decide) rfl ?_
    refine ev_icmp_ge (tgt := 89) (np := 17) dX0_findUnlike_14 (by decide) rfl (by omega) (by omega) (fun _ => ?_) (fun h => absurd (by omega) h)
    refine ev_vret dX0_findUnlike_89 rfl ?_
    refine ⟨rfl, ⟨u, hu, fun s o hs ho => ⟨hR.1 s o hs ho, fun e => ?_⟩⟩, hf⟩
    exact hR.2.1 s hs o ho (by rw [show r = 16 by omega]; exact e)
  | succ m ih =>
    intro r N u τ v w hr ht hu hf hR hfx
    refine ev_iload_n (np := 12) dX0_findUnlike_11 rfl rfl ?_
    refine ev_bipush (np := 14) dX0_findUnlike_12 (by decide) rfl ?_
    refine ev_icmp_ge (tgt := 89) (np := 17) dX0_findUnlike_14 (by decide) rfl (by omega) (by omega) (fun h => absurd h (by omega)) (fun _ => ?_)
    refine ev_iload_n (np := 18) dX0_findUnlike_17 rfl rfl ?_
    refine ev_if_eq (tgt := 89) (np := 21) dX0_findUnlike_18 (by decide) rfl (by omega) (fun h1 => ?_) (fun h1 => ?_)
    · refine ev_vret dX0_findUnlike_89 rfl ?_
      exact ⟨rfl, ⟨u, hu, fx u hR.1 (hfx h1)⟩, hf⟩
    · refine ev_iconst (np := 22) dX0_findUnlike_21 rfl ?_
      refine ev_istore_n (np := 23) dX0_findUnlike_22 (by decide) rfl ?_
      refine ev_iconst (np := 24) dX0_findUnlike_23 rfl ?_
      refine ev_istore (np := 26) dX0_findUnlike_24 (by decide) rfl ?_
      refine find_in hT h (r := r) ?_ 16 0 N u 0 _ rfl (Or.inl rfl) hu hf hR (fun _ a o ha => absurd ha (Nat.not_lt_zero a))
      intro N2 u2 τ2 v2 w2 ht2 hu2 hf2 hR2 hfx2
      refine ev_iinc (np := 86) dX0_findUnlike_83 rfl (by decide) rfl ?_
      refine ev_goto (np := 11) dX0_findUnlike_86 (by decide) ?_
      exact ih (r + 1) N2 u2 τ2 _ _ (by omega) ht2 hu2 hf2 ⟨hR2.1, fun a ha => hR2.2.2 a ha, fun a ha => absurd ha (Nat.not_lt_zero a)⟩ hfx2
theorem sem_findUnlike {M : Mem} {t : Fin 3} {T : Tab} (hT : TWF T) (h : TabT M t T) : Sem ST miX0_findUnlike [.inr (cX 19), .inr (cT t 0)] M (fun v N => v = none ∧ AlkT N T ∧ Fx (uX 21 22) M N) := by
  refine Sem.of (by decide) ST_ok (Nat.le_of_ble_eq_true rfl) (ls0 := [some (.inr (cX 19)), some (.inr (cT t 0)), none, none, none, none]) rfl ?_
  refine ev_aload_n (np := 1) dX0_findUnlike_0 rfl rfl ?_
  refine ev_getR (np := 4) sX0_findUnlike_1 rfl rfl rfl ?_
  refine ev_Vv0 (np := 7) moX6_clear sX0_findUnlike_4 (sem_clear rowU M) rfl rfl (Nat.le_of_ble_eq_true rfl) rfl ?_
  refine ev_iconst (np := 8) dX0_findUnlike_7 rfl ?_
  refine ev_istore_n (np := 9) dX0_findUnlike_8 (by decide) rfl ?_
  refine ev_iconst (np := 10) dX0_findUnlike_9 rfl ?_
  refine ev_istore_n (np := 11) dX0_findUnlike_10 (by decide) rfl ?_
  refine find_out hT h 16 0 _ (fun _ => 0) 1 _ _ rfl (Or.inr rfl) (fun s hs => ⟨?_, (by decide : (0 : Nat) < 65536)⟩) (fun c hc => ?_) ⟨fun s o _ _ e => ?_, fun a _ o _ e => ?_, fun a ha => absurd ha (Nat.not_lt_zero a)⟩ (fun e => absurd e (by decide))
  · unfold fillM; rw [if_pos ⟨rfl, by omega, by omega⟩]; rfl
  · funext j
    unfold fillM
    rw [if_neg]
    rintro ⟨e, -⟩
    rw [e] at hc
    simp [uX] at hc
  · rw [bt_0] at e; cases e
  · exact absurd e (by simp [eqb])
theorem cnt_lt (p : Nat → Bool) {n : Nat} (h : n ≤ 16) : cnt p n < 17 := by have := cnt_le p n; omega
theorem add_or {x y : Nat} (hx : x < 65536) (hy : y < 65536) (h : x &&& y = 0) : x + y = x ||| y := by
  have h1 := BitVec.add_eq_or_of_and_eq_zero (BitVec.ofNat 17 x) (BitVec.ofNat 17 y) (by
    apply BitVec.eq_of_toNat_eq
    rw [BitVec.toNat_and, BitVec.toNat_ofNat, BitVec.toNat_ofNat, Nat.mod_eq_of_lt (by omega), Nat.mod_eq_of_lt (by omega), h]
    rfl)
  have h2 := congrArg BitVec.toNat h1
  have h3 : x ||| y < 2 ^ 16 := Nat.or_lt_two_pow hx hy
  rw [BitVec.toNat_add, BitVec.toNat_or, BitVec.toNat_ofNat, BitVec.toNat_ofNat, Nat.mod_eq_of_lt (a := x) (by omega), Nat.mod_eq_of_lt (a := y) (by omega), Nat.mod_eq_of_lt (by omega)] at h2
  exact h2
theorem sub_and {X U : Nat} (hX : X < 65536) : X - (X &&& U) = X ^^^ (X &&& U) := by
  have hle : X &&& U ≤ X := Nat.and_le_left
  have h1 : X = (X ^^^ (X &&& U)) + (X &&& U) := by
    rw [add_or (Nat.xor_lt_two_pow (n := 16) hX (by omega)) (by omega)]
    · apply Nat.eq_of_testBit_eq
      intro i
      simp only [Nat.testBit_or, Nat.testBit_and, Nat.testBit_xor]
      cases X.testBit i <;> cases U.testBit i <;> rfl
    · apply Nat.eq_of_testBit_eq
      intro i
      simp only [Nat.testBit_and, Nat.testBit_xor, Nat.zero_testBit]
      cases X.testBit i <;> cases U.testBit i <;> rfl
  omega
/-- x & ~u & (2^s - 1) = 0: no lesser state of x is outside u -/
theorem lesser_iff {X U s : Nat} (hX : X < 65536) : (X - (X &&& U)) % 2 ^ s = 0 ↔ ∀ o, o < s → bt X o = 1 → bt U o = 1 := by
  have e := sub_and (U := U) hX
  rw [e]
  constructor
  · intro h o ho hx
    have := congrArg (fun n => n.testBit o) h
    simp only [Nat.testBit_mod_two_pow, Nat.zero_testBit, Nat.testBit_xor, Nat.testBit_and, ho, decide_true, Bool.true_and] at this
    rw [bt_tb] at hx ⊢
    cases hX : X.testBit o <;> cases hU : U.testBit o <;> simp_all
  · intro h
    apply Nat.eq_of_testBit_eq
    intro i
    simp only [Nat.testBit_mod_two_pow, Nat.zero_testBit, Nat.testBit_xor, Nat.testBit_and]
    by_cases hi : i < s
    · have := h i hi
      rw [bt_tb, bt_tb] at this
      cases hX : X.testBit i <;> cases hU : U.testBit i <;> simp_all
    · simp [hi]
theorem cls_loop {N : Mem} {T : Tab} (hA : AlkT N T) {X : Nat} (hX : X < 65536) {tt : Option Val} {M : Mem} : ∀ (m s : Nat) (w : Option Val), s + m = 16 → Fx (uX 21 22) M N → Ev ST miX0_classesAmong 10 [some (.inr (cX 19)), some (.inl (X : Int)), tt, some (.inl ((cnt (clsP T X) s : Nat) : Int)), some (.inl (s : Int)), w] [] N (fun v N => v = some (.inl (clsS T X : Nat)) ∧ Fx (uX 21 22) M N) := by
  intro m
  induction m with
  | zero =>
    intro s w hs hf
    have := cnt_lt (clsP T X) (n := s) (by omega)
    refine ev_iload (np := 12) dX0_classesAmong_10 rfl rfl ?_
    refine ev_bipush (np := 14) dX0_classesAmong_12 (by decide) rfl ?_
    refine ev_icmp_ge (tgt := 63) (np := 17) dX0_classesAmong_14 (by decide) rfl (by omega) (by omega) (fun _ => ?_) (fun h => absurd (by omega) h)
    refine ev_iload_n (np := 64) dX0_classesAmong_63 rfl rfl ?_
    refine ev_iret dX0_classesAmong_64 rfl ?_
    exact ⟨by rw [show s = 16 by omega]; rfl, hf⟩
  | succ m ih =>
    intro s w hs hf
    have hc := cnt_lt (clsP T X) (n := s) (by omega)
    obtain ⟨u, hu, hA2⟩ := id hA
    have hs16 : s < 16 := by omega
    obtain ⟨u1, u2⟩ := hu s hs16
    have hb := bt_lt X s
    have hle : X - (X &&& u s) ≤ X := Nat.sub_le _ _
    have nx : ∀ (w : Option Val) (c : Nat), c = (if clsP T X s = true then 1 else 0) → Ev ST miX0_classesAmong 57 [some (.inr (cX 19)), some (.inl (X : Int)), tt, some (.inl ((cnt (clsP T X) s + c : Nat) : Int)), some (.inl (s : Int)), w] [] N (fun v N => v = some (.inl (clsS T X : Nat)) ∧ Fx (uX 21 22) M N) := by
      intro w c hc2
      refine ev_iinc (np := 60) dX0_classesAmong_57 rfl (by decide) rfl ?_
      refine ev_goto (np := 10) dX0_classesAmong_60 (by decide) ?_
      have := ih (s + 1) w (by omega) hf
      rw [show cnt (clsP T X) (s + 1) = cnt (clsP T X) s + c by rw [hc2]; rfl] at this
      exact this
    refine ev_iload (np := 12) dX0_classesAmong_10 rfl rfl ?_
    refine ev_bipush (np := 14) dX0_classesAmong_12 (by decide) rfl ?_
    refine ev_icmp_ge (tgt := 63) (np := 17) dX0_classesAmong_14 (by decide) rfl (by omega) (by omega) (fun h => absurd h (by omega)) (fun _ => ?_)
    refine ev_iload_n (np := 18) dX0_classesAmong_17 rfl rfl ?_
    refine ev_aload_n (np := 19) dX0_classesAmong_18 rfl rfl ?_
    refine ev_getR (np := 22) sX0_classesAmong_19 rfl rfl rfl ?_
    refine ev_iload (np := 24) dX0_classesAmong_22 rfl rfl ?_
    refine ev_Vi1 (np := 27) moX6_get sX0_classesAmong_24 (sem_get rowU N (by omega)) rfl rfl (Nat.le_of_ble_eq_true rfl) rfl ?_
    rw [Int.toNat_natCast, u1]
    refine ev_iconst (np := 28) dX0_classesAmong_27 rfl ?_
    refine ev_inot (np := 29) dX0_classesAmong_28 rfl ?_
    refine ev_iandn (np := 30) dX0_classesAmong_29 (by omega) (by omega) rfl ?_
    rw [Int.toNat_natCast, Int.toNat_natCast]
    refine ev_iconst (np := 31) dX0_classesAmong_30 rfl ?_
    refine ev_iload (np := 33) dX0_classesAmong_31 rfl rfl ?_
    refine ev_ishl (np := 34) dX0_classesAmong_33 (by omega) rfl ?_
    refine ev_iconst (np := 35) dX0_classesAmong_34 rfl ?_
    refine ev_isub (np := 36) dX0_classesAmong_35 rfl ?_
    refine ev_iandm s (np := 37) dX0_classesAmong_36 (by omega) (by rw [Int.toNat_natCast, Int.one_mul]; have := Nat.two_pow_pos s; omega) rfl ?_
    refine ev_istore (np := 39) dX0_classesAmong_37 (by decide) rfl ?_
    refine ev_iload_n (np := 40) dX0_classesAmong_39 rfl rfl ?_
    refine ev_iload (np := 42) dX0_classesAmong_40 rfl rfl ?_
    refine ev_Ni2 (np := 45) moX9_bitOf sX0_classesAmong_42 (sem_bit N (b := X) (p := s) (by omega) (by omega)) (Nat.le_of_ble_eq_true rfl) rfl ?_
    have key : (((X - (X &&& u s) : Nat) : Int) % ((2 ^ s : Nat) : Int) = 0) ↔ ∀ o, o < s → bt X o = 1 → eqb T 16 s o = false := by
      rw [← Int.natCast_emod]
      have h1 := lesser_iff (U := u s) (s := s) hX
      constructor
      · intro h o ho hx
        exact (hA2 s o hs16 (by omega)).mp (h1.mp (by omega) o ho hx)
      · intro h
        have := h1.mpr (fun o ho hx => (hA2 s o hs16 (by omega)).mpr (h o ho hx))
        omega
    have hm : 0 ≤ ((X - (X &&& u s) : Nat) : Int) % ((2 ^ s : Nat) : Int) ∧ ((X - (X &&& u s) : Nat) : Int) % ((2 ^ s : Nat) : Int) < 65536 := by
      rw [← Int.natCast_emod]
      have := Nat.mod_le (X - (X &&& u s)) (2 ^ s)
      omega
    generalize ((X - (X &&& u s) : Nat) : Int) % ((2 ^ s : Nat) : Int) = lm at key hm ⊢
    refine ev_iconst (np := 46) dX0_classesAmong_45 rfl ?_
    refine ev_icmp_ne (tgt := 57) (np := 49) dX0_classesAmong_46 (by decide) rfl (by omega) (by omega) (fun h1 => ?_) (fun h1 => ?_)
    · refine nx _ 0 ?_
      rw [if_neg]
      intro g
      exact h1 (by have := (clsP_iff.mp g).1; omega)
    · refine ev_iload (np := 51) dX0_classesAmong_49 rfl rfl ?_
      refine ev_if_ne (tgt := 57) (np := 54) dX0_classesAmong_51 (by decide) rfl (by omega) (fun h2 => ?_) (fun h2 => ?_)
      · refine nx _ 0 ?_
        rw [if_neg]
        intro g
        exact h2 (key.mpr (clsP_iff.mp g).2)
      · refine ev_iinc (np := 57) dX0_classesAmong_54 rfl (by decide) rfl ?_
        refine nx _ 1 ?_
        rw [if_pos (clsP_iff.mpr ⟨by omega, key.mp h2⟩)]
theorem sem_classesAmong {M : Mem} {t : Fin 3} {T : Tab} (hT : TWF T) (h : TabT M t T) {X : Nat} (hX : X < 65536) : Sem ST miX0_classesAmong [.inr (cX 19), .inl (X : Int), .inr (cT t 0)] M (fun v N => v = some (.inl (clsS T X : Nat)) ∧ Fx (uX 21 22) M N) := by
  refine Sem.of (by decide) ST_ok (Nat.le_of_ble_eq_true rfl) (ls0 := [some (.inr (cX 19)), some (.inl (X : Int)), some (.inr (cT t 0)), none, none, none]) rfl ?_
  refine ev_aload_n (np := 1) dX0_classesAmong_0 rfl rfl ?_
  refine ev_aload_n (np := 2) dX0_classesAmong_1 rfl rfl ?_
  refine ev_V1 (np := 5) moX0_findUnlike sX0_classesAmong_2 (sem_findUnlike hT h) rfl rfl (Nat.le_of_ble_eq_true rfl) rfl (fun v N hq => ?_)
  obtain ⟨rfl, hA, hf⟩ := hq
  refine ev_iconst (np := 6) dX0_classesAmong_5 rfl ?_
  refine ev_istore_n (np := 7) dX0_classesAmong_6 (by decide) rfl ?_
  refine ev_iconst (np := 8) dX0_classesAmong_7 rfl ?_
  refine ev_istore (np := 10) dX0_classesAmong_8 (by decide) rfl ?_
  exact cls_loop hA hX 16 0 none rfl hf
end
section
/-! THE WALK OVER THE PAIRS, in the class -/
def PwT (N : Mem) (s : Bst) : Prop := N (cX 1) 6 = (bn s : Int) ∧ (∀ c, c < 256 → N (cX 3) c = if bmet s c = true then 1 else 0) ∧ (∀ j, j < bn s → N (cX 5) j = (bz s j : Int)) ∧ (∀ j, j < bn s → N (cX 7) j = (bo s j : Int)) ∧ (∀ j, j < bn s → N (cX 9) j = (btk s j : Int)) ∧ (∀ j, 0 < j → j < bn s → N (cX 11) j = (bah s j : Int)) ∧ ∀ j, j < bn s → N (cX 13) j = (bli s j : Int)
theorem Fx.pw {U : Cc → Bool} {M N : Mem} (h : Fx U M N) (hu : ∀ n, n < 14 → U (cX n) = false) {s : Bst} (hp : PwT M s) : PwT N s := by
  obtain ⟨h1, h2, h3, h4, h5, h6, h7⟩ := hp
  refine ⟨by rw [h _ (hu _ (by decide))]; exact h1, ?_, ?_, ?_, ?_, ?_, ?_⟩
  · rw [h _ (hu _ (by decide))]; exact h2
  · rw [h _ (hu _ (by decide))]; exact h3
  · rw [h _ (hu _ (by decide))]; exact h4
  · rw [h _ (hu _ (by decide))]; exact h5
  · rw [h _ (hu _ (by decide))]; exact h6
  · rw [h _ (hu _ (by decide))]; exact h7
theorem rw2 : IsRow (cX 2) (cX 3) 256 := ⟨rfl, rfl, by decide⟩
theorem rw4 : IsRow (cX 4) (cX 5) 256 := ⟨rfl, rfl, by decide⟩
theorem rw6 : IsRow (cX 6) (cX 7) 256 := ⟨rfl, rfl, by decide⟩
theorem rw8 : IsRow (cX 8) (cX 9) 256 := ⟨rfl, rfl, by decide⟩
theorem rw10 : IsRow (cX 10) (cX 11) 256 := ⟨rfl, rfl, by decide⟩
theorem rw12 : IsRow (cX 12) (cX 13) 256 := ⟨rfl, rfl, by decide⟩
/-- the six writes of a new pair -/
def wPush (M : Mem) (n c : Nat) (z o t a i : Int) : Mem := updM (updM (updM (updM (updM (updM (updM M (cX 3) c 1) (cX 5) n z) (cX 7) n o) (cX 9) n t) (cX 11) n a) (cX 13) n i) (cX 1) 6 ((n : Int) + 1)
theorem wPush_ok {M : Mem} {s : Bst} (h : PwT M s) {z o t a i : Nat} (hz : z < 16) (ho : o < 16) (A : Int) (hA : 0 < bn s → A = (a : Int)) : PwT (wPush M (bn s) (16 * z + o) z o t A i) (bPush s z o t a i) ∧ Fx (uX 1 14) M (wPush M (bn s) (16 * z + o) z o t A i) := by
  obtain ⟨h1, h2, h3, h4, h5, h6, h7⟩ := h
  refine ⟨⟨?_, fun c hc => ?_, fun j hj => ?_, fun j hj => ?_, fun j hj => ?_, fun j h0 hj => ?_, fun j hj => ?_⟩, ?_⟩
  · show _ = ((bn s + 1 : Nat) : Int)
    simp [wPush, updM]
  · show _ = if fup (bmet s) (16 * z + o) true c = true then (1 : Int) else 0
    by_cases e : c = 16 * z + o
    · rw [e, fup_s, if_pos rfl]; simp [wPush, updM]
    · rw [fup_n _ _ e, ← h2 c hc]; simp [wPush, updM, e]
  · have hj2 : j < bn s + 1 := hj
    show _ = ((fup (bz s) (bn s) z j : Nat) : Int)
    by_cases e : j = bn s
    · rw [e, fup_s]; simp [wPush, updM]
    · rw [fup_n _ _ e, ← h3 j (by omega)]; simp [wPush, updM, e]
  · have hj2 : j < bn s + 1 := hj
    show _ = ((fup (bo s) (bn s) o j : Nat) : Int)
    by_cases e : j = bn s
    · rw [e, fup_s]; simp [wPush, updM]
    · rw [fup_n _ _ e, ← h4 j (by omega)]; simp [wPush, updM, e]
  · have hj2 : j < bn s + 1 := hj
    show _ = ((fup (btk s) (bn s) t j : Nat) : Int)
    by_cases e : j = bn s
    · rw [e, fup_s]; simp [wPush, updM]
    · rw [fup_n _ _ e, ← h5 j (by omega)]; simp [wPush, updM, e]
  · have hj2 : j < bn s + 1 := hj
    show _ = ((fup (bah s) (bn s) a j : Nat) : Int)
    by_cases e : j = bn s
    · rw [e, fup_s, ← hA (by omega)]; simp [wPush, updM]
    · rw [fup_n _ _ e, ← h6 j h0 (by omega)]; simp [wPush, updM, e]
  · have hj2 : j < bn s + 1 := hj
    show _ = ((fup (bli s) (bn s) i j : Nat) : Int)
    by_cases e : j = bn s
    · rw [e, fup_s]; simp [wPush, updM]
    · rw [fup_n _ _ e, ← h7 j (by omega)]; simp [wPush, updM, e]
  · unfold wPush
    exact ((((((Fx.upd rfl).tr (Fx.upd rfl)).tr (Fx.upd rfl)).tr (Fx.upd rfl)).tr (Fx.upd rfl)).tr (Fx.upd rfl)).tr (Fx.upd rfl)
theorem sem_pmeet {M : Mem} {s : Bst} (hB : BI s) (h : PwT M s) {z o k i : Nat} (hz : z < 16) (ho : o < 16) (hk : k < bn s) : Sem ST miX4_meet [.inr (cX 1), .inl (z : Int), .inl (o : Int), .inl (k : Int), .inl (i : Int)] M (fun v N => v = none ∧ PwT N (bMeet s z o k i) ∧ Fx (uX 1 14) M N) := by
  refine Sem.of (by decide) ST_ok (Nat.le_of_ble_eq_true rfl) (ls0 := [some (.inr (cX 1)), some (.inl (z : Int)), some (.inl (o : Int)), some (.inl (k : Int)), some (.inl (i : Int)), none]) rfl ?_
  have hle := hB.le
  obtain ⟨h1, h2, h3, h4, h5, h6, h7⟩ := id h
  have hmm := h2 (16 * z + o) (by omega)
  refine ev_iload_n (np := 1) dX4_meet_0 rfl rfl ?_
  refine ev_bipush (np := 3) dX4_meet_1 (by decide) rfl ?_
  refine ev_imul (np := 4) dX4_meet_3 rfl ?_
  refine ev_iload_n (np := 5) dX4_meet_4 rfl rfl ?_
  refine ev_iadd (np := 6) dX4_meet_5 rfl ?_
  refine ev_istore (np := 8) dX4_meet_6 (by decide) rfl ?_
  refine ev_aload_n (np := 9) dX4_meet_8 rfl rfl ?_
  refine ev_getR (np := 12) sX4_meet_9 rfl rfl rfl ?_
  refine ev_iload (np := 14) dX4_meet_12 rfl rfl ?_
  refine ev_Vi1 (np := 17) moX6_get sX4_meet_14 (sem_get rw2 M (by omega)) rfl rfl (Nat.le_of_ble_eq_true rfl) rfl ?_
  rw [show ((z : Int) * 16 + (o : Int)).toNat = 16 * z + o by omega, hmm]
  refine ev_iconst (np := 18) dX4_meet_17 rfl ?_
  by_cases hm : bmet s (16 * z + o) = true
  · rw [if_pos hm]
    refine ev_icmp_eq (tgt := 31) (np := 21) dX4_meet_18 (by decide) rfl (by omega) (by omega) (fun _ => ?_) (fun h => absurd (by omega) h)
    refine ev_vret dX4_meet_31 rfl ?_
    rw [bMeet, if_pos hm]
    exact ⟨rfl, h, Fx.rf⟩
  · have hn := hB.lt hz ho hm
    have htk := (hB.2 k hk).2.2.1
    rw [if_neg hm]
    refine ev_icmp_eq (tgt := 31) (np := 21) dX4_meet_18 (by decide) rfl (by omega) (by omega) (fun h => absurd h (by omega)) (fun _ => ?_)
    refine ev_aload_n (np := 22) dX4_meet_21 rfl rfl ?_
    refine ev_getI (np := 25) sX4_meet_22 rfl rfl rfl ?_
    rw [h1]
    refine ev_sipush (np := 28) dX4_meet_25 (by decide) rfl ?_
    refine ev_icmp_lt (tgt := 32) (np := 31) dX4_meet_28 (by decide) rfl (by omega) (by omega) (fun _ => ?_) (fun h => absurd (by omega) h)
    refine ev_aload_n (np := 33) dX4_meet_32 rfl rfl ?_
    refine ev_getR (np := 36) sX4_meet_33 rfl rfl rfl ?_
    refine ev_iload (np := 38) dX4_meet_36 rfl rfl ?_
    refine ev_iconst (np := 39) dX4_meet_38 rfl ?_
    refine ev_Vv2 (np := 42) moX6_set sX4_meet_39 (sem_set rw2 M (by omega)) rfl rfl (Nat.le_of_ble_eq_true rfl) rfl ?_
    rw [show ((z : Int) * 16 + (o : Int)).toNat = 16 * z + o by omega]
    refine ev_aload_n (np := 43) dX4_meet_42 rfl rfl ?_
    refine ev_getR (np := 46) sX4_meet_43 rfl rfl rfl ?_
    refine ev_aload_n (np := 47) dX4_meet_46 rfl rfl ?_
    refine ev_getI (np := 50) sX4_meet_47 rfl rfl rfl ?_
    rw [show updM M (cX 3) (16 * z + o) 1 (cX 1) 6 = (bn s : Int) by rw [← h1]; simp [updM]]
    refine ev_iload_n (np := 51) dX4_meet_50 rfl rfl ?_
    refine ev_Vv2 (np := 54) moX6_set sX4_meet_51 (sem_set rw4 _ (by omega)) rfl rfl (Nat.le_of_ble_eq_true rfl) rfl ?_
    rw [Int.toNat_natCast]
    refine ev_aload_n (np := 55) dX4_meet_54 rfl rfl ?_
    refine ev_getR (np := 58) sX4_meet_55 rfl rfl rfl ?_
    refine ev_aload_n (np := 59) dX4_meet_58 rfl rfl ?_
    refine ev_getI (np := 62) sX4_meet_59 rfl rfl rfl ?_
    rw [show updM (updM M (cX 3) (16 * z + o) 1) (cX 5) (bn s) (z : Int) (cX 1) 6 = (bn s : Int) by rw [← h1]; simp [updM]]
    refine ev_iload_n (np := 63) dX4_meet_62 rfl rfl ?_
    refine ev_Vv2 (np := 66) moX6_set sX4_meet_63 (sem_set rw6 _ (by omega)) rfl rfl (Nat.le_of_ble_eq_true rfl) rfl ?_
    rw [Int.toNat_natCast]
    refine ev_aload_n (np := 67) dX4_meet_66 rfl rfl ?_
    refine ev_getR (np := 70) sX4_meet_67 rfl rfl rfl ?_
    refine ev_aload_n (np := 71) dX4_meet_70 rfl rfl ?_
    refine ev_getI (np := 74) sX4_meet_71 rfl rfl rfl ?_
    rw [show updM (updM (updM M (cX 3) (16 * z + o) 1) (cX 5) (bn s) (z : Int)) (cX 7) (bn s) (o : Int) (cX 1) 6 = (bn s : Int) by rw [← h1]; simp [updM]]
    refine ev_iload_n (np := 75) dX4_meet_74 rfl rfl ?_
    refine ev_if_ge (tgt := 82) (np := 78) dX4_meet_75 (by decide) rfl (by omega) (fun _ => ?_) (fun h => absurd (by omega) h)
    refine ev_aload_n (np := 83) dX4_meet_82 rfl rfl ?_
    refine ev_getR (np := 86) sX4_meet_83 rfl rfl rfl ?_
    refine ev_iload_n (np := 87) dX4_meet_86 rfl rfl ?_
    refine ev_Vi1 (np := 90) moX6_get sX4_meet_87 (sem_get rw8 _ (by omega)) rfl rfl (Nat.le_of_ble_eq_true rfl) rfl ?_
    rw [Int.toNat_natCast, show updM (updM (updM M (cX 3) (16 * z + o) 1) (cX 5) (bn s) (z : Int)) (cX 7) (bn s) (o : Int) (cX 9) k = (btk s k : Int) by rw [← h5 k hk]; simp [updM]]
    refine ev_iconst (np := 91) dX4_meet_90 rfl ?_
    refine ev_iadd (np := 92) dX4_meet_91 rfl ?_
    refine ev_Vv2 (np := 95) moX6_set sX4_meet_92 (sem_set rw8 _ (by omega)) rfl rfl (Nat.le_of_ble_eq_true rfl) rfl ?_
    rw [Int.toNat_natCast]
    refine ev_aload_n (np := 96) dX4_meet_95 rfl rfl ?_
    refine ev_getR (np := 99) sX4_meet_96 rfl rfl rfl ?_
    refine ev_aload_n (np := 100) dX4_meet_99 rfl rfl ?_
    refine ev_getI (np := 103) sX4_meet_100 rfl rfl rfl ?_
    rw [show updM (updM (updM (updM M (cX 3) (16 * z + o) 1) (cX 5) (bn s) (z : Int)) (cX 7) (bn s) (o : Int)) (cX 9) (bn s) ((btk s k : Int) + 1) (cX 1) 6 = (bn s : Int) by rw [← h1]; simp [updM]]
    refine ev_iload_n (np := 104) dX4_meet_103 rfl rfl ?_
    refine ev_Vv2 (np := 107) moX6_set sX4_meet_104 (sem_set rw10 _ (by omega)) rfl rfl (Nat.le_of_ble_eq_true rfl) rfl ?_
    rw [Int.toNat_natCast]
    refine ev_aload_n (np := 108) dX4_meet_107 rfl rfl ?_
    refine ev_getR (np := 111) sX4_meet_108 rfl rfl rfl ?_
    refine ev_aload_n (np := 112) dX4_meet_111 rfl rfl ?_
    refine ev_getI (np := 115) sX4_meet_112 rfl rfl rfl ?_
    rw [show updM (updM (updM (updM (updM M (cX 3) (16 * z + o) 1) (cX 5) (bn s) (z : Int)) (cX 7) (bn s) (o : Int)) (cX 9) (bn s) ((btk s k : Int) + 1)) (cX 11) (bn s) (k : Int) (cX 1) 6 = (bn s : Int) by rw [← h1]; simp [updM]]
    refine ev_iload (np := 117) dX4_meet_115 rfl rfl ?_
    refine ev_Vv2 (np := 120) moX6_set sX4_meet_117 (sem_set rw12 _ (by omega)) rfl rfl (Nat.le_of_ble_eq_true rfl) rfl ?_
    rw [Int.toNat_natCast]
    refine ev_aload_n (np := 121) dX4_meet_120 rfl rfl ?_
    refine ev_dup (np := 122) dX4_meet_121 rfl ?_
    refine ev_getI (np := 125) sX4_meet_122 rfl rfl rfl ?_
    rw [show updM (updM (updM (updM (updM (updM M (cX 3) (16 * z + o) 1) (cX 5) (bn s) (z : Int)) (cX 7) (bn s) (o : Int)) (cX 9) (bn s) ((btk s k : Int) + 1)) (cX 11) (bn s) (k : Int)) (cX 13) (bn s) (i : Int) (cX 1) 6 = (bn s : Int) by rw [← h1]; simp [updM]]
    refine ev_iconst (np := 126) dX4_meet_125 rfl ?_
    refine ev_iadd (np := 127) dX4_meet_126 rfl ?_
    refine ev_put (np := 130) sX4_meet_127 rfl rfl rfl ?_
    refine ev_vret dX4_meet_130 rfl ?_
    rw [bMeet, if_neg hm]
    have := wPush_ok h hz ho (t := btk s k + 1) (a := k) (i := i) (k : Int) (fun _ => rfl)
    exact ⟨rfl, this.1, this.2⟩
theorem sem_pmeet0 {M : Mem} (h : PwT M b0) {z o : Nat} (hz : z < 16) (ho : o < 16) : Sem ST miX4_meet [.inr (cX 1), .inl (z : Int), .inl (o : Int), .inl (-1), .inl 0] M (fun v N => v = none ∧ PwT N (bPush b0 z o 0 0 0) ∧ Fx (uX 1 14) M N) := by
  refine Sem.of (by decide) ST_ok (Nat.le_of_ble_eq_true rfl) (ls0 := [some (.inr (cX 1)), some (.inl (z : Int)), some (.inl (o : Int)), some (.inl (-1)), some (.inl 0), none]) rfl ?_
  obtain ⟨h1, h2, h3, h4, h5, h6, h7⟩ := id h
  have h1 : M (cX 1) 6 = 0 := h1
  have hmm : M (cX 3) (16 * z + o) = 0 := h2 (16 * z + o) (by omega)
  refine ev_iload_n (np := 1) dX4_meet_0 rfl rfl ?_
  refine ev_bipush (np := 3) dX4_meet_1 (by decide) rfl ?_
  refine ev_imul (np := 4) dX4_meet_3 rfl ?_
  refine ev_iload_n (np := 5) dX4_meet_4 rfl rfl ?_
  refine ev_iadd (np := 6) dX4_meet_5 rfl ?_
  refine ev_istore (np := 8) dX4_meet_6 (by decide) rfl ?_
  refine ev_aload_n (np := 9) dX4_meet_8 rfl rfl ?_
  refine ev_getR (np := 12) sX4_meet_9 rfl rfl rfl ?_
  refine ev_iload (np := 14) dX4_meet_12 rfl rfl ?_
  refine ev_Vi1 (np := 17) moX6_get sX4_meet_14 (sem_get rw2 M (by omega)) rfl rfl (Nat.le_of_ble_eq_true rfl) rfl ?_
  rw [show ((z : Int) * 16 + (o : Int)).toNat = 16 * z + o by omega, hmm]
  refine ev_iconst (np := 18) dX4_meet_17 rfl ?_
  refine ev_icmp_eq (tgt := 31) (np := 21) dX4_meet_18 (by decide) rfl (by omega) (by omega) (fun h => absurd h (by omega)) (fun _ => ?_)
  refine ev_aload_n (np := 22) dX4_meet_21 rfl rfl ?_
  refine ev_getI (np := 25) sX4_meet_22 rfl rfl rfl ?_
  rw [h1]
  refine ev_sipush (np := 28) dX4_meet_25 (by decide) rfl ?_
  refine ev_icmp_lt (tgt := 32) (np := 31) dX4_meet_28 (by decide) rfl (by omega) (by omega) (fun _ => ?_) (fun h => absurd (by omega) h)
  refine ev_aload_n (np := 33) dX4_meet_32 rfl rfl ?_
  refine ev_getR (np := 36) sX4_meet_33 rfl rfl rfl ?_
  refine ev_iload (np := 38) dX4_meet_36 rfl rfl ?_
  refine ev_iconst (np := 39) dX4_meet_38 rfl ?_
  refine ev_Vv2 (np := 42) moX6_set sX4_meet_39 (sem_set rw2 M (by omega)) rfl rfl (Nat.le_of_ble_eq_true rfl) rfl ?_
  rw [show ((z : Int) * 16 + (o : Int)).toNat = 16 * z + o by omega]
  refine ev_aload_n (np := 43) dX4_meet_42 rfl rfl ?_
  refine ev_getR (np := 46) sX4_meet_43 rfl rfl rfl ?_
  refine ev_aload_n (np := 47) dX4_meet_46 rfl rfl ?_
  refine ev_getI (np := 50) sX4_meet_47 rfl rfl rfl ?_
  rw [show updM M (cX 3) (16 * z + o) 1 (cX 1) 6 = 0 by rw [← h1]; simp [updM]]
  refine ev_iload_n (np := 51) dX4_meet_50 rfl rfl ?_
  refine ev_Vv2 (np := 54) moX6_set sX4_meet_51 (sem_set rw4 _ (by omega)) rfl rfl (Nat.le_of_ble_eq_true rfl) rfl ?_
  refine ev_aload_n (np := 55) dX4_meet_54 rfl rfl ?_
  refine ev_getR (np := 58) sX4_meet_55 rfl rfl rfl ?_
  refine ev_aload_n (np := 59) dX4_meet_58 rfl rfl ?_
  refine ev_getI (np := 62) sX4_meet_59 rfl rfl rfl ?_
  rw [show updM (updM M (cX 3) (16 * z + o) 1) (cX 5) (0 : Int).toNat (z : Int) (cX 1) 6 = 0 by rw [← h1]; simp [updM]]
  refine ev_iload_n (np := 63) dX4_meet_62 rfl rfl ?_
  refine ev_Vv2 (np := 66) moX6_set sX4_meet_63 (sem_set rw6 _ (by omega)) rfl rfl (Nat.le_of_ble_eq_true rfl) rfl ?_
  refine ev_aload_n (np := 67) dX4_meet_66 rfl rfl ?_
  refine ev_getR (np := 70) sX4_meet_67 rfl rfl rfl ?_
  refine ev_aload_n (np := 71) dX4_meet_70 rfl rfl ?_
  refine ev_getI (np := 74) sX4_meet_71 rfl rfl rfl ?_
  rw [show updM (updM (updM M (cX 3) (16 * z + o) 1) (cX 5) (0 : Int).toNat (z : Int)) (cX 7) (0 : Int).toNat (o : Int) (cX 1) 6 = 0 by rw [← h1]; simp [updM]]
  refine ev_iload_n (np := 75) dX4_meet_74 rfl rfl ?_
  refine ev_if_ge (tgt := 82) (np := 78) dX4_meet_75 (by decide) rfl (by omega) (fun h => absurd h (by omega)) (fun _ => ?_)
  refine ev_iconst (np := 79) dX4_meet_78 rfl ?_
  refine ev_goto (np := 92) dX4_meet_79 (by decide) ?_
  refine ev_Vv2 (np := 95) moX6_set sX4_meet_92 (sem_set rw8 _ (by omega)) rfl rfl (Nat.le_of_ble_eq_true rfl) rfl ?_
  refine ev_aload_n (np := 96) dX4_meet_95 rfl rfl ?_
  refine ev_getR (np := 99) sX4_meet_96 rfl rfl rfl ?_
  refine ev_aload_n (np := 100) dX4_meet_99 rfl rfl ?_
  refine ev_getI (np := 103) sX4_meet_100 rfl rfl rfl ?_
  rw [show updM (updM (updM (updM M (cX 3) (16 * z + o) 1) (cX 5) (0 : Int).toNat (z : Int)) (cX 7) (0 : Int).toNat (o : Int)) (cX 9) (0 : Int).toNat 0 (cX 1) 6 = 0 by rw [← h1]; simp [updM]]
  refine ev_iload_n (np := 104) dX4_meet_103 rfl rfl ?_
  refine ev_Vv2 (np := 107) moX6_set sX4_meet_104 (sem_set rw10 _ (by omega)) rfl rfl (Nat.le_of_ble_eq_true rfl) rfl ?_
  refine ev_aload_n (np := 108) dX4_meet_107 rfl rfl ?_
  refine ev_getR (np := 111) sX4_meet_108 rfl rfl rfl ?_
  refine ev_aload_n (np := 112) dX4_meet_111 rfl rfl ?_
  refine ev_getI (np := 115) sX4_meet_112 rfl rfl rfl ?_
  rw [show updM (updM (updM (updM (updM M (cX 3) (16 * z + o) 1) (cX 5) (0 : Int).toNat (z : Int)) (cX 7) (0 : Int).toNat (o : Int)) (cX 9) (0 : Int).toNat 0) (cX 11) (0 : Int).toNat (-1) (cX 1) 6 = 0 by rw [← h1]; simp [updM]]
  refine ev_iload (np := 117) dX4_meet_115 rfl rfl ?_
  refine ev_Vv2 (np := 120) moX6_set sX4_meet_117 (sem_set rw12 _ (by omega)) rfl rfl (Nat.le_of_ble_eq_true rfl) rfl ?_
  refine ev_aload_n (np := 121) dX4_meet_120 rfl rfl ?_
  refine ev_dup (np := 122) dX4_meet_121 rfl ?_
  refine ev_getI (np := 125) sX4_meet_122 rfl rfl rfl ?_
  rw [show updM (updM (updM (updM (updM (updM M (cX 3) (16 * z + o) 1) (cX 5) (0 : Int).toNat (z : Int)) (cX 7) (0 : Int).toNat (o : Int)) (cX 9) (0 : Int).toNat 0) (cX 11) (0 : Int).toNat (-1)) (cX 13) (0 : Int).toNat 0 (cX 1) 6 = 0 by rw [← h1]; simp [updM]]
  refine ev_iconst (np := 126) dX4_meet_125 rfl ?_
  refine ev_iadd (np := 127) dX4_meet_126 rfl ?_
  refine ev_put (np := 130) sX4_meet_127 rfl rfl rfl ?_
  refine ev_vret dX4_meet_130 rfl ?_
  have := wPush_ok h hz ho (t := 0) (a := 0) (i := 0) (-1) (fun h => absurd h (by decide))
  exact ⟨rfl, this.1, this.2⟩
theorem sem_psize {M : Mem} {s : Bst} (h : PwT M s) : Sem ST miX4_size [.inr (cX 1)] M (Ri (bn s : Nat) M) := by
  refine Sem.of (by decide) ST_ok (Nat.le_of_ble_eq_true rfl) (ls0 := [some (.inr (cX 1))]) rfl ?_
  refine ev_aload_n (np := 1) dX4_size_0 rfl rfl ?_
  refine ev_getI (np := 4) sX4_size_1 rfl rfl rfl ?_
  rw [h.1]
  refine ev_iret dX4_size_4 rfl ?_
  exact ⟨rfl, rfl⟩
theorem sem_pzero {M : Mem} {s : Bst} (hB : BI s) (h : PwT M s) {p : Nat} (hp : p < bn s) : Sem ST miX4_zeroState [.inr (cX 1), .inl (p : Int)] M (Ri (bz s p : Nat) M) := by
  refine Sem.of (by decide) ST_ok (Nat.le_of_ble_eq_true rfl) (ls0 := [some (.inr (cX 1)), some (.inl (p : Int))]) rfl ?_
  have := hB.le
  refine ev_aload_n (np := 1) dX4_zeroState_0 rfl rfl ?_
  refine ev_getR (np := 4) sX4_zeroState_1 rfl rfl rfl ?_
  refine ev_iload_n (np := 5) dX4_zeroState_4 rfl rfl ?_
  refine ev_Vi1 (np := 8) moX6_get sX4_zeroState_5 (sem_get rw4 M (by omega)) rfl rfl (Nat.le_of_ble_eq_true rfl) rfl ?_
  rw [Int.toNat_natCast, h.2.2.1 p hp]
  refine ev_iret dX4_zeroState_8 rfl ?_
  exact ⟨rfl, rfl⟩
theorem sem_pone {M : Mem} {s : Bst} (hB : BI s) (h : PwT M s) {p : Nat} (hp : p < bn s) : Sem ST miX4_oneState [.inr (cX 1), .inl (p : Int)] M (Ri (bo s p : Nat) M) := by
  refine Sem.of (by decide) ST_ok (Nat.le_of_ble_eq_true rfl) (ls0 := [some (.inr (cX 1)), some (.inl (p : Int))]) rfl ?_
  have := hB.le
  refine ev_aload_n (np := 1) dX4_oneState_0 rfl rfl ?_
  refine ev_getR (np := 4) sX4_oneState_1 rfl rfl rfl ?_
  refine ev_iload_n (np := 5) dX4_oneState_4 rfl rfl ?_
  refine ev_Vi1 (np := 8) moX6_get sX4_oneState_5 (sem_get rw6 M (by omega)) rfl rfl (Nat.le_of_ble_eq_true rfl) rfl ?_
  rw [Int.toNat_natCast, h.2.2.2.1 p hp]
  refine ev_iret dX4_oneState_8 rfl ?_
  exact ⟨rfl, rfl⟩
theorem sem_pticks {M : Mem} {s : Bst} (hB : BI s) (h : PwT M s) {p : Nat} (hp : p < bn s) : Sem ST miX4_ticksTo [.inr (cX 1), .inl (p : Int)] M (Ri (btk s p : Nat) M) := by
  refine Sem.of (by decide) ST_ok (Nat.le_of_ble_eq_true rfl) (ls0 := [some (.inr (cX 1)), some (.inl (p : Int))]) rfl ?_
  have := hB.le
  refine ev_aload_n (np := 1) dX4_ticksTo_0 rfl rfl ?_
  refine ev_getR (np := 4) sX4_ticksTo_1 rfl rfl rfl ?_
  refine ev_iload_n (np := 5) dX4_ticksTo_4 rfl rfl ?_
  refine ev_Vi1 (np := 8) moX6_get sX4_ticksTo_5 (sem_get rw8 M (by omega)) rfl rfl (Nat.le_of_ble_eq_true rfl) rfl ?_
  rw [Int.toNat_natCast, h.2.2.2.2.1 p hp]
  refine ev_iret dX4_ticksTo_8 rfl ?_
  exact ⟨rfl, rfl⟩
theorem way_loop {M : Mem} {s : Bst} (hB : BI s) (h : PwT M s) {a b : Option Val} : ∀ (f p : Nat), p < bn s → f < btk s p → Ev ST miX4_inputsOnWay 13 [some (.inr (cX 1)), a, b, some (.inl (p : Int)), some (.inl (f : Int))] [] M (Ri (bli s (bback s f p) : Nat) M) := by
  have hle := hB.le
  intro f
  induction f with
  | zero =>
    intro p hp hf
    refine ev_iload (np := 15) dX4_inputsOnWay_13 rfl rfl ?_
    refine ev_if_le (tgt := 33) (np := 18) dX4_inputsOnWay_15 (by decide) rfl (by omega) (fun _ => ?_) (fun h => absurd (by omega) h)
    refine ev_aload_n (np := 34) dX4_inputsOnWay_33 rfl rfl ?_
    refine ev_getR (np := 37) sX4_inputsOnWay_34 rfl rfl rfl ?_
    refine ev_iload_n (np := 38) dX4_inputsOnWay_37 rfl rfl ?_
    refine ev_Vi1 (np := 41) moX6_get sX4_inputsOnWay_38 (sem_get rw12 M (by omega)) rfl rfl (Nat.le_of_ble_eq_true rfl) rfl ?_
    rw [Int.toNat_natCast, h.2.2.2.2.2.2 p hp]
    refine ev_iret dX4_inputsOnWay_41 rfl ?_
    exact ⟨rfl, rfl⟩
  | succ f ih =>
    intro p hp hf
    have h1 := (hB.2 p hp).2.2.1
    have h2 := (hB.2 p hp).2.2.2.2 (by omega)
    refine ev_iload (np := 15) dX4_inputsOnWay_13 rfl rfl ?_
    refine ev_if_le (tgt := 33) (np := 18) dX4_inputsOnWay_15 (by decide) rfl (by omega) (fun h => absurd h (by omega)) (fun _ => ?_)
    refine ev_aload_n (np := 19) dX4_inputsOnWay_18 rfl rfl ?_
    refine ev_getR (np := 22) sX4_inputsOnWay_19 rfl rfl rfl ?_
    refine ev_iload_n (np := 23) dX4_inputsOnWay_22 rfl rfl ?_
    refine ev_Vi1 (np := 26) moX6_get sX4_inputsOnWay_23 (sem_get rw10 M (by omega)) rfl rfl (Nat.le_of_ble_eq_true rfl) rfl ?_
    rw [Int.toNat_natCast, h.2.2.2.2.2.1 p (by omega) hp]
    refine ev_istore_n (np := 27) dX4_inputsOnWay_26 (by decide) rfl ?_
    refine ev_iinc (np := 30) dX4_inputsOnWay_27 rfl (by decide) rfl ?_
    refine ev_goto (np := 13) dX4_inputsOnWay_30 (by decide) ?_
    rw [show ((f + 1 : Nat) : Int) + (-1) = (f : Int) by omega]
    exact ih (bah s p) (by omega) (by omega)
theorem sem_pway {M : Mem} {s : Bst} (hB : BI s) (h : PwT M s) {p t : Nat} (hp : p < bn s) (ht : t < btk s p) : Sem ST miX4_inputsOnWay [.inr (cX 1), .inl (p : Int), .inl (t : Int)] M (Ri (bway s p t : Nat) M) := by
  refine Sem.of (by decide) ST_ok (Nat.le_of_ble_eq_true rfl) (ls0 := [some (.inr (cX 1)), some (.inl (p : Int)), some (.inl (t : Int)), none, none]) rfl ?_
  refine ev_iload_n (np := 1) dX4_inputsOnWay_0 rfl rfl ?_
  refine ev_istore_n (np := 2) dX4_inputsOnWay_1 (by decide) rfl ?_
  refine ev_aload_n (np := 3) dX4_inputsOnWay_2 rfl rfl ?_
  refine ev_iload_n (np := 4) dX4_inputsOnWay_3 rfl rfl ?_
  refine ev_Vi1 (np := 7) moX4_ticksTo sX4_inputsOnWay_4 (sem_pticks hB h hp) rfl rfl (Nat.le_of_ble_eq_true rfl) rfl ?_
  refine ev_iconst (np := 8) dX4_inputsOnWay_7 rfl ?_
  refine ev_isub (np := 9) dX4_inputsOnWay_8 rfl ?_
  refine ev_iload_n (np := 10) dX4_inputsOnWay_9 rfl rfl ?_
  refine ev_isub (np := 11) dX4_inputsOnWay_10 rfl ?_
  refine ev_istore (np := 13) dX4_inputsOnWay_11 (by decide) rfl ?_
  rw [show (btk s p : Int) - 1 - (t : Int) = ((btk s p - 1 - t : Nat) : Int) by omega]
  exact way_loop hB h (btk s p - 1 - t) p hp (by omega)
theorem walk_in {M : Mem} {t0 t1 : Fin 3} {T0 T1 : Tab} (h0 : TWF T0) (h1 : TWF T1) (g0 : TabT M t0 T0) (g1 : TabT M t1 T1) {s : Bst} (hB : BI s) {k : Nat} (hk : k < bn s) {Q : Option Val → Mem → Prop}
    (K : ∀ (N : Mem) (u : Option Val), PwT N (bIn T0 T1 k 4 s) → Fx (uX 1 14) M N → Ev ST miX4_walkFromFirst 87 [some (.inr (cX 1)), some (.inr (cT t0 0)), some (.inr (cT t1 0)), some (.inl (k : Int)), u] [] N Q) :
    ∀ (m i : Nat) (N : Mem), i + m = 4 → PwT N (bIn T0 T1 k i s) → Fx (uX 1 14) M N → Ev ST miX4_walkFromFirst 46 [some (.inr (cX 1)), some (.inr (cT t0 0)), some (.inr (cT t1 0)), some (.inl (k : Int)), some (.inl (i : Int))] [] N Q := by
  intro m
  induction m with
  | zero =>
    intro i N hi hp hf
    refine ev_iload (np := 48) dX4_walkFromFirst_46 rfl rfl ?_
    refine ev_iconst (np := 49) dX4_walkFromFirst_48 rfl ?_
    refine ev_icmp_ge (tgt := 87) (np := 52) dX4_walkFromFirst_49 (by decide) rfl (by omega) (by omega) (fun _ => ?_) (fun h => absurd (by omega) h)
    rw [show i = 4 by omega] at *
    exact K N _ hp hf
  | succ m ih =>
    intro i N hi hp hf
    obtain ⟨b1, b2⟩ := BI.inn h0 h1 hB hk i (by omega)
    have hk2 : k < bn (bIn T0 T1 k i s) := by omega
    obtain ⟨c1, c2, -⟩ := b1.2 k hk2
    refine ev_iload (np := 48) dX4_walkFromFirst_46 rfl rfl ?_
    refine ev_iconst (np := 49) dX4_walkFromFirst_48 rfl ?_
    refine ev_icmp_ge (tgt := 87) (np := 52) dX4_walkFromFirst_49 (by decide) rfl (by omega) (by omega) (fun h => absurd h (by omega)) (fun _ => ?_)
    refine ev_aload_n (np := 53) dX4_walkFromFirst_52 rfl rfl ?_
    refine ev_aload_n (np := 54) dX4_walkFromFirst_53 rfl rfl ?_
    refine ev_aload_n (np := 55) dX4_walkFromFirst_54 rfl rfl ?_
    refine ev_iload_n (np := 56) dX4_walkFromFirst_55 rfl rfl ?_
    refine ev_Vi1 (np := 59) moX4_zeroState sX4_walkFromFirst_56 (sem_pzero b1 hp hk2) rfl rfl (Nat.le_of_ble_eq_true rfl) rfl ?_
    refine ev_iload (np := 61) dX4_walkFromFirst_59 rfl rfl ?_
    refine ev_Vi2 (np := 64) moX7_stateBehind sX4_walkFromFirst_61 (sem_tBehind (hf.tab (fun o => rfl) g0) c1 (i := i) (by omega)) rfl rfl (Nat.le_of_ble_eq_true rfl) rfl ?_
    refine ev_aload_n (np := 65) dX4_walkFromFirst_64 rfl rfl ?_
    refine ev_aload_n (np := 66) dX4_walkFromFirst_65 rfl rfl ?_
    refine ev_iload_n (np := 67) dX4_walkFromFirst_66 rfl rfl ?_
    refine ev_Vi1 (np := 70) moX4_oneState sX4_walkFromFirst_67 (sem_pone b1 hp hk2) rfl rfl (Nat.le_of_ble_eq_true rfl) rfl ?_
    refine ev_iload (np := 72) dX4_walkFromFirst_70 rfl rfl ?_
    refine ev_Vi2 (np := 75) moX7_stateBehind sX4_walkFromFirst_72 (sem_tBehind (hf.tab (fun o => rfl) g1) c2 (i := i) (by omega)) rfl rfl (Nat.le_of_ble_eq_true rfl) rfl ?_
    refine ev_iload_n (np := 76) dX4_walkFromFirst_75 rfl rfl ?_
    refine ev_iload (np := 78) dX4_walkFromFirst_76 rfl rfl ?_
    refine ev_V4 (np := 81) moX4_meet sX4_walkFromFirst_78 (sem_pmeet b1 hp (h0.1 _ _) (h1.1 _ _) hk2 (i := i)) rfl rfl (Nat.le_of_ble_eq_true rfl) rfl (fun v N2 hq => ?_)
    obtain ⟨rfl, q1, q2⟩ := hq
    refine ev_iinc (np := 84) dX4_walkFromFirst_81 rfl (by decide) rfl ?_
    refine ev_goto (np := 46) dX4_walkFromFirst_84 (by decide) ?_
    exact ih (i + 1) N2 (by omega) q1 (hf.tr q2)
theorem walk_out {M : Mem} {t0 t1 : Fin 3} {T0 T1 : Tab} (h0 : TWF T0) (h1 : TWF T1) (g0 : TabT M t0 T0) (g1 : TabT M t1 T1) : ∀ (f k : Nat) (s : Bst) (N : Mem) (u : Option Val), BI s → k + f = 257 → PwT N s → Fx (uX 1 14) M N → Ev ST miX4_walkFromFirst 28 [some (.inr (cX 1)), some (.inr (cT t0 0)), some (.inr (cT t1 0)), some (.inl (k : Int)), u] [] N (fun v N => v = none ∧ PwT N (bOut T0 T1 f k s) ∧ Fx (uX 1 14) M N) := by
  intro f
  induction f with
  | zero =>
    intro k s N u hB hk hp hf
    have hle := hB.le
    refine ev_iload_n (np := 29) dX4_walkFromFirst_28 rfl rfl ?_
    refine ev_aload_n (np := 30) dX4_walkFromFirst_29 rfl rfl ?_
    refine ev_getI (np := 33) sX4_walkFromFirst_30 rfl rfl rfl ?_
    rw [hp.1]
    refine ev_icmp_ge (tgt := 93) (np := 36) dX4_walkFromFirst_33 (by decide) rfl (by omega) (by omega) (fun _ => ?_) (fun h => absurd (by omega) h)
    refine ev_vret dX4_walkFromFirst_93 rfl ?_
    exact ⟨rfl, hp, hf⟩
  | succ f ih =>
    intro k s N u hB hk hp hf
    have hle := hB.le
    refine ev_iload_n (np := 29) dX4_walkFromFirst_28 rfl rfl ?_
    refine ev_aload_n (np := 30) dX4_walkFromFirst_29 rfl rfl ?_
    refine ev_getI (np := 33) sX4_walkFromFirst_30 rfl rfl rfl ?_
    rw [hp.1]
    unfold bOut
    by_cases hkn : k < bn s
    · refine ev_icmp_ge (tgt := 93) (np := 36) dX4_walkFromFirst_33 (by decide) rfl (by omega) (by omega) (fun h => absurd h (by omega)) (fun _ => ?_)
      refine ev_iload_n (np := 37) dX4_walkFromFirst_36 rfl rfl ?_
      refine ev_sipush (np := 40) dX4_walkFromFirst_37 (by decide) rfl ?_
      refine ev_icmp_ge (tgt := 93) (np := 43) dX4_walkFromFirst_40 (by decide) rfl (by omega) (by omega) (fun h => absurd h (by omega)) (fun _ => ?_)
      refine ev_iconst (np := 44) dX4_walkFromFirst_43 rfl ?_
      refine ev_istore (np := 46) dX4_walkFromFirst_44 (by decide) rfl ?_
      rw [if_pos hkn]
      refine walk_in h0 h1 g0 g1 hB hkn ?_ 4 0 N rfl hp hf
      intro N2 u2 hp2 hf2
      refine ev_iinc (np := 90) dX4_walkFromFirst_87 rfl (by decide) rfl ?_
      refine ev_goto (np := 28) dX4_walkFromFirst_90 (by decide) ?_
      exact ih (k + 1) _ N2 _ (BI.inn h0 h1 hB hkn 4 (by decide)).1 (by omega) hp2 hf2
    · refine ev_icmp_ge (tgt := 93) (np := 36) dX4_walkFromFirst_33 (by decide) rfl (by omega) (by omega) (fun _ => ?_) (fun h => absurd (by omega) h)
      refine ev_vret dX4_walkFromFirst_93 rfl ?_
      rw [if_neg hkn]
      exact ⟨rfl, hp, hf⟩
theorem sem_walk {M : Mem} {t0 t1 : Fin 3} {T0 T1 : Tab} (h0 : TWF T0) (h1 : TWF T1) (g0 : TabT M t0 T0) (g1 : TabT M t1 T1) : Sem ST miX4_walkFromFirst [.inr (cX 1), .inr (cT t0 0), .inr (cT t1 0)] M (fun v N => v = none ∧ PwT N (bfs T0 T1) ∧ Fx (uX 1 14) M N) := by
  refine Sem.of (by decide) ST_ok (Nat.le_of_ble_eq_true rfl) (ls0 := [some (.inr (cX 1)), some (.inr (cT t0 0)), some (.inr (cT t1 0)), none, none]) rfl ?_
  refine ev_aload_n (np := 1) dX4_walkFromFirst_0 rfl rfl ?_
  refine ev_getR (np := 4) sX4_walkFromFirst_1 rfl rfl rfl ?_
  refine ev_Vv0 (np := 7) moX6_clear sX4_walkFromFirst_4 (sem_clear rw2 M) rfl rfl (Nat.le_of_ble_eq_true rfl) rfl ?_
  refine ev_aload_n (np := 8) dX4_walkFromFirst_7 rfl rfl ?_
  refine ev_iconst (np := 9) dX4_walkFromFirst_8 rfl ?_
  refine ev_put (np := 12) sX4_walkFromFirst_9 rfl rfl rfl ?_
  refine ev_aload_n (np := 13) dX4_walkFromFirst_12 rfl rfl ?_
  refine ev_aload_n (np := 14) dX4_walkFromFirst_13 rfl rfl ?_
  generalize hN : updM (fillM M (cX 3) 0 ((256 : Nat) : Int) 0) (cX 1) 6 0 = N
  have f1 : Fx (uX 1 14) M N := by
    intro c hc
    funext j
    rw [← hN]
    unfold updM fillM
    rw [if_neg (by rintro ⟨e, -⟩; rw [e] at hc; simp [uX] at hc), if_neg (by rintro ⟨e, -⟩; rw [e] at hc; simp [uX] at hc)]
  have p0 : PwT N b0 := by
    refine ⟨?_, fun c hc => ?_, fun j hj => absurd hj (Nat.not_lt_zero j), fun j hj => absurd hj (Nat.not_lt_zero j), fun j hj => absurd hj (Nat.not_lt_zero j), fun j _ hj => absurd hj (Nat.not_lt_zero j), fun j hj => absurd hj (Nat.not_lt_zero j)⟩
    · rw [← hN, updM_same]; rfl
    · rw [← hN]
      have : updM (fillM M (cX 3) 0 ((256 : Nat) : Int) 0) (cX 1) 6 0 (cX 3) c = fillM M (cX 3) 0 ((256 : Nat) : Int) 0 (cX 3) c := by simp [updM]
      rw [this]
      unfold fillM
      rw [if_pos ⟨rfl, by omega, by omega⟩]
      rfl
  refine ev_Vi0 (np := 17) moX7_firstState sX4_walkFromFirst_14 (sem_tFirst (f1.tab (fun o => rfl) g0)) rfl rfl (Nat.le_of_ble_eq_true rfl) rfl ?_
  refine ev_aload_n (np := 18) dX4_walkFromFirst_17 rfl rfl ?_
  refine ev_Vi0 (np := 21) moX7_firstState sX4_walkFromFirst_18 (sem_tFirst (f1.tab (fun o => rfl) g1)) rfl rfl (Nat.le_of_ble_eq_true rfl) rfl ?_
  refine ev_iconst (np := 22) dX4_walkFromFirst_21 rfl ?_
  refine ev_iconst (np := 23) dX4_walkFromFirst_22 rfl ?_
  refine ev_V4 (np := 26) moX4_meet sX4_walkFromFirst_23 (sem_pmeet0 p0 h0.2.2 h1.2.2) rfl rfl (Nat.le_of_ble_eq_true rfl) rfl (fun v N2 hq => ?_)
  obtain ⟨rfl, q1, q2⟩ := hq
  refine ev_iconst (np := 27) dX4_walkFromFirst_26 rfl ?_
  refine ev_istore_n (np := 28) dX4_walkFromFirst_27 (by decide) rfl ?_
  exact walk_out h0 h1 g0 g1 257 0 _ N2 none (BI.init h0 h1) rfl q1 (f1.tr q2)
end
